set_option maxHeartbeats 4000000 in
set_option maxRecDepth 100000 in
theorem c_X3_nextInOrder (l : Launch) {D : va_G} {cy : Nat → ClassId} {sa : Nat → Nat} {de B : Nat} {ad : Ad} {S : St} {n : Nat → Nat} {T : St} {k : Nat → Nat} {th : Int32} {X : Rl} {e9 : Nat} {bf o : Option Nat} (ho : eo ad e9 bf = o) : Met l yX3_nextInOrder (Cond.code yX3_nextInOrder cX3_nextInOrder 5 (Option.some (Jvm.ClassFile.FieldType.object "EvenstartGames$Entry")) :: G0) ({ frames := 1, cells := 0, slots := 0, locals := 21 } : Room) (va_Pc [.ref (ad 8 e9 0), va_rf o] (PW D cy sa de B ad (Vw cy de ad S n T k th X) (e9 < n 7 ∧ WF S n ∧ NE S ∧ ∀ b, bf = some b → timeP S e9 b))) (va_Sq (fun r => (nx S e9 bf 16 = none ∧ r = none) ∨ (∃ (w9 : Nat), nx S e9 bf 16 = some w9 ∧ r = some (ad 11 e9 w9)))) 0 0 (fun _ => False) := by
  rcases bf with _ | b
  · skip
    subst ho
    refine E_met (own := RX3) rfl rfl (Nat.le_of_ble_eq_true rfl) ?_
    intro p e s m below meth c hC hr hlk hnm hG h0 ls hl
    have hx := hC.x
    have hb := hC.b
    have hS : va_S (AB B) s.heap s.heap [] := va_S.rf
    have hl : lo ls 5 [some (.ref (ad 8 e9 0)), some (va_rf none), none, none, none] := lo_of hl
    obtain ⟨he, hW, hNE, hbf⟩ := h0
    have hW9 := hW
    obtain ⟨hB0, hB1, hB2, hB3, hB4, hB5, hB6, hB7, hKI, hEI, hKY⟩ := hW9
    refine lv_null hx hb dX3_nextInOrder_0 ?_
    refine o_astore_nq (x := none) hx hb dX3_nextInOrder_1 hl (by decide) rfl (fun ls hl => ?_)
    refine lv_iconst (v := 0) hx hb dX3_nextInOrder_2 (by decide) ?_
    refine o_istore_n hx hb dX3_nextInOrder_3 hl (by decide) rfl (fun ls hl => ?_)
    have loop4 : ∀ (q9 : Nat) (y : Nat), y ≤ 16 ∧ 16 < y + q9 → ∀ ls : Array Slot, lo ls 5 [some (.ref (ad 8 e9 0)), some (va_rf none), some (va_rf (eo ad e9 (nx S e9 none y))), some (.int (nI y)), none] → W p l e ({ frames := 1, cells := 0, slots := 0, locals := 21 } : Room) s m [.ref (ad 8 e9 0), va_rf none].toArray below meth c s.heap [] 0 0 (MQ below (va_Sq (fun r => (nx S e9 none 16 = none ∧ r = none) ∨ (∃ (w9 : Nat), nx S e9 none 16 = some w9 ∧ r = some (ad 11 e9 w9)))) [.ref (ad 8 e9 0), va_rf none].toArray s 0 0 (fun _ => False)) (F0 m 4 ls []) := by
      intro q9
      induction q9 with
      | zero => intro y hq9; exact absurd hq9 (by omega)
      | succ q9 ih4 =>
        intro y hq9   ls hl
        rcases hz : nx S e9 none y with _ | w
        · skip
          rw [hz] at hl
          refine o_iload_n hx hb dX3_nextInOrder_4 hl rfl ?_
          refine o_aload_n hx hb dX3_nextInOrder_5 hl rfl ?_
          refine g_get hC hG us_X3 rfl 2 (by decide) fl_X3_17 (V_event (by omega)) rfl dX3_nextInOrder_6 ?_
          refine g_alen hC hG 5 rfl (V_entA (by omega)) (v := nI 16) rfl dX3_nextInOrder_9 ?_
          refine n_icmp_ge (tgt := 69) hx hb y 16 rfl rfl (by omega) (by omega) dX3_nextInOrder_10 (by decide) (fun h10 => ?_) (fun h10 => ?_)
          · skip
            refine o_aload_nq (x := none) hx hb dX3_nextInOrder_69 hl rfl ?_
            exact R_q hC hr (Or.inl ⟨_, rfl⟩) (v := none) hlk (by first | exact Or.inl ⟨(by rw [show (16 : Nat) = y by omega]; exact hz), rfl⟩ | exact Or.inr ⟨w, (by rw [show (16 : Nat) = y by omega]; exact hz), rfl⟩) dX3_nextInOrder_70
          · skip
            refine o_aload_n hx hb dX3_nextInOrder_13 hl rfl ?_
            refine g_get hC hG us_X3 rfl 2 (by decide) fl_X3_17 (V_event (by omega)) rfl dX3_nextInOrder_14 ?_
            refine o_iload_n hx hb dX3_nextInOrder_17 hl rfl ?_
            refine g_aald hC hG 5 rfl rfl (V_entA (by omega)) _ rfl (by omega) (by omega) dX3_nextInOrder_18 ?_
            rcases hEI e9 y with hn18 | ⟨he18, ha18, q18, hq18, hk18⟩
            · skip
              rw [fEnt_none (show _ = -1 by exact hn18)]
              refine o_astoreq (x := none) hx hb dX3_nextInOrder_19 hl (by decide) rfl (fun ls hl => ?_)
              refine o_aloadq (x := none) hx hb dX3_nextInOrder_21 hl rfl ?_
              refine lv_ifnullN (tgt := 63) hx hb dX3_nextInOrder_23 (by decide) ?_
              refine o_iinc1 hx hb dX3_nextInOrder_63 hl rfl (by decide) rfl (fun ls hl => ?_)
              refine lv_goto (tgt := 4) hx hb dX3_nextInOrder_66 (by decide) ?_
              exact ih4 (y + 1) (by omega) ls (by first | (rw [nx_t (S := S) (e := e9) (bf := none) (c := y) ⟨h28, trivial, by rw [hz]; first | exact h54 | exact trivial⟩]; exact lo_none (i := 4) hl) | (rw [nx_f (S := S) (e := e9) (bf := none) (c := y) (by first | exact fun z => z.1 (hNE _ _ hn18).1 | exact fun z => h28 z.1 | exact fun z => h41 z.2.1 | exact fun z => h54 (by have z3 := z.2.2; rw [hz] at z3; exact z3)), hz]; exact lo_none (i := 4) hl))
            · skip
              have hng18 : neg (S 20 e9 y) = false := by rw [hk18]; exact neg_nI (by omega)
              rw [fEnt_some (show neg _ = false by exact hng18)]
              refine o_astore hx hb dX3_nextInOrder_19 hl (by decide) rfl (fun ls hl => ?_)
              refine o_aload hx hb dX3_nextInOrder_21 hl rfl ?_
              refine lv_ifnull hx hb dX3_nextInOrder_23 ?_
              refine o_aload hx hb dX3_nextInOrder_26 hl rfl ?_
              refine k_X2_hasTime hC hS hG ⟨by omega, by omega, by assumption⟩ ml_X3_51 ⟨Nat.le_of_ble_eq_true rfl, Nat.le_of_ble_eq_true rfl⟩ hl.1 (Nat.le_of_ble_eq_true rfl) dX3_nextInOrder_28 ⟨Nat.le_of_ble_eq_true rfl, Nat.le_of_ble_eq_true rfl⟩ (fun h28 => ?_) (fun h28 => ?_)
              · skip
                refine lv_if_eq (tgt := 63) hx hb dX3_nextInOrder_31 (by decide) (fun h31 => ?_) (fun h31 => ?_)
                · exact absurd h31 (by decide)
                · skip
                  refine o_aload_nq (x := none) hx hb dX3_nextInOrder_34 hl rfl ?_
                  refine lv_ifnullN (tgt := 47) hx hb dX3_nextInOrder_35 (by decide) ?_
                  refine o_aload_nq (x := none) hx hb dX3_nextInOrder_47 hl rfl ?_
                  refine lv_ifnullN (tgt := 60) hx hb dX3_nextInOrder_48 (by decide) ?_
                  refine o_aload hx hb dX3_nextInOrder_60 hl rfl ?_
                  refine o_astore_n hx hb dX3_nextInOrder_62 hl (by decide) rfl (fun ls hl => ?_)
                  refine o_iinc1 hx hb dX3_nextInOrder_63 hl rfl (by decide) rfl (fun ls hl => ?_)
                  refine lv_goto (tgt := 4) hx hb dX3_nextInOrder_66 (by decide) ?_
                  exact ih4 (y + 1) (by omega) ls (by first | (rw [nx_t (S := S) (e := e9) (bf := none) (c := y) ⟨h28, trivial, by rw [hz]; first | exact h54 | exact trivial⟩]; exact lo_none (i := 4) hl) | (rw [nx_f (S := S) (e := e9) (bf := none) (c := y) (by first | exact fun z => z.1 (hNE _ _ hn18).1 | exact fun z => h28 z.1 | exact fun z => h41 z.2.1 | exact fun z => h54 (by have z3 := z.2.2; rw [hz] at z3; exact z3)), hz]; exact lo_none (i := 4) hl))
              · skip
                refine lv_if_eq (tgt := 63) hx hb dX3_nextInOrder_31 (by decide) (fun h31 => ?_) (fun h31 => ?_)
                · skip
                  refine o_iinc1 hx hb dX3_nextInOrder_63 hl rfl (by decide) rfl (fun ls hl => ?_)
                  refine lv_goto (tgt := 4) hx hb dX3_nextInOrder_66 (by decide) ?_
                  exact ih4 (y + 1) (by omega) ls (by first | (rw [nx_t (S := S) (e := e9) (bf := none) (c := y) ⟨h28, trivial, by rw [hz]; first | exact h54 | exact trivial⟩]; exact lo_none (i := 4) hl) | (rw [nx_f (S := S) (e := e9) (bf := none) (c := y) (by first | exact fun z => z.1 (hNE _ _ hn18).1 | exact fun z => h28 z.1 | exact fun z => h41 z.2.1 | exact fun z => h54 (by have z3 := z.2.2; rw [hz] at z3; exact z3)), hz]; exact lo_none (i := 4) hl))
                · exact absurd h31 (by decide)
        · skip
          rw [hz] at hl
          obtain ⟨hw, htw⟩ := nx_in y hz
          obtain ⟨-, hw4, hw16, hnw, qw, hqw, hkw⟩ := live hW hNE htw
          refine o_iload_n hx hb dX3_nextInOrder_4 hl rfl ?_
          refine o_aload_n hx hb dX3_nextInOrder_5 hl rfl ?_
          refine g_get hC hG us_X3 rfl 2 (by decide) fl_X3_17 (V_event (by omega)) rfl dX3_nextInOrder_6 ?_
          refine g_alen hC hG 5 rfl (V_entA (by omega)) (v := nI 16) rfl dX3_nextInOrder_9 ?_
          refine n_icmp_ge (tgt := 69) hx hb y 16 rfl rfl (by omega) (by omega) dX3_nextInOrder_10 (by decide) (fun h10 => ?_) (fun h10 => ?_)
          · skip
            refine o_aload_n hx hb dX3_nextInOrder_69 hl rfl ?_
            exact R_q hC hr (Or.inl ⟨_, rfl⟩) (v := some (ad 11 e9 w)) hlk (by first | exact Or.inl ⟨(by rw [show (16 : Nat) = y by omega]; exact hz), rfl⟩ | exact Or.inr ⟨w, (by rw [show (16 : Nat) = y by omega]; exact hz), rfl⟩) dX3_nextInOrder_70
          · skip
            refine o_aload_n hx hb dX3_nextInOrder_13 hl rfl ?_
            refine g_get hC hG us_X3 rfl 2 (by decide) fl_X3_17 (V_event (by omega)) rfl dX3_nextInOrder_14 ?_
            refine o_iload_n hx hb dX3_nextInOrder_17 hl rfl ?_
            refine g_aald hC hG 5 rfl rfl (V_entA (by omega)) _ rfl (by omega) (by omega) dX3_nextInOrder_18 ?_
            rcases hEI e9 y with hn18 | ⟨he18, ha18, q18, hq18, hk18⟩
            · skip
              rw [fEnt_none (show _ = -1 by exact hn18)]
              refine o_astoreq (x := none) hx hb dX3_nextInOrder_19 hl (by decide) rfl (fun ls hl => ?_)
              refine o_aloadq (x := none) hx hb dX3_nextInOrder_21 hl rfl ?_
              refine lv_ifnullN (tgt := 63) hx hb dX3_nextInOrder_23 (by decide) ?_
              refine o_iinc1 hx hb dX3_nextInOrder_63 hl rfl (by decide) rfl (fun ls hl => ?_)
              refine lv_goto (tgt := 4) hx hb dX3_nextInOrder_66 (by decide) ?_
              exact ih4 (y + 1) (by omega) ls (by first | (rw [nx_t (S := S) (e := e9) (bf := none) (c := y) ⟨h28, trivial, by rw [hz]; first | exact h54 | exact trivial⟩]; exact lo_none (i := 4) hl) | (rw [nx_f (S := S) (e := e9) (bf := none) (c := y) (by first | exact fun z => z.1 (hNE _ _ hn18).1 | exact fun z => h28 z.1 | exact fun z => h41 z.2.1 | exact fun z => h54 (by have z3 := z.2.2; rw [hz] at z3; exact z3)), hz]; exact lo_none (i := 4) hl))
            · skip
              have hng18 : neg (S 20 e9 y) = false := by rw [hk18]; exact neg_nI (by omega)
              rw [fEnt_some (show neg _ = false by exact hng18)]
              refine o_astore hx hb dX3_nextInOrder_19 hl (by decide) rfl (fun ls hl => ?_)
              refine o_aload hx hb dX3_nextInOrder_21 hl rfl ?_
              refine lv_ifnull hx hb dX3_nextInOrder_23 ?_
              refine o_aload hx hb dX3_nextInOrder_26 hl rfl ?_
              refine k_X2_hasTime hC hS hG ⟨by omega, by omega, by assumption⟩ ml_X3_51 ⟨Nat.le_of_ble_eq_true rfl, Nat.le_of_ble_eq_true rfl⟩ hl.1 (Nat.le_of_ble_eq_true rfl) dX3_nextInOrder_28 ⟨Nat.le_of_ble_eq_true rfl, Nat.le_of_ble_eq_true rfl⟩ (fun h28 => ?_) (fun h28 => ?_)
              · skip
                refine lv_if_eq (tgt := 63) hx hb dX3_nextInOrder_31 (by decide) (fun h31 => ?_) (fun h31 => ?_)
                · exact absurd h31 (by decide)
                · skip
                  refine o_aload_nq (x := none) hx hb dX3_nextInOrder_34 hl rfl ?_
                  refine lv_ifnullN (tgt := 47) hx hb dX3_nextInOrder_35 (by decide) ?_
                  refine o_aload_n hx hb dX3_nextInOrder_47 hl rfl ?_
                  refine lv_ifnull hx hb dX3_nextInOrder_48 ?_
                  refine o_aload hx hb dX3_nextInOrder_51 hl rfl ?_
                  refine o_aload_n hx hb dX3_nextInOrder_53 hl rfl ?_
                  refine k_X2_isAheadOf hC hS hG ⟨by omega, by omega, by assumption, by omega, by assumption, by omega, by omega⟩ ml_X3_58 ⟨Nat.le_of_ble_eq_true rfl, Nat.le_of_ble_eq_true rfl⟩ hl.1 (Nat.le_of_ble_eq_true rfl) dX3_nextInOrder_54 ⟨Nat.le_of_ble_eq_true rfl, Nat.le_of_ble_eq_true rfl⟩ (fun h54 => ?_) (fun h54 => ?_)
                  · skip
                    refine lv_if_eq (tgt := 63) hx hb dX3_nextInOrder_57 (by decide) (fun h57 => ?_) (fun h57 => ?_)
                    · exact absurd h57 (by decide)
                    · skip
                      refine o_aload hx hb dX3_nextInOrder_60 hl rfl ?_
                      refine o_astore_n hx hb dX3_nextInOrder_62 hl (by decide) rfl (fun ls hl => ?_)
                      refine o_iinc1 hx hb dX3_nextInOrder_63 hl rfl (by decide) rfl (fun ls hl => ?_)
                      refine lv_goto (tgt := 4) hx hb dX3_nextInOrder_66 (by decide) ?_
                      exact ih4 (y + 1) (by omega) ls (by first | (rw [nx_t (S := S) (e := e9) (bf := none) (c := y) ⟨h28, trivial, by rw [hz]; first | exact h54 | exact trivial⟩]; exact lo_none (i := 4) hl) | (rw [nx_f (S := S) (e := e9) (bf := none) (c := y) (by first | exact fun z => z.1 (hNE _ _ hn18).1 | exact fun z => h28 z.1 | exact fun z => h41 z.2.1 | exact fun z => h54 (by have z3 := z.2.2; rw [hz] at z3; exact z3)), hz]; exact lo_none (i := 4) hl))
                  · skip
                    refine lv_if_eq (tgt := 63) hx hb dX3_nextInOrder_57 (by decide) (fun h57 => ?_) (fun h57 => ?_)
                    · skip
                      refine o_iinc1 hx hb dX3_nextInOrder_63 hl rfl (by decide) rfl (fun ls hl => ?_)
                      refine lv_goto (tgt := 4) hx hb dX3_nextInOrder_66 (by decide) ?_
                      exact ih4 (y + 1) (by omega) ls (by first | (rw [nx_t (S := S) (e := e9) (bf := none) (c := y) ⟨h28, trivial, by rw [hz]; first | exact h54 | exact trivial⟩]; exact lo_none (i := 4) hl) | (rw [nx_f (S := S) (e := e9) (bf := none) (c := y) (by first | exact fun z => z.1 (hNE _ _ hn18).1 | exact fun z => h28 z.1 | exact fun z => h41 z.2.1 | exact fun z => h54 (by have z3 := z.2.2; rw [hz] at z3; exact z3)), hz]; exact lo_none (i := 4) hl))
                    · exact absurd h57 (by decide)
              · skip
                refine lv_if_eq (tgt := 63) hx hb dX3_nextInOrder_31 (by decide) (fun h31 => ?_) (fun h31 => ?_)
                · skip
                  refine o_iinc1 hx hb dX3_nextInOrder_63 hl rfl (by decide) rfl (fun ls hl => ?_)
                  refine lv_goto (tgt := 4) hx hb dX3_nextInOrder_66 (by decide) ?_
                  exact ih4 (y + 1) (by omega) ls (by first | (rw [nx_t (S := S) (e := e9) (bf := none) (c := y) ⟨h28, trivial, by rw [hz]; first | exact h54 | exact trivial⟩]; exact lo_none (i := 4) hl) | (rw [nx_f (S := S) (e := e9) (bf := none) (c := y) (by first | exact fun z => z.1 (hNE _ _ hn18).1 | exact fun z => h28 z.1 | exact fun z => h41 z.2.1 | exact fun z => h54 (by have z3 := z.2.2; rw [hz] at z3; exact z3)), hz]; exact lo_none (i := 4) hl))
                · exact absurd h31 (by decide)
    exact loop4 17 0 (by omega) ls hl
  · skip
    subst ho
    refine E_met (own := RX3) rfl rfl (Nat.le_of_ble_eq_true rfl) ?_
    intro p e s m below meth c hC hr hlk hnm hG h0 ls hl
    have hx := hC.x
    have hb := hC.b
    have hS : va_S (AB B) s.heap s.heap [] := va_S.rf
    have hl : lo ls 5 [some (.ref (ad 8 e9 0)), some (.ref (ad 11 e9 b)), none, none, none] := lo_of hl
    obtain ⟨he, hW, hNE, hbf⟩ := h0
    have hW9 := hW
    obtain ⟨hB0, hB1, hB2, hB3, hB4, hB5, hB6, hB7, hKI, hEI, hKY⟩ := hW9
    have htb := hbf b rfl
    obtain ⟨-, hb4, hb16, hnb, qb, hqb, hkb⟩ := live hW hNE htb
    refine lv_null hx hb dX3_nextInOrder_0 ?_
    refine o_astore_nq (x := none) hx hb dX3_nextInOrder_1 hl (by decide) rfl (fun ls hl => ?_)
    refine lv_iconst (v := 0) hx hb dX3_nextInOrder_2 (by decide) ?_
    refine o_istore_n hx hb dX3_nextInOrder_3 hl (by decide) rfl (fun ls hl => ?_)
    have loop4 : ∀ (q9 : Nat) (y : Nat), y ≤ 16 ∧ 16 < y + q9 → ∀ ls : Array Slot, lo ls 5 [some (.ref (ad 8 e9 0)), some (.ref (ad 11 e9 b)), some (va_rf (eo ad e9 (nx S e9 (some b) y))), some (.int (nI y)), none] → W p l e ({ frames := 1, cells := 0, slots := 0, locals := 21 } : Room) s m [.ref (ad 8 e9 0), va_rf (some (ad 11 e9 b))].toArray below meth c s.heap [] 0 0 (MQ below (va_Sq (fun r => (nx S e9 (some b) 16 = none ∧ r = none) ∨ (∃ (w9 : Nat), nx S e9 (some b) 16 = some w9 ∧ r = some (ad 11 e9 w9)))) [.ref (ad 8 e9 0), va_rf (some (ad 11 e9 b))].toArray s 0 0 (fun _ => False)) (F0 m 4 ls []) := by
      intro q9
      induction q9 with
      | zero => intro y hq9; exact absurd hq9 (by omega)
      | succ q9 ih4 =>
        intro y hq9   ls hl
        rcases hz : nx S e9 (some b) y with _ | w
        · skip
          rw [hz] at hl
          refine o_iload_n hx hb dX3_nextInOrder_4 hl rfl ?_
          refine o_aload_n hx hb dX3_nextInOrder_5 hl rfl ?_
          refine g_get hC hG us_X3 rfl 2 (by decide) fl_X3_17 (V_event (by omega)) rfl dX3_nextInOrder_6 ?_
          refine g_alen hC hG 5 rfl (V_entA (by omega)) (v := nI 16) rfl dX3_nextInOrder_9 ?_
          refine n_icmp_ge (tgt := 69) hx hb y 16 rfl rfl (by omega) (by omega) dX3_nextInOrder_10 (by decide) (fun h10 => ?_) (fun h10 => ?_)
          · skip
            refine o_aload_nq (x := none) hx hb dX3_nextInOrder_69 hl rfl ?_
            exact R_q hC hr (Or.inl ⟨_, rfl⟩) (v := none) hlk (by first | exact Or.inl ⟨(by rw [show (16 : Nat) = y by omega]; exact hz), rfl⟩ | exact Or.inr ⟨w, (by rw [show (16 : Nat) = y by omega]; exact hz), rfl⟩) dX3_nextInOrder_70
          · skip
            refine o_aload_n hx hb dX3_nextInOrder_13 hl rfl ?_
            refine g_get hC hG us_X3 rfl 2 (by decide) fl_X3_17 (V_event (by omega)) rfl dX3_nextInOrder_14 ?_
            refine o_iload_n hx hb dX3_nextInOrder_17 hl rfl ?_
            refine g_aald hC hG 5 rfl rfl (V_entA (by omega)) _ rfl (by omega) (by omega) dX3_nextInOrder_18 ?_
            rcases hEI e9 y with hn18 | ⟨he18, ha18, q18, hq18, hk18⟩
            · skip
              rw [fEnt_none (show _ = -1 by exact hn18)]
              refine o_astoreq (x := none) hx hb dX3_nextInOrder_19 hl (by decide) rfl (fun ls hl => ?_)
              refine o_aloadq (x := none) hx hb dX3_nextInOrder_21 hl rfl ?_
              refine lv_ifnullN (tgt := 63) hx hb dX3_nextInOrder_23 (by decide) ?_
              refine o_iinc1 hx hb dX3_nextInOrder_63 hl rfl (by decide) rfl (fun ls hl => ?_)
              refine lv_goto (tgt := 4) hx hb dX3_nextInOrder_66 (by decide) ?_
              exact ih4 (y + 1) (by omega) ls (by first | (rw [nx_t (S := S) (e := e9) (bf := (some b)) (c := y) ⟨h28, h41, by rw [hz]; first | exact h54 | exact trivial⟩]; exact lo_none (i := 4) hl) | (rw [nx_f (S := S) (e := e9) (bf := (some b)) (c := y) (by first | exact fun z => z.1 (hNE _ _ hn18).1 | exact fun z => h28 z.1 | exact fun z => h41 z.2.1 | exact fun z => h54 (by have z3 := z.2.2; rw [hz] at z3; exact z3)), hz]; exact lo_none (i := 4) hl))
            · skip
              have hng18 : neg (S 20 e9 y) = false := by rw [hk18]; exact neg_nI (by omega)
              rw [fEnt_some (show neg _ = false by exact hng18)]
              refine o_astore hx hb dX3_nextInOrder_19 hl (by decide) rfl (fun ls hl => ?_)
              refine o_aload hx hb dX3_nextInOrder_21 hl rfl ?_
              refine lv_ifnull hx hb dX3_nextInOrder_23 ?_
              refine o_aload hx hb dX3_nextInOrder_26 hl rfl ?_
              refine k_X2_hasTime hC hS hG ⟨by omega, by omega, by assumption⟩ ml_X3_51 ⟨Nat.le_of_ble_eq_true rfl, Nat.le_of_ble_eq_true rfl⟩ hl.1 (Nat.le_of_ble_eq_true rfl) dX3_nextInOrder_28 ⟨Nat.le_of_ble_eq_true rfl, Nat.le_of_ble_eq_true rfl⟩ (fun h28 => ?_) (fun h28 => ?_)
              · skip
                refine lv_if_eq (tgt := 63) hx hb dX3_nextInOrder_31 (by decide) (fun h31 => ?_) (fun h31 => ?_)
                · exact absurd h31 (by decide)
                · skip
                  refine o_aload_n hx hb dX3_nextInOrder_34 hl rfl ?_
                  refine lv_ifnull hx hb dX3_nextInOrder_35 ?_
                  refine o_aload_n hx hb dX3_nextInOrder_38 hl rfl ?_
                  refine o_aload hx hb dX3_nextInOrder_39 hl rfl ?_
                  refine k_X2_isAheadOf hC hS hG ⟨by omega, by omega, by assumption, by omega, by assumption, by omega, by omega⟩ ml_X3_58 ⟨Nat.le_of_ble_eq_true rfl, Nat.le_of_ble_eq_true rfl⟩ hl.1 (Nat.le_of_ble_eq_true rfl) dX3_nextInOrder_41 ⟨Nat.le_of_ble_eq_true rfl, Nat.le_of_ble_eq_true rfl⟩ (fun h41 => ?_) (fun h41 => ?_)
                  · skip
                    refine lv_if_eq (tgt := 63) hx hb dX3_nextInOrder_44 (by decide) (fun h44 => ?_) (fun h44 => ?_)
                    · exact absurd h44 (by decide)
                    · skip
                      refine o_aload_nq (x := none) hx hb dX3_nextInOrder_47 hl rfl ?_
                      refine lv_ifnullN (tgt := 60) hx hb dX3_nextInOrder_48 (by decide) ?_
                      refine o_aload hx hb dX3_nextInOrder_60 hl rfl ?_
                      refine o_astore_n hx hb dX3_nextInOrder_62 hl (by decide) rfl (fun ls hl => ?_)
                      refine o_iinc1 hx hb dX3_nextInOrder_63 hl rfl (by decide) rfl (fun ls hl => ?_)
                      refine lv_goto (tgt := 4) hx hb dX3_nextInOrder_66 (by decide) ?_
                      exact ih4 (y + 1) (by omega) ls (by first | (rw [nx_t (S := S) (e := e9) (bf := (some b)) (c := y) ⟨h28, h41, by rw [hz]; first | exact h54 | exact trivial⟩]; exact lo_none (i := 4) hl) | (rw [nx_f (S := S) (e := e9) (bf := (some b)) (c := y) (by first | exact fun z => z.1 (hNE _ _ hn18).1 | exact fun z => h28 z.1 | exact fun z => h41 z.2.1 | exact fun z => h54 (by have z3 := z.2.2; rw [hz] at z3; exact z3)), hz]; exact lo_none (i := 4) hl))
                  · skip
                    refine lv_if_eq (tgt := 63) hx hb dX3_nextInOrder_44 (by decide) (fun h44 => ?_) (fun h44 => ?_)
                    · skip
                      refine o_iinc1 hx hb dX3_nextInOrder_63 hl rfl (by decide) rfl (fun ls hl => ?_)
                      refine lv_goto (tgt := 4) hx hb dX3_nextInOrder_66 (by decide) ?_
                      exact ih4 (y + 1) (by omega) ls (by first | (rw [nx_t (S := S) (e := e9) (bf := (some b)) (c := y) ⟨h28, h41, by rw [hz]; first | exact h54 | exact trivial⟩]; exact lo_none (i := 4) hl) | (rw [nx_f (S := S) (e := e9) (bf := (some b)) (c := y) (by first | exact fun z => z.1 (hNE _ _ hn18).1 | exact fun z => h28 z.1 | exact fun z => h41 z.2.1 | exact fun z => h54 (by have z3 := z.2.2; rw [hz] at z3; exact z3)), hz]; exact lo_none (i := 4) hl))
                    · exact absurd h44 (by decide)
              · skip
                refine lv_if_eq (tgt := 63) hx hb dX3_nextInOrder_31 (by decide) (fun h31 => ?_) (fun h31 => ?_)
                · skip
                  refine o_iinc1 hx hb dX3_nextInOrder_63 hl rfl (by decide) rfl (fun ls hl => ?_)
                  refine lv_goto (tgt := 4) hx hb dX3_nextInOrder_66 (by decide) ?_
                  exact ih4 (y + 1) (by omega) ls (by first | (rw [nx_t (S := S) (e := e9) (bf := (some b)) (c := y) ⟨h28, h41, by rw [hz]; first | exact h54 | exact trivial⟩]; exact lo_none (i := 4) hl) | (rw [nx_f (S := S) (e := e9) (bf := (some b)) (c := y) (by first | exact fun z => z.1 (hNE _ _ hn18).1 | exact fun z => h28 z.1 | exact fun z => h41 z.2.1 | exact fun z => h54 (by have z3 := z.2.2; rw [hz] at z3; exact z3)), hz]; exact lo_none (i := 4) hl))
                · exact absurd h31 (by decide)
        · skip
          rw [hz] at hl
          obtain ⟨hw, htw⟩ := nx_in y hz
          obtain ⟨-, hw4, hw16, hnw, qw, hqw, hkw⟩ := live hW hNE htw
          refine o_iload_n hx hb dX3_nextInOrder_4 hl rfl ?_
          refine o_aload_n hx hb dX3_nextInOrder_5 hl rfl ?_
          refine g_get hC hG us_X3 rfl 2 (by decide) fl_X3_17 (V_event (by omega)) rfl dX3_nextInOrder_6 ?_
          refine g_alen hC hG 5 rfl (V_entA (by omega)) (v := nI 16) rfl dX3_nextInOrder_9 ?_
          refine n_icmp_ge (tgt := 69) hx hb y 16 rfl rfl (by omega) (by omega) dX3_nextInOrder_10 (by decide) (fun h10 => ?_) (fun h10 => ?_)
          · skip
            refine o_aload_n hx hb dX3_nextInOrder_69 hl rfl ?_
            exact R_q hC hr (Or.inl ⟨_, rfl⟩) (v := some (ad 11 e9 w)) hlk (by first | exact Or.inl ⟨(by rw [show (16 : Nat) = y by omega]; exact hz), rfl⟩ | exact Or.inr ⟨w, (by rw [show (16 : Nat) = y by omega]; exact hz), rfl⟩) dX3_nextInOrder_70
          · skip
            refine o_aload_n hx hb dX3_nextInOrder_13 hl rfl ?_
            refine g_get hC hG us_X3 rfl 2 (by decide) fl_X3_17 (V_event (by omega)) rfl dX3_nextInOrder_14 ?_
            refine o_iload_n hx hb dX3_nextInOrder_17 hl rfl ?_
            refine g_aald hC hG 5 rfl rfl (V_entA (by omega)) _ rfl (by omega) (by omega) dX3_nextInOrder_18 ?_
            rcases hEI e9 y with hn18 | ⟨he18, ha18, q18, hq18, hk18⟩
            · skip
              rw [fEnt_none (show _ = -1 by exact hn18)]
              refine o_astoreq (x := none) hx hb dX3_nextInOrder_19 hl (by decide) rfl (fun ls hl => ?_)
              refine o_aloadq (x := none) hx hb dX3_nextInOrder_21 hl rfl ?_
              refine lv_ifnullN (tgt := 63) hx hb dX3_nextInOrder_23 (by decide) ?_
              refine o_iinc1 hx hb dX3_nextInOrder_63 hl rfl (by decide) rfl (fun ls hl => ?_)
              refine lv_goto (tgt := 4) hx hb dX3_nextInOrder_66 (by decide) ?_
              exact ih4 (y + 1) (by omega) ls (by first | (rw [nx_t (S := S) (e := e9) (bf := (some b)) (c := y) ⟨h28, h41, by rw [hz]; first | exact h54 | exact trivial⟩]; exact lo_none (i := 4) hl) | (rw [nx_f (S := S) (e := e9) (bf := (some b)) (c := y) (by first | exact fun z => z.1 (hNE _ _ hn18).1 | exact fun z => h28 z.1 | exact fun z => h41 z.2.1 | exact fun z => h54 (by have z3 := z.2.2; rw [hz] at z3; exact z3)), hz]; exact lo_none (i := 4) hl))
            · skip
              have hng18 : neg (S 20 e9 y) = false := by rw [hk18]; exact neg_nI (by omega)
              rw [fEnt_some (show neg _ = false by exact hng18)]
              refine o_astore hx hb dX3_nextInOrder_19 hl (by decide) rfl (fun ls hl => ?_)
              refine o_aload hx hb dX3_nextInOrder_21 hl rfl ?_
              refine lv_ifnull hx hb dX3_nextInOrder_23 ?_
              refine o_aload hx hb dX3_nextInOrder_26 hl rfl ?_
              refine k_X2_hasTime hC hS hG ⟨by omega, by omega, by assumption⟩ ml_X3_51 ⟨Nat.le_of_ble_eq_true rfl, Nat.le_of_ble_eq_true rfl⟩ hl.1 (Nat.le_of_ble_eq_true rfl) dX3_nextInOrder_28 ⟨Nat.le_of_ble_eq_true rfl, Nat.le_of_ble_eq_true rfl⟩ (fun h28 => ?_) (fun h28 => ?_)
              · skip
                refine lv_if_eq (tgt := 63) hx hb dX3_nextInOrder_31 (by decide) (fun h31 => ?_) (fun h31 => ?_)
                · exact absurd h31 (by decide)
                · skip
                  refine o_aload_n hx hb dX3_nextInOrder_34 hl rfl ?_
                  refine lv_ifnull hx hb dX3_nextInOrder_35 ?_
                  refine o_aload_n hx hb dX3_nextInOrder_38 hl rfl ?_
                  refine o_aload hx hb dX3_nextInOrder_39 hl rfl ?_
                  refine k_X2_isAheadOf hC hS hG ⟨by omega, by omega, by assumption, by omega, by assumption, by omega, by omega⟩ ml_X3_58 ⟨Nat.le_of_ble_eq_true rfl, Nat.le_of_ble_eq_true rfl⟩ hl.1 (Nat.le_of_ble_eq_true rfl) dX3_nextInOrder_41 ⟨Nat.le_of_ble_eq_true rfl, Nat.le_of_ble_eq_true rfl⟩ (fun h41 => ?_) (fun h41 => ?_)
                  · skip
                    refine lv_if_eq (tgt := 63) hx hb dX3_nextInOrder_44 (by decide) (fun h44 => ?_) (fun h44 => ?_)
                    · exact absurd h44 (by decide)
                    · skip
                      refine o_aload_n hx hb dX3_nextInOrder_47 hl rfl ?_
                      refine lv_ifnull hx hb dX3_nextInOrder_48 ?_
                      refine o_aload hx hb dX3_nextInOrder_51 hl rfl ?_
                      refine o_aload_n hx hb dX3_nextInOrder_53 hl rfl ?_
                      refine k_X2_isAheadOf hC hS hG ⟨by omega, by omega, by assumption, by omega, by assumption, by omega, by omega⟩ ml_X3_58 ⟨Nat.le_of_ble_eq_true rfl, Nat.le_of_ble_eq_true rfl⟩ hl.1 (Nat.le_of_ble_eq_true rfl) dX3_nextInOrder_54 ⟨Nat.le_of_ble_eq_true rfl, Nat.le_of_ble_eq_true rfl⟩ (fun h54 => ?_) (fun h54 => ?_)
                      · skip
                        refine lv_if_eq (tgt := 63) hx hb dX3_nextInOrder_57 (by decide) (fun h57 => ?_) (fun h57 => ?_)
                        · exact absurd h57 (by decide)
                        · skip
                          refine o_aload hx hb dX3_nextInOrder_60 hl rfl ?_
                          refine o_astore_n hx hb dX3_nextInOrder_62 hl (by decide) rfl (fun ls hl => ?_)
                          refine o_iinc1 hx hb dX3_nextInOrder_63 hl rfl (by decide) rfl (fun ls hl => ?_)
                          refine lv_goto (tgt := 4) hx hb dX3_nextInOrder_66 (by decide) ?_
                          exact ih4 (y + 1) (by omega) ls (by first | (rw [nx_t (S := S) (e := e9) (bf := (some b)) (c := y) ⟨h28, h41, by rw [hz]; first | exact h54 | exact trivial⟩]; exact lo_none (i := 4) hl) | (rw [nx_f (S := S) (e := e9) (bf := (some b)) (c := y) (by first | exact fun z => z.1 (hNE _ _ hn18).1 | exact fun z => h28 z.1 | exact fun z => h41 z.2.1 | exact fun z => h54 (by have z3 := z.2.2; rw [hz] at z3; exact z3)), hz]; exact lo_none (i := 4) hl))
                      · skip
                        refine lv_if_eq (tgt := 63) hx hb dX3_nextInOrder_57 (by decide) (fun h57 => ?_) (fun h57 => ?_)
                        · skip
                          refine o_iinc1 hx hb dX3_nextInOrder_63 hl rfl (by decide) rfl (fun ls hl => ?_)
                          refine lv_goto (tgt := 4) hx hb dX3_nextInOrder_66 (by decide) ?_
                          exact ih4 (y + 1) (by omega) ls (by first | (rw [nx_t (S := S) (e := e9) (bf := (some b)) (c := y) ⟨h28, h41, by rw [hz]; first | exact h54 | exact trivial⟩]; exact lo_none (i := 4) hl) | (rw [nx_f (S := S) (e := e9) (bf := (some b)) (c := y) (by first | exact fun z => z.1 (hNE _ _ hn18).1 | exact fun z => h28 z.1 | exact fun z => h41 z.2.1 | exact fun z => h54 (by have z3 := z.2.2; rw [hz] at z3; exact z3)), hz]; exact lo_none (i := 4) hl))
                        · exact absurd h57 (by decide)
                  · skip
                    refine lv_if_eq (tgt := 63) hx hb dX3_nextInOrder_44 (by decide) (fun h44 => ?_) (fun h44 => ?_)
                    · skip
                      refine o_iinc1 hx hb dX3_nextInOrder_63 hl rfl (by decide) rfl (fun ls hl => ?_)
                      refine lv_goto (tgt := 4) hx hb dX3_nextInOrder_66 (by decide) ?_
                      exact ih4 (y + 1) (by omega) ls (by first | (rw [nx_t (S := S) (e := e9) (bf := (some b)) (c := y) ⟨h28, h41, by rw [hz]; first | exact h54 | exact trivial⟩]; exact lo_none (i := 4) hl) | (rw [nx_f (S := S) (e := e9) (bf := (some b)) (c := y) (by first | exact fun z => z.1 (hNE _ _ hn18).1 | exact fun z => h28 z.1 | exact fun z => h41 z.2.1 | exact fun z => h54 (by have z3 := z.2.2; rw [hz] at z3; exact z3)), hz]; exact lo_none (i := 4) hl))
                    · exact absurd h44 (by decide)
              · skip
                refine lv_if_eq (tgt := 63) hx hb dX3_nextInOrder_31 (by decide) (fun h31 => ?_) (fun h31 => ?_)
                · skip
                  refine o_iinc1 hx hb dX3_nextInOrder_63 hl rfl (by decide) rfl (fun ls hl => ?_)
                  refine lv_goto (tgt := 4) hx hb dX3_nextInOrder_66 (by decide) ?_
                  exact ih4 (y + 1) (by omega) ls (by first | (rw [nx_t (S := S) (e := e9) (bf := (some b)) (c := y) ⟨h28, h41, by rw [hz]; first | exact h54 | exact trivial⟩]; exact lo_none (i := 4) hl) | (rw [nx_f (S := S) (e := e9) (bf := (some b)) (c := y) (by first | exact fun z => z.1 (hNE _ _ hn18).1 | exact fun z => h28 z.1 | exact fun z => h41 z.2.1 | exact fun z => h54 (by have z3 := z.2.2; rw [hz] at z3; exact z3)), hz]; exact lo_none (i := 4) hl))
                · exact absurd h31 (by decide)
    exact loop4 17 0 (by omega) ls hl
theorem k_X3_nextInOrder {p : Program} {l : Launch} {e : Env} {R : Room} {s : State} {m : MethodId} {args : Array Value} {below : List Frame} {meth : Method} {c : Code} {H : Heap} {locs : List Loc} {cells slots : Nat} {Q : State → Prop} {cc : ByteArray} {pc nL : Nat} {ls : Array Slot} {rest : List Value} {own : String} {D : va_G} {cy : Nat → ClassId} {sa : Nat → Nat} {de B : Nat} {ad : Ad} {S : St} {n : Nat → Nat} {T : St} {k : Nat → Nat} {th : Int32} {X : Rl} {e9 : Nat} {bf o : Option Nat}  (hC : Cx p m c cc nL s args own D cy sa de B) (hS : va_S (AB B) s.heap H locs) (hG : GW D B ad (Vw cy de ad S n T k th X) H) (h0 : e9 < n 7 ∧ WF S n ∧ NE S ∧ ∀ b, bf = some b → timeP S e9 b) (ho : eo ad e9 bf = o) {idx : Nat} (wl : Cond.methodLink own idx yX3_nextInOrder ∈ G0) (hR : 1 + 1 ≤ R.frames ∧ 8 + (5 + 11) + 21 ≤ R.locals) (hsz : ls.size = nL) (hst : (rest.map fun v => v.category).sum ≤ 8) (hdg : decode cc pc = .ok (.invokevirtual idx, 3)) (hcs : cells + 0 ≤ R.cells ∧ slots + 0 ≤ R.slots) (k0 : (nx S e9 bf 16 = none) → W p l e R s m args below meth c H locs cells slots Q (F0 m (pc + 3) ls (.null :: rest))) (k1 : ∀ (w9 : Nat), (nx S e9 bf 16 = some w9) → W p l e R s m args below meth c H locs cells slots Q (F0 m (pc + 3) ls (.ref (ad 11 e9 w9) :: rest))) : W p l e R s m args below meth c H locs cells slots Q (F0 m pc ls (va_rf o :: .ref (ad 8 e9 0) :: rest)) :=
  va_csq (va_Run.run (rV hC hS hG h0 (As := [va_rf o]) (c_X3_nextInOrder l ho) ⟨rfl, rfl⟩ wl im_X3_nextInOrder sl_X3_X3_nextInOrder in_X3 cd_X3_nextInOrder (n := 1) (by decide +kernel) hR (recv hC hG (q := (RX3, TX3, 5)) rfl (V_event h0.1)) rfl hsz hst rfl hdg hcs)) (fun r hr => by
      rcases hr with ⟨q0, rfl⟩ | ⟨w9, q0, rfl⟩
      · exact k0 q0
      · exact k1 w9 q0)
set_option maxHeartbeats 4000000 in
set_option maxRecDepth 100000 in
theorem c_X3_inOrder (l : Launch) {D : va_G} {cy : Nat → ClassId} {sa : Nat → Nat} {de B : Nat} {ad : Ad} {S : St} {n : Nat → Nat} {T : St} {k : Nat → Nat} {th : Int32} {X : Rl} {e9 : Nat} {x : Int32}  : Met l yX3_inOrder (Cond.code yX3_inOrder cX3_inOrder 4 (Option.some (Jvm.ClassFile.FieldType.object "EvenstartGames$Entry")) :: G0) ({ frames := 2, cells := 0, slots := 0, locals := 45 } : Room) (va_Pc [.ref (ad 8 e9 0), .int x] (PW D cy sa de B ad (Vw cy de ad S n T k th X) (e9 < n 7 ∧ WF S n ∧ NE S))) (va_Sq (fun r => (ordn S e9 x = none ∧ r = none) ∨ (∃ (w9 : Nat), ordn S e9 x = some w9 ∧ r = some (ad 11 e9 w9)))) 0 0 (fun _ => False) := by
  refine E_met (own := RX3) rfl rfl (Nat.le_of_ble_eq_true rfl) ?_
  intro p e s m below meth c hC hr hlk hnm hG h0 ls hl
  have hx := hC.x
  have hb := hC.b
  have hS : va_S (AB B) s.heap s.heap [] := va_S.rf
  have hl : lo ls 4 [some (.ref (ad 8 e9 0)), some (.int x), none, none] := lo_of hl
  obtain ⟨he, hW, hNE⟩ := h0
  have hW9 := hW
  obtain ⟨hB0, hB1, hB2, hB3, hB4, hB5, hB6, hB7, hKI, hEI, hKY⟩ := hW9
  refine o_iload_n hx hb dX3_inOrder_0 hl rfl ?_
  refine lv_if_lt (tgt := 13) hx hb dX3_inOrder_1 (by decide) (fun h1 => ?_) (fun h1 => ?_)
  · skip
    refine lv_null hx hb dX3_inOrder_13 ?_
    exact R_q hC hr (Or.inl ⟨_, rfl⟩) (v := none) hlk (Or.inl ⟨cif_f (by first | exact nix_neg (by decide) h1 | exact nix_ge (N := 16) (by decide) h10), rfl⟩) dX3_inOrder_14
  · skip
    refine o_iload_n hx hb dX3_inOrder_4 hl rfl ?_
    refine o_aload_n hx hb dX3_inOrder_5 hl rfl ?_
    refine g_get hC hG us_X3 rfl 2 (by decide) fl_X3_17 (V_event (by omega)) rfl dX3_inOrder_6 ?_
    refine g_alen hC hG 5 rfl (V_entA (by omega)) (v := nI 16) rfl dX3_inOrder_9 ?_
    refine lv_icmp_lt (tgt := 15) hx hb dX3_inOrder_10 (by decide) (fun h10 => ?_) (fun h10 => ?_)
    · skip
      obtain ⟨a, ha, rfl⟩ := ix_of (N := 16) (by decide) h1 h10
      refine o_aload_n hx hb dX3_inOrder_15 hl rfl ?_
      refine lv_null hx hb dX3_inOrder_16 ?_
      refine k_X3_nextInOrder (bf := none) (o := none) hC hS hG ⟨by omega, hW, hNE, fun b9 hb9 => by cases hb9; first | done | assumption⟩ rfl ml_X3_62 ⟨Nat.le_of_ble_eq_true rfl, Nat.le_of_ble_eq_true rfl⟩ hl.1 (Nat.le_of_ble_eq_true rfl) dX3_inOrder_17 ⟨Nat.le_of_ble_eq_true rfl, Nat.le_of_ble_eq_true rfl⟩ (fun h17_0 => ?_) (fun w17 h17_0 => ?_)
      · skip
        refine o_astore_nq (x := none) hx hb dX3_inOrder_20 hl (by decide) rfl (fun ls hl => ?_)
        refine lv_iconst (v := 0) hx hb dX3_inOrder_21 (by decide) ?_
        refine o_istore_n hx hb dX3_inOrder_22 hl (by decide) rfl (fun ls hl => ?_)
        have loop23 : ∀ (q9 : Nat) (y : Nat), y ≤ a ∧ a < y + q9 → ∀ ls : Array Slot, lo ls 4 [some (.ref (ad 8 e9 0)), some (.int (nI a)), some (va_rf (eo ad e9 (io S e9 y))), some (.int (nI y))] → W p l e ({ frames := 2, cells := 0, slots := 0, locals := 45 } : Room) s m [.ref (ad 8 e9 0), .int (nI a)].toArray below meth c s.heap [] 0 0 (MQ below (va_Sq (fun r => (ordn S e9 (nI a) = none ∧ r = none) ∨ (∃ (w9 : Nat), ordn S e9 (nI a) = some w9 ∧ r = some (ad 11 e9 w9)))) [.ref (ad 8 e9 0), .int (nI a)].toArray s 0 0 (fun _ => False)) (F0 m 23 ls []) := by
          intro q9
          induction q9 with
          | zero => intro y hq9; exact absurd hq9 (by omega)
          | succ q9 ih23 =>
            intro y hq9   ls hl
            rcases hz : io S e9 y with _ | w
            · skip
              rw [hz] at hl
              refine o_iload_n hx hb dX3_inOrder_23 hl rfl ?_
              refine o_iload_n hx hb dX3_inOrder_24 hl rfl ?_
              refine n_icmp_ge (tgt := 44) hx hb y a rfl rfl (by omega) (by omega) dX3_inOrder_25 (by decide) (fun h25 => ?_) (fun h25 => ?_)
              · skip
                refine o_aload_nq (x := none) hx hb dX3_inOrder_44 hl rfl ?_
                exact R_q hC hr (Or.inl ⟨_, rfl⟩) (v := none) hlk (by first | exact Or.inl ⟨(cif_t (ix_nI ha)).trans (by rw [nI_clamp (by omega)]; exact io_none hz (by omega)), rfl⟩ | exact Or.inr ⟨w, (cif_t (ix_nI ha)).trans (by rw [nI_clamp (by omega), show a = y by omega]; exact hz), rfl⟩) dX3_inOrder_45
              · skip
                refine o_aload_nq (x := none) hx hb dX3_inOrder_28 hl rfl ?_
                refine lv_ifnullN (tgt := 44) hx hb dX3_inOrder_29 (by decide) ?_
                refine o_aload_nq (x := none) hx hb dX3_inOrder_44 hl rfl ?_
                exact R_q hC hr (Or.inl ⟨_, rfl⟩) (v := none) hlk (by first | exact Or.inl ⟨(cif_t (ix_nI ha)).trans (by rw [nI_clamp (by omega)]; exact io_none hz (by omega)), rfl⟩ | exact Or.inr ⟨w, (cif_t (ix_nI ha)).trans (by rw [nI_clamp (by omega), show a = y by omega]; exact hz), rfl⟩) dX3_inOrder_45
            · skip
              rw [hz] at hl
              have htw := io_time _ hz
              obtain ⟨-, hw4, hw16, hnw, qw, hqw, hkw⟩ := live hW hNE htw
              refine o_iload_n hx hb dX3_inOrder_23 hl rfl ?_
              refine o_iload_n hx hb dX3_inOrder_24 hl rfl ?_
              refine n_icmp_ge (tgt := 44) hx hb y a rfl rfl (by omega) (by omega) dX3_inOrder_25 (by decide) (fun h25 => ?_) (fun h25 => ?_)
              · skip
                refine o_aload_n hx hb dX3_inOrder_44 hl rfl ?_
                exact R_q hC hr (Or.inl ⟨_, rfl⟩) (v := some (ad 11 e9 w)) hlk (by first | exact Or.inl ⟨(cif_t (ix_nI ha)).trans (by rw [nI_clamp (by omega)]; exact io_none hz (by omega)), rfl⟩ | exact Or.inr ⟨w, (cif_t (ix_nI ha)).trans (by rw [nI_clamp (by omega), show a = y by omega]; exact hz), rfl⟩) dX3_inOrder_45
              · skip
                refine o_aload_n hx hb dX3_inOrder_28 hl rfl ?_
                refine lv_ifnull hx hb dX3_inOrder_29 ?_
                refine o_aload_n hx hb dX3_inOrder_32 hl rfl ?_
                refine o_aload_n hx hb dX3_inOrder_33 hl rfl ?_
                refine k_X3_nextInOrder (bf := some w) (o := some (ad 11 e9 w)) hC hS hG ⟨by omega, hW, hNE, fun b9 hb9 => by cases hb9; first | done | assumption⟩ rfl ml_X3_62 ⟨Nat.le_of_ble_eq_true rfl, Nat.le_of_ble_eq_true rfl⟩ hl.1 (Nat.le_of_ble_eq_true rfl) dX3_inOrder_34 ⟨Nat.le_of_ble_eq_true rfl, Nat.le_of_ble_eq_true rfl⟩ (fun h34_0 => ?_) (fun w34 h34_0 => ?_)
                · skip
                  refine o_astore_nq (x := none) hx hb dX3_inOrder_37 hl (by decide) rfl (fun ls hl => ?_)
                  refine o_iinc1 hx hb dX3_inOrder_38 hl rfl (by decide) rfl (fun ls hl => ?_)
                  refine lv_goto (tgt := 23) hx hb dX3_inOrder_41 (by decide) ?_
                  exact ih23 (y + 1) (by omega) ls (by rw [io_s hz, h34_0]; exact hl)
                · skip
                  have ht34 := (nx_in 16 h34_0).2
                  obtain ⟨-, hz34, hy34, hn34, qw34, hqw34, hkw34⟩ := live hW hNE ht34
                  refine o_astore_n hx hb dX3_inOrder_37 hl (by decide) rfl (fun ls hl => ?_)
                  refine o_iinc1 hx hb dX3_inOrder_38 hl rfl (by decide) rfl (fun ls hl => ?_)
                  refine lv_goto (tgt := 23) hx hb dX3_inOrder_41 (by decide) ?_
                  exact ih23 (y + 1) (by omega) ls (by rw [io_s hz, h34_0]; exact hl)
        exact loop23 (a + 1) 0 (by omega) ls (by rw [show io S e9 0 = _ from h17_0]; exact hl)
      · skip
        have ht17 := (nx_in 16 h17_0).2
        obtain ⟨-, hz17, hy17, hn17, qw17, hqw17, hkw17⟩ := live hW hNE ht17
        refine o_astore_n hx hb dX3_inOrder_20 hl (by decide) rfl (fun ls hl => ?_)
        refine lv_iconst (v := 0) hx hb dX3_inOrder_21 (by decide) ?_
        refine o_istore_n hx hb dX3_inOrder_22 hl (by decide) rfl (fun ls hl => ?_)
        have loop23 : ∀ (q9 : Nat) (y : Nat), y ≤ a ∧ a < y + q9 → ∀ ls : Array Slot, lo ls 4 [some (.ref (ad 8 e9 0)), some (.int (nI a)), some (va_rf (eo ad e9 (io S e9 y))), some (.int (nI y))] → W p l e ({ frames := 2, cells := 0, slots := 0, locals := 45 } : Room) s m [.ref (ad 8 e9 0), .int (nI a)].toArray below meth c s.heap [] 0 0 (MQ below (va_Sq (fun r => (ordn S e9 (nI a) = none ∧ r = none) ∨ (∃ (w9 : Nat), ordn S e9 (nI a) = some w9 ∧ r = some (ad 11 e9 w9)))) [.ref (ad 8 e9 0), .int (nI a)].toArray s 0 0 (fun _ => False)) (F0 m 23 ls []) := by
          intro q9
          induction q9 with
          | zero => intro y hq9; exact absurd hq9 (by omega)
          | succ q9 ih23 =>
            intro y hq9   ls hl
            rcases hz : io S e9 y with _ | w
            · skip
              rw [hz] at hl
              refine o_iload_n hx hb dX3_inOrder_23 hl rfl ?_
              refine o_iload_n hx hb dX3_inOrder_24 hl rfl ?_
              refine n_icmp_ge (tgt := 44) hx hb y a rfl rfl (by omega) (by omega) dX3_inOrder_25 (by decide) (fun h25 => ?_) (fun h25 => ?_)
              · skip
                refine o_aload_nq (x := none) hx hb dX3_inOrder_44 hl rfl ?_
                exact R_q hC hr (Or.inl ⟨_, rfl⟩) (v := none) hlk (by first | exact Or.inl ⟨(cif_t (ix_nI ha)).trans (by rw [nI_clamp (by omega)]; exact io_none hz (by omega)), rfl⟩ | exact Or.inr ⟨w, (cif_t (ix_nI ha)).trans (by rw [nI_clamp (by omega), show a = y by omega]; exact hz), rfl⟩) dX3_inOrder_45
              · skip
                refine o_aload_nq (x := none) hx hb dX3_inOrder_28 hl rfl ?_
                refine lv_ifnullN (tgt := 44) hx hb dX3_inOrder_29 (by decide) ?_
                refine o_aload_nq (x := none) hx hb dX3_inOrder_44 hl rfl ?_
                exact R_q hC hr (Or.inl ⟨_, rfl⟩) (v := none) hlk (by first | exact Or.inl ⟨(cif_t (ix_nI ha)).trans (by rw [nI_clamp (by omega)]; exact io_none hz (by omega)), rfl⟩ | exact Or.inr ⟨w, (cif_t (ix_nI ha)).trans (by rw [nI_clamp (by omega), show a = y by omega]; exact hz), rfl⟩) dX3_inOrder_45
            · skip
              rw [hz] at hl
              have htw := io_time _ hz
              obtain ⟨-, hw4, hw16, hnw, qw, hqw, hkw⟩ := live hW hNE htw
              refine o_iload_n hx hb dX3_inOrder_23 hl rfl ?_
              refine o_iload_n hx hb dX3_inOrder_24 hl rfl ?_
              refine n_icmp_ge (tgt := 44) hx hb y a rfl rfl (by omega) (by omega) dX3_inOrder_25 (by decide) (fun h25 => ?_) (fun h25 => ?_)
              · skip
                refine o_aload_n hx hb dX3_inOrder_44 hl rfl ?_
                exact R_q hC hr (Or.inl ⟨_, rfl⟩) (v := some (ad 11 e9 w)) hlk (by first | exact Or.inl ⟨(cif_t (ix_nI ha)).trans (by rw [nI_clamp (by omega)]; exact io_none hz (by omega)), rfl⟩ | exact Or.inr ⟨w, (cif_t (ix_nI ha)).trans (by rw [nI_clamp (by omega), show a = y by omega]; exact hz), rfl⟩) dX3_inOrder_45
              · skip
                refine o_aload_n hx hb dX3_inOrder_28 hl rfl ?_
                refine lv_ifnull hx hb dX3_inOrder_29 ?_
                refine o_aload_n hx hb dX3_inOrder_32 hl rfl ?_
                refine o_aload_n hx hb dX3_inOrder_33 hl rfl ?_
                refine k_X3_nextInOrder (bf := some w) (o := some (ad 11 e9 w)) hC hS hG ⟨by omega, hW, hNE, fun b9 hb9 => by cases hb9; first | done | assumption⟩ rfl ml_X3_62 ⟨Nat.le_of_ble_eq_true rfl, Nat.le_of_ble_eq_true rfl⟩ hl.1 (Nat.le_of_ble_eq_true rfl) dX3_inOrder_34 ⟨Nat.le_of_ble_eq_true rfl, Nat.le_of_ble_eq_true rfl⟩ (fun h34_0 => ?_) (fun w34 h34_0 => ?_)
                · skip
                  refine o_astore_nq (x := none) hx hb dX3_inOrder_37 hl (by decide) rfl (fun ls hl => ?_)
                  refine o_iinc1 hx hb dX3_inOrder_38 hl rfl (by decide) rfl (fun ls hl => ?_)
                  refine lv_goto (tgt := 23) hx hb dX3_inOrder_41 (by decide) ?_
                  exact ih23 (y + 1) (by omega) ls (by rw [io_s hz, h34_0]; exact hl)
                · skip
                  have ht34 := (nx_in 16 h34_0).2
                  obtain ⟨-, hz34, hy34, hn34, qw34, hqw34, hkw34⟩ := live hW hNE ht34
                  refine o_astore_n hx hb dX3_inOrder_37 hl (by decide) rfl (fun ls hl => ?_)
                  refine o_iinc1 hx hb dX3_inOrder_38 hl rfl (by decide) rfl (fun ls hl => ?_)
                  refine lv_goto (tgt := 23) hx hb dX3_inOrder_41 (by decide) ?_
                  exact ih23 (y + 1) (by omega) ls (by rw [io_s hz, h34_0]; exact hl)
        exact loop23 (a + 1) 0 (by omega) ls (by rw [show io S e9 0 = _ from h17_0]; exact hl)
    · skip
      refine lv_null hx hb dX3_inOrder_13 ?_
      exact R_q hC hr (Or.inl ⟨_, rfl⟩) (v := none) hlk (Or.inl ⟨cif_f (by first | exact nix_neg (by decide) h1 | exact nix_ge (N := 16) (by decide) h10), rfl⟩) dX3_inOrder_14
theorem k_X3_inOrder {p : Program} {l : Launch} {e : Env} {R : Room} {s : State} {m : MethodId} {args : Array Value} {below : List Frame} {meth : Method} {c : Code} {H : Heap} {locs : List Loc} {cells slots : Nat} {Q : State → Prop} {cc : ByteArray} {pc nL : Nat} {ls : Array Slot} {rest : List Value} {own : String} {D : va_G} {cy : Nat → ClassId} {sa : Nat → Nat} {de B : Nat} {ad : Ad} {S : St} {n : Nat → Nat} {T : St} {k : Nat → Nat} {th : Int32} {X : Rl} {e9 : Nat} {x : Int32}  (hC : Cx p m c cc nL s args own D cy sa de B) (hS : va_S (AB B) s.heap H locs) (hG : GW D B ad (Vw cy de ad S n T k th X) H) (h0 : e9 < n 7 ∧ WF S n ∧ NE S)  {idx : Nat} (wl : Cond.methodLink own idx yX3_inOrder ∈ G0) (hR : 2 + 1 ≤ R.frames ∧ 8 + (4 + 11) + 45 ≤ R.locals) (hsz : ls.size = nL) (hst : (rest.map fun v => v.category).sum ≤ 8) (hdg : decode cc pc = .ok (.invokevirtual idx, 3)) (hcs : cells + 0 ≤ R.cells ∧ slots + 0 ≤ R.slots) (k0 : (ordn S e9 x = none) → W p l e R s m args below meth c H locs cells slots Q (F0 m (pc + 3) ls (.null :: rest))) (k1 : ∀ (w9 : Nat), (ordn S e9 x = some w9) → W p l e R s m args below meth c H locs cells slots Q (F0 m (pc + 3) ls (.ref (ad 11 e9 w9) :: rest))) : W p l e R s m args below meth c H locs cells slots Q (F0 m pc ls (.int x :: .ref (ad 8 e9 0) :: rest)) :=
  va_csq (va_Run.run (rV hC hS hG h0 (As := [.int x]) (c_X3_inOrder l) ⟨rfl, rfl⟩ wl im_X3_inOrder sl_X3_X3_inOrder in_X3 cd_X3_inOrder (n := 1) (by decide +kernel) hR (recv hC hG (q := (RX3, TX3, 5)) rfl (V_event h0.1)) rfl hsz hst rfl hdg hcs)) (fun r hr => by
      rcases hr with ⟨q0, rfl⟩ | ⟨w9, q0, rfl⟩
      · exact k0 q0
      · exact k1 w9 q0)
set_option maxHeartbeats 4000000 in
set_option maxRecDepth 100000 in
theorem c_X3_inOrderOfSlots (l : Launch) {D : va_G} {cy : Nat → ClassId} {sa : Nat → Nat} {de B : Nat} {ad : Ad} {S : St} {n : Nat → Nat} {T : St} {k : Nat → Nat} {th : Int32} {X : Rl} {e9 : Nat} {x : Int32}  : Met l yX3_inOrderOfSlots (Cond.code yX3_inOrderOfSlots cX3_inOrderOfSlots 5 (Option.some (Jvm.ClassFile.FieldType.object "EvenstartGames$Entry")) :: G0) ({ frames := 2, cells := 0, slots := 0, locals := 45 } : Room) (va_Pc [.ref (ad 8 e9 0), .int x] (PW D cy sa de B ad (Vw cy de ad S n T k th X) (e9 < n 7 ∧ WF S n ∧ NE S))) (va_Sq (fun r => (slF S e9 x 0 16 = none ∧ r = none) ∨ (∃ (w9 : Nat), slF S e9 x 0 16 = some w9 ∧ r = some (ad 11 e9 w9)))) 0 0 (fun _ => False) := by
  refine E_met (own := RX3) rfl rfl (Nat.le_of_ble_eq_true rfl) ?_
  intro p e s m below meth c hC hr hlk hnm hG h0 ls hl
  have hx := hC.x
  have hb := hC.b
  have hS : va_S (AB B) s.heap s.heap [] := va_S.rf
  have hl : lo ls 5 [some (.ref (ad 8 e9 0)), some (.int x), none, none, none] := lo_of hl
  obtain ⟨he, hW, hNE⟩ := h0
  have hW9 := hW
  obtain ⟨hB0, hB1, hB2, hB3, hB4, hB5, hB6, hB7, hKI, hEI, hKY⟩ := hW9
  refine lv_iconst (v := 0) hx hb dX3_inOrderOfSlots_0 (by decide) ?_
  refine o_istore_n hx hb dX3_inOrderOfSlots_1 hl (by decide) rfl (fun ls hl => ?_)
  refine o_aload_n hx hb dX3_inOrderOfSlots_2 hl rfl ?_
  refine lv_null hx hb dX3_inOrderOfSlots_3 ?_
  refine k_X3_nextInOrder (bf := none) (o := none) hC hS hG ⟨by omega, hW, hNE, fun b9 hb9 => by cases hb9; first | done | assumption⟩ rfl ml_X3_62 ⟨Nat.le_of_ble_eq_true rfl, Nat.le_of_ble_eq_true rfl⟩ hl.1 (Nat.le_of_ble_eq_true rfl) dX3_inOrderOfSlots_4 ⟨Nat.le_of_ble_eq_true rfl, Nat.le_of_ble_eq_true rfl⟩ (fun h4_0 => ?_) (fun w4 h4_0 => ?_)
  · skip
    refine o_astore_nq (x := none) hx hb dX3_inOrderOfSlots_7 hl (by decide) rfl (fun ls hl => ?_)
    refine lv_iconst (v := 0) hx hb dX3_inOrderOfSlots_8 (by decide) ?_
    refine o_istore hx hb dX3_inOrderOfSlots_9 hl (by decide) rfl (fun ls hl => ?_)
    have loop11 : ∀ (q9 : Nat) (y : Nat), y ≤ 16 ∧ 16 < y + q9 → (slF S e9 x 0 16 = slF S e9 x y (16 - y)) → ∀ ls : Array Slot, lo ls 5 [some (.ref (ad 8 e9 0)), some (.int x), some (.int (gv S e9 y)), some (va_rf (eo ad e9 (io S e9 y))), some (.int (nI y))] → W p l e ({ frames := 2, cells := 0, slots := 0, locals := 45 } : Room) s m [.ref (ad 8 e9 0), .int x].toArray below meth c s.heap [] 0 0 (MQ below (va_Sq (fun r => (slF S e9 x 0 16 = none ∧ r = none) ∨ (∃ (w9 : Nat), slF S e9 x 0 16 = some w9 ∧ r = some (ad 11 e9 w9)))) [.ref (ad 8 e9 0), .int x].toArray s 0 0 (fun _ => False)) (F0 m 11 ls []) := by
      intro q9
      induction q9 with
      | zero => intro y hq9; exact absurd hq9 (by omega)
      | succ q9 ih11 =>
        intro y hq9 hf  ls hl
        rcases hz : io S e9 y with _ | w
        · skip
          rw [hz] at hl
          refine o_iload hx hb dX3_inOrderOfSlots_11 hl rfl ?_
          refine o_aload_n hx hb dX3_inOrderOfSlots_13 hl rfl ?_
          refine g_get hC hG us_X3 rfl 2 (by decide) fl_X3_17 (V_event (by omega)) rfl dX3_inOrderOfSlots_14 ?_
          refine g_alen hC hG 5 rfl (V_entA (by omega)) (v := nI 16) rfl dX3_inOrderOfSlots_17 ?_
          refine n_icmp_ge (tgt := 56) hx hb y 16 rfl rfl (by omega) (by omega) dX3_inOrderOfSlots_18 (by decide) (fun h18 => ?_) (fun h18 => ?_)
          · skip
            refine lv_null hx hb dX3_inOrderOfSlots_56 ?_
            exact R_q hC hr (Or.inl ⟨_, rfl⟩) (v := none) hlk (Or.inl ⟨hf.trans (by first | exact slF_end (by omega) | exact slF_none hz _), rfl⟩) dX3_inOrderOfSlots_57
          · skip
            refine o_aload_nq (x := none) hx hb dX3_inOrderOfSlots_21 hl rfl ?_
            refine lv_ifnullN (tgt := 56) hx hb dX3_inOrderOfSlots_22 (by decide) ?_
            refine lv_null hx hb dX3_inOrderOfSlots_56 ?_
            exact R_q hC hr (Or.inl ⟨_, rfl⟩) (v := none) hlk (Or.inl ⟨hf.trans (by first | exact slF_end (by omega) | exact slF_none hz _), rfl⟩) dX3_inOrderOfSlots_57
        · skip
          rw [hz] at hl
          have htw := io_time _ hz
          obtain ⟨-, hw4, hw16, hnw, qw, hqw, hkw⟩ := live hW hNE htw
          refine o_iload hx hb dX3_inOrderOfSlots_11 hl rfl ?_
          refine o_aload_n hx hb dX3_inOrderOfSlots_13 hl rfl ?_
          refine g_get hC hG us_X3 rfl 2 (by decide) fl_X3_17 (V_event (by omega)) rfl dX3_inOrderOfSlots_14 ?_
          refine g_alen hC hG 5 rfl (V_entA (by omega)) (v := nI 16) rfl dX3_inOrderOfSlots_17 ?_
          refine n_icmp_ge (tgt := 56) hx hb y 16 rfl rfl (by omega) (by omega) dX3_inOrderOfSlots_18 (by decide) (fun h18 => ?_) (fun h18 => ?_)
          · skip
            refine lv_null hx hb dX3_inOrderOfSlots_56 ?_
            exact R_q hC hr (Or.inl ⟨_, rfl⟩) (v := none) hlk (Or.inl ⟨hf.trans (by first | exact slF_end (by omega) | exact slF_none hz _), rfl⟩) dX3_inOrderOfSlots_57
          · skip
            refine o_aload_n hx hb dX3_inOrderOfSlots_21 hl rfl ?_
            refine lv_ifnull hx hb dX3_inOrderOfSlots_22 ?_
            refine o_aload_n hx hb dX3_inOrderOfSlots_25 hl rfl ?_
            refine o_aload_n hx hb dX3_inOrderOfSlots_26 hl rfl ?_
            refine k_X3_countOfLandAhead hC hS hG ⟨by omega, hW, hNE, by assumption⟩ ml_X3_66 ⟨Nat.le_of_ble_eq_true rfl, Nat.le_of_ble_eq_true rfl⟩ hl.1 (Nat.le_of_ble_eq_true rfl) dX3_inOrderOfSlots_27 ⟨Nat.le_of_ble_eq_true rfl, Nat.le_of_ble_eq_true rfl⟩ ?_
            refine lv_iconst (v := 2) hx hb dX3_inOrderOfSlots_30 (by decide) ?_
            refine lv_icmp_ge (tgt := 44) hx hb dX3_inOrderOfSlots_31 (by decide) (fun h31 => ?_) (fun h31 => ?_)
            · skip
              refine o_aload_n hx hb dX3_inOrderOfSlots_44 hl rfl ?_
              refine o_aload_n hx hb dX3_inOrderOfSlots_45 hl rfl ?_
              refine k_X3_nextInOrder (bf := some w) (o := some (ad 11 e9 w)) hC hS hG ⟨by omega, hW, hNE, fun b9 hb9 => by cases hb9; first | done | assumption⟩ rfl ml_X3_62 ⟨Nat.le_of_ble_eq_true rfl, Nat.le_of_ble_eq_true rfl⟩ hl.1 (Nat.le_of_ble_eq_true rfl) dX3_inOrderOfSlots_46 ⟨Nat.le_of_ble_eq_true rfl, Nat.le_of_ble_eq_true rfl⟩ (fun h46_0 => ?_) (fun w46 h46_0 => ?_)
              · skip
                refine o_astore_nq (x := none) hx hb dX3_inOrderOfSlots_49 hl (by decide) rfl (fun ls hl => ?_)
                refine o_iinc1 hx hb dX3_inOrderOfSlots_50 hl rfl (by decide) rfl (fun ls hl => ?_)
                refine lv_goto (tgt := 11) hx hb dX3_inOrderOfSlots_53 (by decide) ?_
                exact ih11 (y + 1) (by omega) (hf.trans (slF_no (by omega) hz (by first | exact fun z => absurd z.1 (Int32.not_lt.mpr h31) | exact fun z => h36 z.2))) ls (by rw [io_s hz, h46_0]; first | (rw [gv_t hz (Int32.not_le.mp h31)]; exact hl) | (rw [gv_f hz (Int32.not_lt.mpr h31)]; exact hl))
              · skip
                have ht46 := (nx_in 16 h46_0).2
                obtain ⟨-, hz46, hy46, hn46, qw46, hqw46, hkw46⟩ := live hW hNE ht46
                refine o_astore_n hx hb dX3_inOrderOfSlots_49 hl (by decide) rfl (fun ls hl => ?_)
                refine o_iinc1 hx hb dX3_inOrderOfSlots_50 hl rfl (by decide) rfl (fun ls hl => ?_)
                refine lv_goto (tgt := 11) hx hb dX3_inOrderOfSlots_53 (by decide) ?_
                exact ih11 (y + 1) (by omega) (hf.trans (slF_no (by omega) hz (by first | exact fun z => absurd z.1 (Int32.not_lt.mpr h31) | exact fun z => h36 z.2))) ls (by rw [io_s hz, h46_0]; first | (rw [gv_t hz (Int32.not_le.mp h31)]; exact hl) | (rw [gv_f hz (Int32.not_lt.mpr h31)]; exact hl))
            · skip
              refine o_iload_n hx hb dX3_inOrderOfSlots_34 hl rfl ?_
              refine o_iload_n hx hb dX3_inOrderOfSlots_35 hl rfl ?_
              refine lv_icmp_ne (tgt := 41) hx hb dX3_inOrderOfSlots_36 (by decide) (fun h36 => ?_) (fun h36 => ?_)
              · skip
                refine o_iinc hx hb dX3_inOrderOfSlots_41 hl rfl (show _ + 1 = _ from rfl) (by decide) rfl (fun ls hl => ?_)
                refine o_aload_n hx hb dX3_inOrderOfSlots_44 hl rfl ?_
                refine o_aload_n hx hb dX3_inOrderOfSlots_45 hl rfl ?_
                refine k_X3_nextInOrder (bf := some w) (o := some (ad 11 e9 w)) hC hS hG ⟨by omega, hW, hNE, fun b9 hb9 => by cases hb9; first | done | assumption⟩ rfl ml_X3_62 ⟨Nat.le_of_ble_eq_true rfl, Nat.le_of_ble_eq_true rfl⟩ hl.1 (Nat.le_of_ble_eq_true rfl) dX3_inOrderOfSlots_46 ⟨Nat.le_of_ble_eq_true rfl, Nat.le_of_ble_eq_true rfl⟩ (fun h46_0 => ?_) (fun w46 h46_0 => ?_)
                · skip
                  refine o_astore_nq (x := none) hx hb dX3_inOrderOfSlots_49 hl (by decide) rfl (fun ls hl => ?_)
                  refine o_iinc1 hx hb dX3_inOrderOfSlots_50 hl rfl (by decide) rfl (fun ls hl => ?_)
                  refine lv_goto (tgt := 11) hx hb dX3_inOrderOfSlots_53 (by decide) ?_
                  exact ih11 (y + 1) (by omega) (hf.trans (slF_no (by omega) hz (by first | exact fun z => absurd z.1 (Int32.not_lt.mpr h31) | exact fun z => h36 z.2))) ls (by rw [io_s hz, h46_0]; first | (rw [gv_t hz (Int32.not_le.mp h31)]; exact hl) | (rw [gv_f hz (Int32.not_lt.mpr h31)]; exact hl))
                · skip
                  have ht46 := (nx_in 16 h46_0).2
                  obtain ⟨-, hz46, hy46, hn46, qw46, hqw46, hkw46⟩ := live hW hNE ht46
                  refine o_astore_n hx hb dX3_inOrderOfSlots_49 hl (by decide) rfl (fun ls hl => ?_)
                  refine o_iinc1 hx hb dX3_inOrderOfSlots_50 hl rfl (by decide) rfl (fun ls hl => ?_)
                  refine lv_goto (tgt := 11) hx hb dX3_inOrderOfSlots_53 (by decide) ?_
                  exact ih11 (y + 1) (by omega) (hf.trans (slF_no (by omega) hz (by first | exact fun z => absurd z.1 (Int32.not_lt.mpr h31) | exact fun z => h36 z.2))) ls (by rw [io_s hz, h46_0]; first | (rw [gv_t hz (Int32.not_le.mp h31)]; exact hl) | (rw [gv_f hz (Int32.not_lt.mpr h31)]; exact hl))
              · skip
                refine o_aload_n hx hb dX3_inOrderOfSlots_39 hl rfl ?_
                exact R_q hC hr (Or.inl ⟨_, rfl⟩) (v := some (ad 11 e9 w)) hlk (Or.inr ⟨w, hf.trans (slF_yes (by omega) hz ⟨Int32.not_le.mp h31, h36⟩), rfl⟩) dX3_inOrderOfSlots_40
    exact loop11 17 0 (by omega) rfl ls (by rw [show io S e9 0 = _ from h4_0]; exact hl)
  · skip
    have ht4 := (nx_in 16 h4_0).2
    obtain ⟨-, hz4, hy4, hn4, qw4, hqw4, hkw4⟩ := live hW hNE ht4
    refine o_astore_n hx hb dX3_inOrderOfSlots_7 hl (by decide) rfl (fun ls hl => ?_)
    refine lv_iconst (v := 0) hx hb dX3_inOrderOfSlots_8 (by decide) ?_
    refine o_istore hx hb dX3_inOrderOfSlots_9 hl (by decide) rfl (fun ls hl => ?_)
    have loop11 : ∀ (q9 : Nat) (y : Nat), y ≤ 16 ∧ 16 < y + q9 → (slF S e9 x 0 16 = slF S e9 x y (16 - y)) → ∀ ls : Array Slot, lo ls 5 [some (.ref (ad 8 e9 0)), some (.int x), some (.int (gv S e9 y)), some (va_rf (eo ad e9 (io S e9 y))), some (.int (nI y))] → W p l e ({ frames := 2, cells := 0, slots := 0, locals := 45 } : Room) s m [.ref (ad 8 e9 0), .int x].toArray below meth c s.heap [] 0 0 (MQ below (va_Sq (fun r => (slF S e9 x 0 16 = none ∧ r = none) ∨ (∃ (w9 : Nat), slF S e9 x 0 16 = some w9 ∧ r = some (ad 11 e9 w9)))) [.ref (ad 8 e9 0), .int x].toArray s 0 0 (fun _ => False)) (F0 m 11 ls []) := by
      intro q9
      induction q9 with
      | zero => intro y hq9; exact absurd hq9 (by omega)
      | succ q9 ih11 =>
        intro y hq9 hf  ls hl
        rcases hz : io S e9 y with _ | w
        · skip
          rw [hz] at hl
          refine o_iload hx hb dX3_inOrderOfSlots_11 hl rfl ?_
          refine o_aload_n hx hb dX3_inOrderOfSlots_13 hl rfl ?_
          refine g_get hC hG us_X3 rfl 2 (by decide) fl_X3_17 (V_event (by omega)) rfl dX3_inOrderOfSlots_14 ?_
          refine g_alen hC hG 5 rfl (V_entA (by omega)) (v := nI 16) rfl dX3_inOrderOfSlots_17 ?_
          refine n_icmp_ge (tgt := 56) hx hb y 16 rfl rfl (by omega) (by omega) dX3_inOrderOfSlots_18 (by decide) (fun h18 => ?_) (fun h18 => ?_)
          · skip
            refine lv_null hx hb dX3_inOrderOfSlots_56 ?_
            exact R_q hC hr (Or.inl ⟨_, rfl⟩) (v := none) hlk (Or.inl ⟨hf.trans (by first | exact slF_end (by omega) | exact slF_none hz _), rfl⟩) dX3_inOrderOfSlots_57
          · skip
            refine o_aload_nq (x := none) hx hb dX3_inOrderOfSlots_21 hl rfl ?_
            refine lv_ifnullN (tgt := 56) hx hb dX3_inOrderOfSlots_22 (by decide) ?_
            refine lv_null hx hb dX3_inOrderOfSlots_56 ?_
            exact R_q hC hr (Or.inl ⟨_, rfl⟩) (v := none) hlk (Or.inl ⟨hf.trans (by first | exact slF_end (by omega) | exact slF_none hz _), rfl⟩) dX3_inOrderOfSlots_57
        · skip
          rw [hz] at hl
          have htw := io_time _ hz
          obtain ⟨-, hw4, hw16, hnw, qw, hqw, hkw⟩ := live hW hNE htw
          refine o_iload hx hb dX3_inOrderOfSlots_11 hl rfl ?_
          refine o_aload_n hx hb dX3_inOrderOfSlots_13 hl rfl ?_
          refine g_get hC hG us_X3 rfl 2 (by decide) fl_X3_17 (V_event (by omega)) rfl dX3_inOrderOfSlots_14 ?_
          refine g_alen hC hG 5 rfl (V_entA (by omega)) (v := nI 16) rfl dX3_inOrderOfSlots_17 ?_
          refine n_icmp_ge (tgt := 56) hx hb y 16 rfl rfl (by omega) (by omega) dX3_inOrderOfSlots_18 (by decide) (fun h18 => ?_) (fun h18 => ?_)
          · skip
            refine lv_null hx hb dX3_inOrderOfSlots_56 ?_
            exact R_q hC hr (Or.inl ⟨_, rfl⟩) (v := none) hlk (Or.inl ⟨hf.trans (by first | exact slF_end (by omega) | exact slF_none hz _), rfl⟩) dX3_inOrderOfSlots_57
          · skip
            refine o_aload_n hx hb dX3_inOrderOfSlots_21 hl rfl ?_
            refine lv_ifnull hx hb dX3_inOrderOfSlots_22 ?_
            refine o_aload_n hx hb dX3_inOrderOfSlots_25 hl rfl ?_
            refine o_aload_n hx hb dX3_inOrderOfSlots_26 hl rfl ?_
            refine k_X3_countOfLandAhead hC hS hG ⟨by omega, hW, hNE, by assumption⟩ ml_X3_66 ⟨Nat.le_of_ble_eq_true rfl, Nat.le_of_ble_eq_true rfl⟩ hl.1 (Nat.le_of_ble_eq_true rfl) dX3_inOrderOfSlots_27 ⟨Nat.le_of_ble_eq_true rfl, Nat.le_of_ble_eq_true rfl⟩ ?_
            refine lv_iconst (v := 2) hx hb dX3_inOrderOfSlots_30 (by decide) ?_
            refine lv_icmp_ge (tgt := 44) hx hb dX3_inOrderOfSlots_31 (by decide) (fun h31 => ?_) (fun h31 => ?_)
            · skip
              refine o_aload_n hx hb dX3_inOrderOfSlots_44 hl rfl ?_
              refine o_aload_n hx hb dX3_inOrderOfSlots_45 hl rfl ?_
              refine k_X3_nextInOrder (bf := some w) (o := some (ad 11 e9 w)) hC hS hG ⟨by omega, hW, hNE, fun b9 hb9 => by cases hb9; first | done | assumption⟩ rfl ml_X3_62 ⟨Nat.le_of_ble_eq_true rfl, Nat.le_of_ble_eq_true rfl⟩ hl.1 (Nat.le_of_ble_eq_true rfl) dX3_inOrderOfSlots_46 ⟨Nat.le_of_ble_eq_true rfl, Nat.le_of_ble_eq_true rfl⟩ (fun h46_0 => ?_) (fun w46 h46_0 => ?_)
              · skip
                refine o_astore_nq (x := none) hx hb dX3_inOrderOfSlots_49 hl (by decide) rfl (fun ls hl => ?_)
                refine o_iinc1 hx hb dX3_inOrderOfSlots_50 hl rfl (by decide) rfl (fun ls hl => ?_)
                refine lv_goto (tgt := 11) hx hb dX3_inOrderOfSlots_53 (by decide) ?_
                exact ih11 (y + 1) (by omega) (hf.trans (slF_no (by omega) hz (by first | exact fun z => absurd z.1 (Int32.not_lt.mpr h31) | exact fun z => h36 z.2))) ls (by rw [io_s hz, h46_0]; first | (rw [gv_t hz (Int32.not_le.mp h31)]; exact hl) | (rw [gv_f hz (Int32.not_lt.mpr h31)]; exact hl))
              · skip
                have ht46 := (nx_in 16 h46_0).2
                obtain ⟨-, hz46, hy46, hn46, qw46, hqw46, hkw46⟩ := live hW hNE ht46
                refine o_astore_n hx hb dX3_inOrderOfSlots_49 hl (by decide) rfl (fun ls hl => ?_)
                refine o_iinc1 hx hb dX3_inOrderOfSlots_50 hl rfl (by decide) rfl (fun ls hl => ?_)
                refine lv_goto (tgt := 11) hx hb dX3_inOrderOfSlots_53 (by decide) ?_
                exact ih11 (y + 1) (by omega) (hf.trans (slF_no (by omega) hz (by first | exact fun z => absurd z.1 (Int32.not_lt.mpr h31) | exact fun z => h36 z.2))) ls (by rw [io_s hz, h46_0]; first | (rw [gv_t hz (Int32.not_le.mp h31)]; exact hl) | (rw [gv_f hz (Int32.not_lt.mpr h31)]; exact hl))
            · skip
              refine o_iload_n hx hb dX3_inOrderOfSlots_34 hl rfl ?_
              refine o_iload_n hx hb dX3_inOrderOfSlots_35 hl rfl ?_
              refine lv_icmp_ne (tgt := 41) hx hb dX3_inOrderOfSlots_36 (by decide) (fun h36 => ?_) (fun h36 => ?_)
              · skip
                refine o_iinc hx hb dX3_inOrderOfSlots_41 hl rfl (show _ + 1 = _ from rfl) (by decide) rfl (fun ls hl => ?_)
                refine o_aload_n hx hb dX3_inOrderOfSlots_44 hl rfl ?_
                refine o_aload_n hx hb dX3_inOrderOfSlots_45 hl rfl ?_
                refine k_X3_nextInOrder (bf := some w) (o := some (ad 11 e9 w)) hC hS hG ⟨by omega, hW, hNE, fun b9 hb9 => by cases hb9; first | done | assumption⟩ rfl ml_X3_62 ⟨Nat.le_of_ble_eq_true rfl, Nat.le_of_ble_eq_true rfl⟩ hl.1 (Nat.le_of_ble_eq_true rfl) dX3_inOrderOfSlots_46 ⟨Nat.le_of_ble_eq_true rfl, Nat.le_of_ble_eq_true rfl⟩ (fun h46_0 => ?_) (fun w46 h46_0 => ?_)
                · skip
                  refine o_astore_nq (x := none) hx hb dX3_inOrderOfSlots_49 hl (by decide) rfl (fun ls hl => ?_)
                  refine o_iinc1 hx hb dX3_inOrderOfSlots_50 hl rfl (by decide) rfl (fun ls hl => ?_)
                  refine lv_goto (tgt := 11) hx hb dX3_inOrderOfSlots_53 (by decide) ?_
                  exact ih11 (y + 1) (by omega) (hf.trans (slF_no (by omega) hz (by first | exact fun z => absurd z.1 (Int32.not_lt.mpr h31) | exact fun z => h36 z.2))) ls (by rw [io_s hz, h46_0]; first | (rw [gv_t hz (Int32.not_le.mp h31)]; exact hl) | (rw [gv_f hz (Int32.not_lt.mpr h31)]; exact hl))
                · skip
                  have ht46 := (nx_in 16 h46_0).2
                  obtain ⟨-, hz46, hy46, hn46, qw46, hqw46, hkw46⟩ := live hW hNE ht46
                  refine o_astore_n hx hb dX3_inOrderOfSlots_49 hl (by decide) rfl (fun ls hl => ?_)
                  refine o_iinc1 hx hb dX3_inOrderOfSlots_50 hl rfl (by decide) rfl (fun ls hl => ?_)
                  refine lv_goto (tgt := 11) hx hb dX3_inOrderOfSlots_53 (by decide) ?_
                  exact ih11 (y + 1) (by omega) (hf.trans (slF_no (by omega) hz (by first | exact fun z => absurd z.1 (Int32.not_lt.mpr h31) | exact fun z => h36 z.2))) ls (by rw [io_s hz, h46_0]; first | (rw [gv_t hz (Int32.not_le.mp h31)]; exact hl) | (rw [gv_f hz (Int32.not_lt.mpr h31)]; exact hl))
              · skip
                refine o_aload_n hx hb dX3_inOrderOfSlots_39 hl rfl ?_
                exact R_q hC hr (Or.inl ⟨_, rfl⟩) (v := some (ad 11 e9 w)) hlk (Or.inr ⟨w, hf.trans (slF_yes (by omega) hz ⟨Int32.not_le.mp h31, h36⟩), rfl⟩) dX3_inOrderOfSlots_40
    exact loop11 17 0 (by omega) rfl ls (by rw [show io S e9 0 = _ from h4_0]; exact hl)
theorem k_X3_inOrderOfSlots {p : Program} {l : Launch} {e : Env} {R : Room} {s : State} {m : MethodId} {args : Array Value} {below : List Frame} {meth : Method} {c : Code} {H : Heap} {locs : List Loc} {cells slots : Nat} {Q : State → Prop} {cc : ByteArray} {pc nL : Nat} {ls : Array Slot} {rest : List Value} {own : String} {D : va_G} {cy : Nat → ClassId} {sa : Nat → Nat} {de B : Nat} {ad : Ad} {S : St} {n : Nat → Nat} {T : St} {k : Nat → Nat} {th : Int32} {X : Rl} {e9 : Nat} {x : Int32}  (hC : Cx p m c cc nL s args own D cy sa de B) (hS : va_S (AB B) s.heap H locs) (hG : GW D B ad (Vw cy de ad S n T k th X) H) (h0 : e9 < n 7 ∧ WF S n ∧ NE S)  {idx : Nat} (wl : Cond.methodLink own idx yX3_inOrderOfSlots ∈ G0) (hR : 2 + 1 ≤ R.frames ∧ 8 + (5 + 11) + 45 ≤ R.locals) (hsz : ls.size = nL) (hst : (rest.map fun v => v.category).sum ≤ 8) (hdg : decode cc pc = .ok (.invokevirtual idx, 3)) (hcs : cells + 0 ≤ R.cells ∧ slots + 0 ≤ R.slots) (k0 : (slF S e9 x 0 16 = none) → W p l e R s m args below meth c H locs cells slots Q (F0 m (pc + 3) ls (.null :: rest))) (k1 : ∀ (w9 : Nat), (slF S e9 x 0 16 = some w9) → W p l e R s m args below meth c H locs cells slots Q (F0 m (pc + 3) ls (.ref (ad 11 e9 w9) :: rest))) : W p l e R s m args below meth c H locs cells slots Q (F0 m pc ls (.int x :: .ref (ad 8 e9 0) :: rest)) :=
  va_csq (va_Run.run (rV hC hS hG h0 (As := [.int x]) (c_X3_inOrderOfSlots l) ⟨rfl, rfl⟩ wl im_X3_inOrderOfSlots sl_X3_X3_inOrderOfSlots in_X3 cd_X3_inOrderOfSlots (n := 1) (by decide +kernel) hR (recv hC hG (q := (RX3, TX3, 5)) rfl (V_event h0.1)) rfl hsz hst rfl hdg hcs)) (fun r hr => by
      rcases hr with ⟨q0, rfl⟩ | ⟨w9, q0, rfl⟩
      · exact k0 q0
      · exact k1 w9 q0)
set_option maxHeartbeats 4000000 in
set_option maxRecDepth 100000 in
theorem c_X3_addTimesTo (l : Launch) {D : va_G} {cy : Nat → ClassId} {sa : Nat → Nat} {de B : Nat} {ad : Ad} {S : St} {n : Nat → Nat} {T : St} {k : Nat → Nat} {th : Int32} {X : Rl} {e9 : Nat} {x : Int64}  : Met l yX3_addTimesTo (Cond.code yX3_addTimesTo cX3_addTimesTo 7 (Option.some Jvm.ClassFile.FieldType.long) :: G0) ({ frames := 1, cells := 0, slots := 0, locals := 20 } : Room) (va_Pc [.ref (ad 8 e9 0), .long x] (PW D cy sa de B ad (Vw cy de ad S n T k th X) (e9 < n 7 ∧ WF S n ∧ NE S))) (vp_Sl (fun r => r = sumT S e9 x 16)) 0 0 (fun _ => False) := by
  refine E_met (own := RX3) rfl rfl (Nat.le_of_ble_eq_true rfl) ?_
  intro p e s m below meth c hC hr hlk hnm hG h0 ls hl
  have hx := hC.x
  have hb := hC.b
  have hS : va_S (AB B) s.heap s.heap [] := va_S.rf
  have hl : lo ls 7 [some (.ref (ad 8 e9 0)), some (.long x), none, none, none, none, none] := lo_of hl
  obtain ⟨he, hW, hNE⟩ := h0
  have hW9 := hW
  obtain ⟨hB0, hB1, hB2, hB3, hB4, hB5, hB6, hB7, hKI, hEI, hKY⟩ := hW9
  refine o_lload_n hx hb dX3_addTimesTo_0 hl rfl ?_
  refine o_lstore_n hx hb dX3_addTimesTo_1 hl (by decide) rfl (fun ls hl => ?_)
  refine lv_iconst (v := 0) hx hb dX3_addTimesTo_2 (by decide) ?_
  refine o_istore hx hb dX3_addTimesTo_3 hl (by decide) rfl (fun ls hl => ?_)
  have loop5 : ∀ (q9 : Nat) (y : Nat), y ≤ 16 ∧ 16 < y + q9 → ∀ ls : Array Slot, lo ls 7 [some (.ref (ad 8 e9 0)), some (.long x), none, some (.long (sumT S e9 x y)), none, some (.int (nI y)), none] → W p l e ({ frames := 1, cells := 0, slots := 0, locals := 20 } : Room) s m [.ref (ad 8 e9 0), .long x].toArray below meth c s.heap [] 0 0 (MQ below (vp_Sl (fun r => r = sumT S e9 x 16)) [.ref (ad 8 e9 0), .long x].toArray s 0 0 (fun _ => False)) (F0 m 5 ls []) := by
    intro q9
    induction q9 with
    | zero => intro y hq9; exact absurd hq9 (by omega)
    | succ q9 ih5 =>
      intro y hq9   ls hl
      refine o_iload hx hb dX3_addTimesTo_5 hl rfl ?_
      refine o_aload_n hx hb dX3_addTimesTo_7 hl rfl ?_
      refine g_get hC hG us_X3 rfl 2 (by decide) fl_X3_17 (V_event (by omega)) rfl dX3_addTimesTo_8 ?_
      refine g_alen hC hG 5 rfl (V_entA (by omega)) (v := nI 16) rfl dX3_addTimesTo_11 ?_
      refine n_icmp_ge (tgt := 60) hx hb y 16 rfl rfl (by omega) (by omega) dX3_addTimesTo_12 (by decide) (fun h12 => ?_) (fun h12 => ?_)
      · skip
        refine o_lload_n hx hb dX3_addTimesTo_60 hl rfl ?_
        exact R_l hC hr hlk (by rw [show (16 : Nat) = y by omega]) dX3_addTimesTo_61
      · skip
        refine o_aload_n hx hb dX3_addTimesTo_15 hl rfl ?_
        refine g_get hC hG us_X3 rfl 2 (by decide) fl_X3_17 (V_event (by omega)) rfl dX3_addTimesTo_16 ?_
        refine o_iload hx hb dX3_addTimesTo_19 hl rfl ?_
        refine g_aald hC hG 5 rfl rfl (V_entA (by omega)) _ rfl (by omega) (by omega) dX3_addTimesTo_21 ?_
        rcases hEI e9 y with hn21 | ⟨he21, ha21, q21, hq21, hk21⟩
        · skip
          rw [fEnt_none (show _ = -1 by exact hn21)]
          refine o_astoreq (x := none) hx hb dX3_addTimesTo_22 hl (by decide) rfl (fun ls hl => ?_)
          refine o_aloadq (x := none) hx hb dX3_addTimesTo_24 hl rfl ?_
          refine lv_ifnullN (tgt := 54) hx hb dX3_addTimesTo_26 (by decide) ?_
          refine o_iinc1 hx hb dX3_addTimesTo_54 hl rfl (by decide) rfl (fun ls hl => ?_)
          refine lv_goto (tgt := 5) hx hb dX3_addTimesTo_57 (by decide) ?_
          exact ih5 (y + 1) (by omega) ls (by first | (rw [sumT_t (show ¬ S 20 e9 y = -1 by rw [hk21]; exact nI_ne_m1 (by omega)) h36]; exact lo_none (i := 6) hl) | (rw [sumT_f (show ¬ S 20 e9 y = -1 by rw [hk21]; exact nI_ne_m1 (by omega)) h36]; exact lo_none (i := 6) hl) | (rw [sumT_n hn21]; exact lo_none (i := 6) hl))
        · skip
          have hng21 : neg (S 20 e9 y) = false := by rw [hk21]; exact neg_nI (by omega)
          rw [fEnt_some (show neg _ = false by exact hng21)]
          refine o_astore hx hb dX3_addTimesTo_22 hl (by decide) rfl (fun ls hl => ?_)
          refine o_aload hx hb dX3_addTimesTo_24 hl rfl ?_
          refine lv_ifnull hx hb dX3_addTimesTo_26 ?_
          refine lv_ldc2 hx hb hC.o (hC.t _ ct_X3_70) dX3_addTimesTo_29 ?_
          refine o_lload_n hx hb dX3_addTimesTo_32 hl rfl ?_
          refine lv_lmul hx hb dX3_addTimesTo_33 ?_
          refine o_aload hx hb dX3_addTimesTo_34 hl rfl ?_
          refine k_X2_hasTime hC hS hG ⟨by omega, by omega, by assumption⟩ ml_X3_51 ⟨Nat.le_of_ble_eq_true rfl, Nat.le_of_ble_eq_true rfl⟩ hl.1 (Nat.le_of_ble_eq_true rfl) dX3_addTimesTo_36 ⟨Nat.le_of_ble_eq_true rfl, Nat.le_of_ble_eq_true rfl⟩ (fun h36 => ?_) (fun h36 => ?_)
          · skip
            refine lv_if_eq (tgt := 50) hx hb dX3_addTimesTo_39 (by decide) (fun h39 => ?_) (fun h39 => ?_)
            · exact absurd h39 (by decide)
            · skip
              refine o_aload hx hb dX3_addTimesTo_42 hl rfl ?_
              refine g_get hC hG us_X2 rfl 3 (by decide) fl_X3_55 (V_ent (by omega) (by omega) (by assumption)) rfl dX3_addTimesTo_44 ?_
              refine lv_goto (tgt := 51) hx hb dX3_addTimesTo_47 (by decide) ?_
              refine lv_i2l hx hb dX3_addTimesTo_51 rfl ?_
              refine lv_ladd hx hb dX3_addTimesTo_52 ?_
              refine o_lstore_n hx hb dX3_addTimesTo_53 hl (by decide) rfl (fun ls hl => ?_)
              refine o_iinc1 hx hb dX3_addTimesTo_54 hl rfl (by decide) rfl (fun ls hl => ?_)
              refine lv_goto (tgt := 5) hx hb dX3_addTimesTo_57 (by decide) ?_
              exact ih5 (y + 1) (by omega) ls (by first | (rw [sumT_t (show ¬ S 20 e9 y = -1 by rw [hk21]; exact nI_ne_m1 (by omega)) h36]; exact lo_none (i := 6) hl) | (rw [sumT_f (show ¬ S 20 e9 y = -1 by rw [hk21]; exact nI_ne_m1 (by omega)) h36]; exact lo_none (i := 6) hl) | (rw [sumT_n hn21]; exact lo_none (i := 6) hl))
          · skip
            refine lv_if_eq (tgt := 50) hx hb dX3_addTimesTo_39 (by decide) (fun h39 => ?_) (fun h39 => ?_)
            · skip
              refine lv_iconst (v := 0) hx hb dX3_addTimesTo_50 (by decide) ?_
              refine lv_i2l hx hb dX3_addTimesTo_51 rfl ?_
              refine lv_ladd hx hb dX3_addTimesTo_52 ?_
              refine o_lstore_n hx hb dX3_addTimesTo_53 hl (by decide) rfl (fun ls hl => ?_)
              refine o_iinc1 hx hb dX3_addTimesTo_54 hl rfl (by decide) rfl (fun ls hl => ?_)
              refine lv_goto (tgt := 5) hx hb dX3_addTimesTo_57 (by decide) ?_
              exact ih5 (y + 1) (by omega) ls (by first | (rw [sumT_t (show ¬ S 20 e9 y = -1 by rw [hk21]; exact nI_ne_m1 (by omega)) h36]; exact lo_none (i := 6) hl) | (rw [sumT_f (show ¬ S 20 e9 y = -1 by rw [hk21]; exact nI_ne_m1 (by omega)) h36]; exact lo_none (i := 6) hl) | (rw [sumT_n hn21]; exact lo_none (i := 6) hl))
            · exact absurd h39 (by decide)
  exact loop5 17 0 (by omega) ls hl
theorem k_X3_addTimesTo {p : Program} {l : Launch} {e : Env} {R : Room} {s : State} {m : MethodId} {args : Array Value} {below : List Frame} {meth : Method} {c : Code} {H : Heap} {locs : List Loc} {cells slots : Nat} {Q : State → Prop} {cc : ByteArray} {pc nL : Nat} {ls : Array Slot} {rest : List Value} {own : String} {D : va_G} {cy : Nat → ClassId} {sa : Nat → Nat} {de B : Nat} {ad : Ad} {S : St} {n : Nat → Nat} {T : St} {k : Nat → Nat} {th : Int32} {X : Rl} {e9 : Nat} {x : Int64}  (hC : Cx p m c cc nL s args own D cy sa de B) (hS : va_S (AB B) s.heap H locs) (hG : GW D B ad (Vw cy de ad S n T k th X) H) (h0 : e9 < n 7 ∧ WF S n ∧ NE S)  {idx : Nat} (wl : Cond.methodLink own idx yX3_addTimesTo ∈ G0) (hR : 1 + 1 ≤ R.frames ∧ 8 + (7 + 11) + 20 ≤ R.locals) (hsz : ls.size = nL) (hst : (rest.map fun v => v.category).sum ≤ 8) (hdg : decode cc pc = .ok (.invokevirtual idx, 3)) (hcs : cells + 0 ≤ R.cells ∧ slots + 0 ≤ R.slots) (kk : W p l e R s m args below meth c H locs cells slots Q (F0 m (pc + 3) ls (.long (sumT S e9 x 16) :: rest))) : W p l e R s m args below meth c H locs cells slots Q (F0 m pc ls (.long x :: .ref (ad 8 e9 0) :: rest)) :=
  vp_callSl (va_Run.run (rV hC hS hG h0 (As := [.long x]) (c_X3_addTimesTo l) ⟨rfl, rfl⟩ wl im_X3_addTimesTo sl_X3_X3_addTimesTo in_X3 cd_X3_addTimesTo (n := 1) (by decide +kernel) hR (recv hC hG (q := (RX3, TX3, 5)) rfl (V_event h0.1)) rfl hsz hst rfl hdg hcs)) (fun r hr => by subst hr; exact kk)
set_option maxHeartbeats 4000000 in
set_option maxRecDepth 100000 in
theorem c_X3_isInOrder (l : Launch) {D : va_G} {cy : Nat → ClassId} {sa : Nat → Nat} {de B : Nat} {ad : Ad} {S : St} {n : Nat → Nat} {T : St} {k : Nat → Nat} {th : Int32} {X : Rl} {e9 : Nat}  : Met l yX3_isInOrder (Cond.code yX3_isInOrder cX3_isInOrder 3 (Option.some Jvm.ClassFile.FieldType.boolean) :: G0) ({ frames := 0, cells := 0, slots := 0, locals := 0 } : Room) (va_Pc [.ref (ad 8 e9 0)] (PW D cy sa de B ad (Vw cy de ad S n T k th X) (e9 < n 7 ∧ WF S n ∧ NE S))) (vp_Si (fun r => (r = 1 ∧ (∀ a, a < 16 → ¬ badE S e9 a)) ∨ (r = 0 ∧ ¬ (∀ a, a < 16 → ¬ badE S e9 a)))) 0 0 (fun _ => False) := by
  refine E_met (own := RX3) rfl rfl (Nat.le_of_ble_eq_true rfl) ?_
  intro p e s m below meth c hC hr hlk hnm hG h0 ls hl
  have hx := hC.x
  have hb := hC.b
  have hS : va_S (AB B) s.heap s.heap [] := va_S.rf
  have hl : lo ls 3 [some (.ref (ad 8 e9 0)), none, none] := lo_of hl
  obtain ⟨he, hW, hNE⟩ := h0
  have hW9 := hW
  obtain ⟨hB0, hB1, hB2, hB3, hB4, hB5, hB6, hB7, hKI, hEI, hKY⟩ := hW9
  refine lv_iconst (v := 0) hx hb dX3_isInOrder_0 (by decide) ?_
  refine o_istore_n hx hb dX3_isInOrder_1 hl (by decide) rfl (fun ls hl => ?_)
  have loop2 : ∀ (q9 : Nat) (y : Nat), y ≤ 16 ∧ 16 < y + q9 → (∀ z, z < y → ¬ badE S e9 z) → ∀ ls : Array Slot, lo ls 3 [some (.ref (ad 8 e9 0)), some (.int (nI y)), none] → W p l e ({ frames := 0, cells := 0, slots := 0, locals := 0 } : Room) s m [.ref (ad 8 e9 0)].toArray below meth c s.heap [] 0 0 (MQ below (vp_Si (fun r => (r = 1 ∧ (∀ a, a < 16 → ¬ badE S e9 a)) ∨ (r = 0 ∧ ¬ (∀ a, a < 16 → ¬ badE S e9 a)))) [.ref (ad 8 e9 0)].toArray s 0 0 (fun _ => False)) (F0 m 2 ls []) := by
    intro q9
    induction q9 with
    | zero => intro y hq9; exact absurd hq9 (by omega)
    | succ q9 ih2 =>
      intro y hq9 hn  ls hl
      refine o_iload_n hx hb dX3_isInOrder_2 hl rfl ?_
      refine o_aload_n hx hb dX3_isInOrder_3 hl rfl ?_
      refine g_get hC hG us_X3 rfl 2 (by decide) fl_X3_17 (V_event (by omega)) rfl dX3_isInOrder_4 ?_
      refine g_alen hC hG 5 rfl (V_entA (by omega)) (v := nI 16) rfl dX3_isInOrder_7 ?_
      refine n_icmp_ge (tgt := 58) hx hb y 16 rfl rfl (by omega) (by omega) dX3_isInOrder_8 (by decide) (fun h8 => ?_) (fun h8 => ?_)
      · skip
        refine lv_iconst (v := 1) hx hb dX3_isInOrder_58 (by decide) ?_
        exact R_i hC hr hlk rfl (Or.inl ⟨rfl, fun a ha => hn a (by omega)⟩) dX3_isInOrder_59
      · skip
        refine o_aload_n hx hb dX3_isInOrder_11 hl rfl ?_
        refine g_get hC hG us_X3 rfl 2 (by decide) fl_X3_17 (V_event (by omega)) rfl dX3_isInOrder_12 ?_
        refine o_iload_n hx hb dX3_isInOrder_15 hl rfl ?_
        refine g_aald hC hG 5 rfl rfl (V_entA (by omega)) _ rfl (by omega) (by omega) dX3_isInOrder_16 ?_
        rcases hEI e9 y with hn16 | ⟨he16, ha16, q16, hq16, hk16⟩
        · skip
          rw [fEnt_none (show _ = -1 by exact hn16)]
          refine o_astore_nq (x := none) hx hb dX3_isInOrder_17 hl (by decide) rfl (fun ls hl => ?_)
          refine o_aload_n hx hb dX3_isInOrder_18 hl rfl ?_
          refine g_get hC hG us_X3 rfl 4 (by decide) fl_X3_72 (V_event (by omega)) rfl dX3_isInOrder_19 ?_
          refine lv_if_ne (tgt := 52) hx hb dX3_isInOrder_22 (by decide) (fun h22 => ?_) (fun h22 => ?_)
          · skip
            refine o_iinc1 hx hb dX3_isInOrder_52 hl rfl (by decide) rfl (fun ls hl => ?_)
            refine lv_goto (tgt := 2) hx hb dX3_isInOrder_55 (by decide) ?_
            exact ih2 (y + 1) (by omega) (fun z hz => (Nat.lt_or_ge z y).elim (hn z) (fun h => by rw [show z = y by omega]; first | exact fun b => h22 b.1 | exact fun b => b.2.1 hn16 | exact fun b => h33 b.2.2.1 | exact fun b => b.2.2.2 (by rw [hk40, hk16, h47]))) ls (lo_none (i := 2) hl)
          · skip
            refine o_aload_nq (x := none) hx hb dX3_isInOrder_25 hl rfl ?_
            refine lv_ifnullN (tgt := 52) hx hb dX3_isInOrder_26 (by decide) ?_
            refine o_iinc1 hx hb dX3_isInOrder_52 hl rfl (by decide) rfl (fun ls hl => ?_)
            refine lv_goto (tgt := 2) hx hb dX3_isInOrder_55 (by decide) ?_
            exact ih2 (y + 1) (by omega) (fun z hz => (Nat.lt_or_ge z y).elim (hn z) (fun h => by rw [show z = y by omega]; first | exact fun b => h22 b.1 | exact fun b => b.2.1 hn16 | exact fun b => h33 b.2.2.1 | exact fun b => b.2.2.2 (by rw [hk40, hk16, h47]))) ls (lo_none (i := 2) hl)
        · skip
          have hng16 : neg (S 20 e9 y) = false := by rw [hk16]; exact neg_nI (by omega)
          rw [fEnt_some (show neg _ = false by exact hng16)]
          refine o_astore_n hx hb dX3_isInOrder_17 hl (by decide) rfl (fun ls hl => ?_)
          refine o_aload_n hx hb dX3_isInOrder_18 hl rfl ?_
          refine g_get hC hG us_X3 rfl 4 (by decide) fl_X3_72 (V_event (by omega)) rfl dX3_isInOrder_19 ?_
          refine lv_if_ne (tgt := 52) hx hb dX3_isInOrder_22 (by decide) (fun h22 => ?_) (fun h22 => ?_)
          · skip
            refine o_iinc1 hx hb dX3_isInOrder_52 hl rfl (by decide) rfl (fun ls hl => ?_)
            refine lv_goto (tgt := 2) hx hb dX3_isInOrder_55 (by decide) ?_
            exact ih2 (y + 1) (by omega) (fun z hz => (Nat.lt_or_ge z y).elim (hn z) (fun h => by rw [show z = y by omega]; first | exact fun b => h22 b.1 | exact fun b => b.2.1 hn16 | exact fun b => h33 b.2.2.1 | exact fun b => b.2.2.2 (by rw [hk40, hk16, h47]))) ls (lo_none (i := 2) hl)
          · skip
            refine o_aload_n hx hb dX3_isInOrder_25 hl rfl ?_
            refine lv_ifnull hx hb dX3_isInOrder_26 ?_
            refine o_aload_n hx hb dX3_isInOrder_29 hl rfl ?_
            refine g_get hC hG us_X2 rfl 2 (by decide) fl_X3_38 (V_ent (by omega) (by omega) (by assumption)) rfl dX3_isInOrder_30 ?_
            refine lv_if_ne (tgt := 52) hx hb dX3_isInOrder_33 (by decide) (fun h33 => ?_) (fun h33 => ?_)
            · skip
              refine o_iinc1 hx hb dX3_isInOrder_52 hl rfl (by decide) rfl (fun ls hl => ?_)
              refine lv_goto (tgt := 2) hx hb dX3_isInOrder_55 (by decide) ?_
              exact ih2 (y + 1) (by omega) (fun z hz => (Nat.lt_or_ge z y).elim (hn z) (fun h => by rw [show z = y by omega]; first | exact fun b => h22 b.1 | exact fun b => b.2.1 hn16 | exact fun b => h33 b.2.2.1 | exact fun b => b.2.2.2 (by rw [hk40, hk16, h47]))) ls (lo_none (i := 2) hl)
            · skip
              refine o_aload_n hx hb dX3_isInOrder_36 hl rfl ?_
              refine g_get hC hG us_X2 rfl 0 (by decide) fl_X3_34 (V_ent (by omega) (by omega) (by assumption)) rfl dX3_isInOrder_37 ?_
              refine g_get hC hG us_X0 rfl 7 (by decide) fl_X3_75 (V_ath (by omega)) rfl dX3_isInOrder_40 ?_
              rcases hKI y (by omega) with hk40 | ⟨q40, hq40, hk40⟩
              · skip
                rw [kro_null (show _ = -1 by exact hk40)]
                refine o_aload_n hx hb dX3_isInOrder_43 hl rfl ?_
                refine g_get hC hG us_X2 rfl 1 (by decide) fl_X3_79 (V_ent (by omega) (by omega) (by assumption)) rfl dX3_isInOrder_44 ?_
                rw [kro_ref (show _ = nI q16 by exact hk16) (by omega)]
                refine lv_acmp_eq (tgt := 52) (rx := none) (ry := (some (ad 7 q16 0))) hx hb dX3_isInOrder_47 (by decide) (fun h47 => ?_) (fun h47 => ?_)
                · exact absurd h47 (by simp)
                · skip
                  refine lv_iconst (v := 0) hx hb dX3_isInOrder_50 (by decide) ?_
                  exact R_i hC hr hlk rfl (Or.inr ⟨rfl, fun z => z y (by omega) ⟨h22, (show ¬ S 20 e9 y = -1 by rw [hk16]; exact nI_ne_m1 (by omega)), h33, by first | exact (fun z2 => h47 ((nI_eq (by omega) (by omega)).mp (hk40.symm.trans (z2.trans hk16)))) | exact (fun z2 => nI_ne_m1 (by omega) (hk16.symm.trans (z2.symm.trans hk40)))⟩⟩) dX3_isInOrder_51
              · skip
                rw [kro_ref (show _ = nI q40 by exact hk40) (by omega)]
                refine o_aload_n hx hb dX3_isInOrder_43 hl rfl ?_
                refine g_get hC hG us_X2 rfl 1 (by decide) fl_X3_79 (V_ent (by omega) (by omega) (by assumption)) rfl dX3_isInOrder_44 ?_
                rw [kro_ref (show _ = nI q16 by exact hk16) (by omega)]
                refine lv_acmp_eq (tgt := 52) (rx := (some (ad 7 q40 0))) (ry := (some (ad 7 q16 0))) hx hb dX3_isInOrder_47 (by decide) (fun h47 => ?_) (fun h47 => ?_)
                · skip
                  have h47 : q40 = q16 := (hG.inj (V_kind (by omega)) (V_kind (by omega)) (Option.some.inj h47)).2.1
                  refine o_iinc1 hx hb dX3_isInOrder_52 hl rfl (by decide) rfl (fun ls hl => ?_)
                  refine lv_goto (tgt := 2) hx hb dX3_isInOrder_55 (by decide) ?_
                  exact ih2 (y + 1) (by omega) (fun z hz => (Nat.lt_or_ge z y).elim (hn z) (fun h => by rw [show z = y by omega]; first | exact fun b => h22 b.1 | exact fun b => b.2.1 hn16 | exact fun b => h33 b.2.2.1 | exact fun b => b.2.2.2 (by rw [hk40, hk16, h47]))) ls (lo_none (i := 2) hl)
                · skip
                  have h47 : ¬ q40 = q16 := fun z => h47 (by rw [z])
                  refine lv_iconst (v := 0) hx hb dX3_isInOrder_50 (by decide) ?_
                  exact R_i hC hr hlk rfl (Or.inr ⟨rfl, fun z => z y (by omega) ⟨h22, (show ¬ S 20 e9 y = -1 by rw [hk16]; exact nI_ne_m1 (by omega)), h33, by first | exact (fun z2 => h47 ((nI_eq (by omega) (by omega)).mp (hk40.symm.trans (z2.trans hk16)))) | exact (fun z2 => nI_ne_m1 (by omega) (hk16.symm.trans (z2.symm.trans hk40)))⟩⟩) dX3_isInOrder_51
  exact loop2 17 0 (by omega) (fun _ h => absurd h (Nat.not_lt_zero _)) ls hl
theorem k_X3_isInOrder {p : Program} {l : Launch} {e : Env} {R : Room} {s : State} {m : MethodId} {args : Array Value} {below : List Frame} {meth : Method} {c : Code} {H : Heap} {locs : List Loc} {cells slots : Nat} {Q : State → Prop} {cc : ByteArray} {pc nL : Nat} {ls : Array Slot} {rest : List Value} {own : String} {D : va_G} {cy : Nat → ClassId} {sa : Nat → Nat} {de B : Nat} {ad : Ad} {S : St} {n : Nat → Nat} {T : St} {k : Nat → Nat} {th : Int32} {X : Rl} {e9 : Nat}  (hC : Cx p m c cc nL s args own D cy sa de B) (hS : va_S (AB B) s.heap H locs) (hG : GW D B ad (Vw cy de ad S n T k th X) H) (h0 : e9 < n 7 ∧ WF S n ∧ NE S)  {idx : Nat} (wl : Cond.methodLink own idx yX3_isInOrder ∈ G0) (hR : 0 + 1 ≤ R.frames ∧ 8 + (3 + 11) + 0 ≤ R.locals) (hsz : ls.size = nL) (hst : (rest.map fun v => v.category).sum ≤ 8) (hdg : decode cc pc = .ok (.invokevirtual idx, 3)) (hcs : cells + 0 ≤ R.cells ∧ slots + 0 ≤ R.slots) (kt : (∀ a, a < 16 → ¬ badE S e9 a) → W p l e R s m args below meth c H locs cells slots Q (F0 m (pc + 3) ls (.int 1 :: rest))) (kf : ¬ (∀ a, a < 16 → ¬ badE S e9 a) → W p l e R s m args below meth c H locs cells slots Q (F0 m (pc + 3) ls (.int 0 :: rest))) : W p l e R s m args below meth c H locs cells slots Q (F0 m pc ls (.ref (ad 8 e9 0) :: rest)) :=
  vp_callSi (va_Run.run (rV hC hS hG h0 (As := []) (c_X3_isInOrder l) ⟨rfl, rfl⟩ wl im_X3_isInOrder sl_X3_X3_isInOrder in_X3 cd_X3_isInOrder (n := 0) (by decide +kernel) hR (recv hC hG (q := (RX3, TX3, 5)) rfl (V_event h0.1)) rfl hsz hst rfl hdg hcs)) (fun r hr => by rcases hr with ⟨rfl, hp⟩ | ⟨rfl, hp⟩; exact kt hp; exact kf hp)
set_option maxHeartbeats 4000000 in
set_option maxRecDepth 100000 in
theorem c_X0_pointsByNow (l : Launch) {D : va_G} {cy : Nat → ClassId} {sa : Nat → Nat} {de B : Nat} {ad : Ad} {S : St} {n : Nat → Nat} {T : St} {k : Nat → Nat} {th : Int32} {X : Rl} {i : Nat}  : Met l yX0_pointsByNow (Cond.code yX0_pointsByNow cX0_pointsByNow 1 (Option.some Jvm.ClassFile.FieldType.int) :: G0) ({ frames := 0, cells := 0, slots := 0, locals := 0 } : Room) (va_Pc [.ref (ad 3 i 0)] (PW D cy sa de B ad (Vw cy de ad S n T k th X) (i < n 4 ∧ WF S n))) (vp_Si (fun r => r = ptsOf S i)) 0 0 (fun _ => False) := by
  refine E_met (own := RX0) rfl rfl (Nat.le_of_ble_eq_true rfl) ?_
  intro p e s m below meth c hC hr hlk hnm hG h0 ls hl
  have hx := hC.x
  have hb := hC.b
  have hS : va_S (AB B) s.heap s.heap [] := va_S.rf
  have hl : lo ls 1 [some (.ref (ad 3 i 0))] := lo_of hl
  obtain ⟨hi, hW⟩ := h0
  have hW9 := hW
  obtain ⟨hB0, hB1, hB2, hB3, hB4, hB5, hB6, hB7, hKI, hEI, hKY⟩ := hW9
  rcases hKI i (by omega) with hk | ⟨q0, hq0, hk⟩
  · skip
    skip
    refine o_aload_n hx hb dX0_pointsByNow_0 hl rfl ?_
    refine g_get hC hG us_X0 rfl 7 (by decide) fl_X0_52 (V_ath (by omega)) rfl dX0_pointsByNow_1 ?_
    rw [kro_null (show _ = -1 by exact hk)]
    refine lv_ifnonnullN hx hb dX0_pointsByNow_4 ?_
    refine lv_iconst (v := 0) hx hb dX0_pointsByNow_7 (by decide) ?_
    refine lv_goto (tgt := 20) hx hb dX0_pointsByNow_8 (by decide) ?_
    exact R_i hC hr hlk rfl (by unfold ptsOf; first | rw [if_pos hk] | rw [if_neg (by rw [hk]; exact nI_ne_m1 (by omega)), hk]) dX0_pointsByNow_20
  · skip
    skip
    refine o_aload_n hx hb dX0_pointsByNow_0 hl rfl ?_
    refine g_get hC hG us_X0 rfl 7 (by decide) fl_X0_52 (V_ath (by omega)) rfl dX0_pointsByNow_1 ?_
    rw [kro_ref (show _ = nI q0 by exact hk) (by omega)]
    refine lv_ifnonnull (tgt := 11) hx hb dX0_pointsByNow_4 (by decide) ?_
    refine o_aload_n hx hb dX0_pointsByNow_11 hl rfl ?_
    refine g_get hC hG us_X0 rfl 7 (by decide) fl_X0_52 (V_ath (by omega)) rfl dX0_pointsByNow_12 ?_
    rw [kro_ref (show _ = nI q0 by exact hk) (by omega)]
    refine g_get hC hG us_X4 rfl 0 (by decide) fl_X0_56 (V_kind (by omega)) rfl dX0_pointsByNow_15 ?_
    refine lv_iconst (v := 1) hx hb dX0_pointsByNow_18 (by decide) ?_
    refine lv_iadd hx hb dX0_pointsByNow_19 ?_
    exact R_i hC hr hlk rfl (by unfold ptsOf; first | rw [if_pos hk] | rw [if_neg (by rw [hk]; exact nI_ne_m1 (by omega)), hk]) dX0_pointsByNow_20
theorem k_X0_pointsByNow {p : Program} {l : Launch} {e : Env} {R : Room} {s : State} {m : MethodId} {args : Array Value} {below : List Frame} {meth : Method} {c : Code} {H : Heap} {locs : List Loc} {cells slots : Nat} {Q : State → Prop} {cc : ByteArray} {pc nL : Nat} {ls : Array Slot} {rest : List Value} {own : String} {D : va_G} {cy : Nat → ClassId} {sa : Nat → Nat} {de B : Nat} {ad : Ad} {S : St} {n : Nat → Nat} {T : St} {k : Nat → Nat} {th : Int32} {X : Rl} {i : Nat}  (hC : Cx p m c cc nL s args own D cy sa de B) (hS : va_S (AB B) s.heap H locs) (hG : GW D B ad (Vw cy de ad S n T k th X) H) (h0 : i < n 4 ∧ WF S n)  {idx : Nat} (wl : Cond.methodLink own idx yX0_pointsByNow ∈ G0) (hR : 0 + 1 ≤ R.frames ∧ 8 + (1 + 11) + 0 ≤ R.locals) (hsz : ls.size = nL) (hst : (rest.map fun v => v.category).sum ≤ 8) (hdg : decode cc pc = .ok (.invokevirtual idx, 3)) (hcs : cells + 0 ≤ R.cells ∧ slots + 0 ≤ R.slots) (kk : W p l e R s m args below meth c H locs cells slots Q (F0 m (pc + 3) ls (.int (ptsOf S i) :: rest))) : W p l e R s m args below meth c H locs cells slots Q (F0 m pc ls (.ref (ad 3 i 0) :: rest)) :=
  vp_callSi (va_Run.run (rV hC hS hG h0 (As := []) (c_X0_pointsByNow l) ⟨rfl, rfl⟩ wl im_X0_pointsByNow sl_X0_X0_pointsByNow in_X0 cd_X0_pointsByNow (n := 0) (by decide +kernel) hR (recv hC hG (q := (RX0, TX0, 10)) rfl (V_ath h0.1)) rfl hsz hst rfl hdg hcs)) (fun r hr => by subst hr; exact kk)
set_option maxHeartbeats 4000000 in
set_option maxRecDepth 100000 in
theorem c_X0_isInOrder (l : Launch) {D : va_G} {cy : Nat → ClassId} {sa : Nat → Nat} {de B : Nat} {ad : Ad} {S : St} {n : Nat → Nat} {T : St} {k : Nat → Nat} {th : Int32} {X : Rl} {i : Nat}  : Met l yX0_isInOrder (Cond.code yX0_isInOrder cX0_isInOrder 1 (Option.some Jvm.ClassFile.FieldType.boolean) :: G0) ({ frames := 3, cells := 0, slots := 0, locals := 64 } : Room) (va_Pc [.ref (ad 3 i 0)] (PW D cy sa de B ad (Vw cy de ad S n T k th X) (i < n 4 ∧ WF S n))) (vp_Si (fun r => (r = 1 ∧ okA S i) ∨ (r = 0 ∧ ¬ okA S i))) 0 0 (fun _ => False) := by
  refine E_met (own := RX0) rfl rfl (Nat.le_of_ble_eq_true rfl) ?_
  intro p e s m below meth c hC hr hlk hnm hG h0 ls hl
  have hx := hC.x
  have hb := hC.b
  have hS : va_S (AB B) s.heap s.heap [] := va_S.rf
  have hl : lo ls 1 [some (.ref (ad 3 i 0))] := lo_of hl
  obtain ⟨hi, hW⟩ := h0
  have hW9 := hW
  obtain ⟨hB0, hB1, hB2, hB3, hB4, hB5, hB6, hB7, hKI, hEI, hKY⟩ := hW9
  rcases hKI i (by omega) with hk | ⟨q0, hq0, hk⟩
  · skip
    skip
    refine o_aload_n hx hb dX0_isInOrder_0 hl rfl ?_
    refine g_get hC hG us_X0 rfl 6 (by decide) fl_X0_26 (V_ath (by omega)) rfl dX0_isInOrder_1 ?_
    refine lv_bipush (v := 99) hx hb dX0_isInOrder_4 (by decide) ?_
    refine lv_icmp_ne (tgt := 32) hx hb dX0_isInOrder_6 (by decide) (fun h6 => ?_) (fun h6 => ?_)
    · skip
      refine o_aload_n hx hb dX0_isInOrder_32 hl rfl ?_
      refine g_get hC hG us_X0 rfl 9 (by decide) fl_X0_63 (V_ath (by omega)) rfl dX0_isInOrder_33 ?_
      refine lv_if_eq (tgt := 57) hx hb dX0_isInOrder_36 (by decide) (fun h36 => ?_) (fun h36 => ?_)
      · skip
        refine o_aload_n hx hb dX0_isInOrder_57 hl rfl ?_
        refine g_get hC hG us_X0 rfl 7 (by decide) fl_X0_52 (V_ath (by omega)) rfl dX0_isInOrder_58 ?_
        rw [kro_null (show _ = -1 by exact hk)]
        refine lv_ifnullN (tgt := 71) hx hb dX0_isInOrder_61 (by decide) ?_
        refine lv_iconst (v := 1) hx hb dX0_isInOrder_71 (by decide) ?_
        refine lv_goto (tgt := 76) hx hb dX0_isInOrder_72 (by decide) ?_
        exact R_i hC hr hlk rfl (by first | exact Or.inl ⟨rfl, (by first | exact fun z => h6 z.1 | exact fun z => z.2 q0 (by omega) hk h24), (by first | exact fun z => z.1 h36 | exact fun z => z.2.elim h45 (fun h => nI_ne_m1 (by omega) (hk.symm.trans h))), Or.inl hk⟩ | exact Or.inl ⟨rfl, (by first | exact fun z => h6 z.1 | exact fun z => z.2 q0 (by omega) hk h24), (by first | exact fun z => z.1 h36 | exact fun z => z.2.elim h45 (fun h => nI_ne_m1 (by omega) (hk.symm.trans h))), Or.inr h65⟩ | exact Or.inr ⟨rfl, fun z => z.2.2.elim (fun h => nI_ne_m1 (by omega) (hk.symm.trans h)) h65⟩) dX0_isInOrder_76
      · skip
        refine o_aload_n hx hb dX0_isInOrder_39 hl rfl ?_
        refine g_get hC hG us_X0 rfl 6 (by decide) fl_X0_26 (V_ath (by omega)) rfl dX0_isInOrder_40 ?_
        refine lv_bipush (v := 120) hx hb dX0_isInOrder_43 (by decide) ?_
        refine lv_icmp_eq (tgt := 55) hx hb dX0_isInOrder_45 (by decide) (fun h45 => ?_) (fun h45 => ?_)
        · skip
          refine lv_iconst (v := 0) hx hb dX0_isInOrder_55 (by decide) ?_
          exact R_i hC hr hlk rfl (by first | exact Or.inr ⟨rfl, fun z => z.2.1 ⟨h36, Or.inl h45⟩⟩ | exact Or.inr ⟨rfl, fun z => z.2.1 ⟨h36, Or.inr hk⟩⟩) dX0_isInOrder_56
        · skip
          refine o_aload_n hx hb dX0_isInOrder_48 hl rfl ?_
          refine g_get hC hG us_X0 rfl 7 (by decide) fl_X0_52 (V_ath (by omega)) rfl dX0_isInOrder_49 ?_
          rw [kro_null (show _ = -1 by exact hk)]
          refine lv_ifnonnullN hx hb dX0_isInOrder_52 ?_
          refine lv_iconst (v := 0) hx hb dX0_isInOrder_55 (by decide) ?_
          exact R_i hC hr hlk rfl (by first | exact Or.inr ⟨rfl, fun z => z.2.1 ⟨h36, Or.inl h45⟩⟩ | exact Or.inr ⟨rfl, fun z => z.2.1 ⟨h36, Or.inr hk⟩⟩) dX0_isInOrder_56
    · skip
      refine o_aload_n hx hb dX0_isInOrder_9 hl rfl ?_
      refine g_get hC hG us_X0 rfl 7 (by decide) fl_X0_52 (V_ath (by omega)) rfl dX0_isInOrder_10 ?_
      rw [kro_null (show _ = -1 by exact hk)]
      refine lv_ifnullN (tgt := 30) hx hb dX0_isInOrder_13 (by decide) ?_
      refine lv_iconst (v := 0) hx hb dX0_isInOrder_30 (by decide) ?_
      exact R_i hC hr hlk rfl (by first | exact Or.inr ⟨rfl, fun z => z.1 ⟨h6, fun q hq hq2 => absurd (hq2.symm.trans hk) (nI_ne_m1 (by omega))⟩⟩ | exact Or.inr ⟨rfl, fun z => z.1 ⟨h6, fun q hq hq2 => by rw [(nI_eq (by omega) (by omega)).mp (hq2.symm.trans hk)]; exact h24⟩⟩) dX0_isInOrder_31
  · skip
    obtain ⟨a, ha5, hka⟩ := hKY q0 (by omega)
    refine o_aload_n hx hb dX0_isInOrder_0 hl rfl ?_
    refine g_get hC hG us_X0 rfl 6 (by decide) fl_X0_26 (V_ath (by omega)) rfl dX0_isInOrder_1 ?_
    refine lv_bipush (v := 99) hx hb dX0_isInOrder_4 (by decide) ?_
    refine lv_icmp_ne (tgt := 32) hx hb dX0_isInOrder_6 (by decide) (fun h6 => ?_) (fun h6 => ?_)
    · skip
      refine o_aload_n hx hb dX0_isInOrder_32 hl rfl ?_
      refine g_get hC hG us_X0 rfl 9 (by decide) fl_X0_63 (V_ath (by omega)) rfl dX0_isInOrder_33 ?_
      refine lv_if_eq (tgt := 57) hx hb dX0_isInOrder_36 (by decide) (fun h36 => ?_) (fun h36 => ?_)
      · skip
        refine o_aload_n hx hb dX0_isInOrder_57 hl rfl ?_
        refine g_get hC hG us_X0 rfl 7 (by decide) fl_X0_52 (V_ath (by omega)) rfl dX0_isInOrder_58 ?_
        rw [kro_ref (show _ = nI q0 by exact hk) (by omega)]
        refine lv_ifnull hx hb dX0_isInOrder_61 ?_
        refine o_aload_n hx hb dX0_isInOrder_64 hl rfl ?_
        refine k_X0_mayCompete hC hS hG (by omega) ml_X0_66 ⟨Nat.le_of_ble_eq_true rfl, Nat.le_of_ble_eq_true rfl⟩ hl.1 (Nat.le_of_ble_eq_true rfl) dX0_isInOrder_65 ⟨Nat.le_of_ble_eq_true rfl, Nat.le_of_ble_eq_true rfl⟩ (fun h65 => ?_) (fun h65 => ?_)
        · skip
          refine lv_if_eq (tgt := 75) hx hb dX0_isInOrder_68 (by decide) (fun h68 => ?_) (fun h68 => ?_)
          · exact absurd h68 (by decide)
          · skip
            refine lv_iconst (v := 1) hx hb dX0_isInOrder_71 (by decide) ?_
            refine lv_goto (tgt := 76) hx hb dX0_isInOrder_72 (by decide) ?_
            exact R_i hC hr hlk rfl (by first | exact Or.inl ⟨rfl, (by first | exact fun z => h6 z.1 | exact fun z => z.2 q0 (by omega) hk h24), (by first | exact fun z => z.1 h36 | exact fun z => z.2.elim h45 (fun h => nI_ne_m1 (by omega) (hk.symm.trans h))), Or.inl hk⟩ | exact Or.inl ⟨rfl, (by first | exact fun z => h6 z.1 | exact fun z => z.2 q0 (by omega) hk h24), (by first | exact fun z => z.1 h36 | exact fun z => z.2.elim h45 (fun h => nI_ne_m1 (by omega) (hk.symm.trans h))), Or.inr h65⟩ | exact Or.inr ⟨rfl, fun z => z.2.2.elim (fun h => nI_ne_m1 (by omega) (hk.symm.trans h)) h65⟩) dX0_isInOrder_76
        · skip
          refine lv_if_eq (tgt := 75) hx hb dX0_isInOrder_68 (by decide) (fun h68 => ?_) (fun h68 => ?_)
          · skip
            refine lv_iconst (v := 0) hx hb dX0_isInOrder_75 (by decide) ?_
            exact R_i hC hr hlk rfl (by first | exact Or.inl ⟨rfl, (by first | exact fun z => h6 z.1 | exact fun z => z.2 q0 (by omega) hk h24), (by first | exact fun z => z.1 h36 | exact fun z => z.2.elim h45 (fun h => nI_ne_m1 (by omega) (hk.symm.trans h))), Or.inl hk⟩ | exact Or.inl ⟨rfl, (by first | exact fun z => h6 z.1 | exact fun z => z.2 q0 (by omega) hk h24), (by first | exact fun z => z.1 h36 | exact fun z => z.2.elim h45 (fun h => nI_ne_m1 (by omega) (hk.symm.trans h))), Or.inr h65⟩ | exact Or.inr ⟨rfl, fun z => z.2.2.elim (fun h => nI_ne_m1 (by omega) (hk.symm.trans h)) h65⟩) dX0_isInOrder_76
          · exact absurd h68 (by decide)
      · skip
        refine o_aload_n hx hb dX0_isInOrder_39 hl rfl ?_
        refine g_get hC hG us_X0 rfl 6 (by decide) fl_X0_26 (V_ath (by omega)) rfl dX0_isInOrder_40 ?_
        refine lv_bipush (v := 120) hx hb dX0_isInOrder_43 (by decide) ?_
        refine lv_icmp_eq (tgt := 55) hx hb dX0_isInOrder_45 (by decide) (fun h45 => ?_) (fun h45 => ?_)
        · skip
          refine lv_iconst (v := 0) hx hb dX0_isInOrder_55 (by decide) ?_
          exact R_i hC hr hlk rfl (by first | exact Or.inr ⟨rfl, fun z => z.2.1 ⟨h36, Or.inl h45⟩⟩ | exact Or.inr ⟨rfl, fun z => z.2.1 ⟨h36, Or.inr hk⟩⟩) dX0_isInOrder_56
        · skip
          refine o_aload_n hx hb dX0_isInOrder_48 hl rfl ?_
          refine g_get hC hG us_X0 rfl 7 (by decide) fl_X0_52 (V_ath (by omega)) rfl dX0_isInOrder_49 ?_
          rw [kro_ref (show _ = nI q0 by exact hk) (by omega)]
          refine lv_ifnonnull (tgt := 57) hx hb dX0_isInOrder_52 (by decide) ?_
          refine o_aload_n hx hb dX0_isInOrder_57 hl rfl ?_
          refine g_get hC hG us_X0 rfl 7 (by decide) fl_X0_52 (V_ath (by omega)) rfl dX0_isInOrder_58 ?_
          rw [kro_ref (show _ = nI q0 by exact hk) (by omega)]
          refine lv_ifnull hx hb dX0_isInOrder_61 ?_
          refine o_aload_n hx hb dX0_isInOrder_64 hl rfl ?_
          refine k_X0_mayCompete hC hS hG (by omega) ml_X0_66 ⟨Nat.le_of_ble_eq_true rfl, Nat.le_of_ble_eq_true rfl⟩ hl.1 (Nat.le_of_ble_eq_true rfl) dX0_isInOrder_65 ⟨Nat.le_of_ble_eq_true rfl, Nat.le_of_ble_eq_true rfl⟩ (fun h65 => ?_) (fun h65 => ?_)
          · skip
            refine lv_if_eq (tgt := 75) hx hb dX0_isInOrder_68 (by decide) (fun h68 => ?_) (fun h68 => ?_)
            · exact absurd h68 (by decide)
            · skip
              refine lv_iconst (v := 1) hx hb dX0_isInOrder_71 (by decide) ?_
              refine lv_goto (tgt := 76) hx hb dX0_isInOrder_72 (by decide) ?_
              exact R_i hC hr hlk rfl (by first | exact Or.inl ⟨rfl, (by first | exact fun z => h6 z.1 | exact fun z => z.2 q0 (by omega) hk h24), (by first | exact fun z => z.1 h36 | exact fun z => z.2.elim h45 (fun h => nI_ne_m1 (by omega) (hk.symm.trans h))), Or.inl hk⟩ | exact Or.inl ⟨rfl, (by first | exact fun z => h6 z.1 | exact fun z => z.2 q0 (by omega) hk h24), (by first | exact fun z => z.1 h36 | exact fun z => z.2.elim h45 (fun h => nI_ne_m1 (by omega) (hk.symm.trans h))), Or.inr h65⟩ | exact Or.inr ⟨rfl, fun z => z.2.2.elim (fun h => nI_ne_m1 (by omega) (hk.symm.trans h)) h65⟩) dX0_isInOrder_76
          · skip
            refine lv_if_eq (tgt := 75) hx hb dX0_isInOrder_68 (by decide) (fun h68 => ?_) (fun h68 => ?_)
            · skip
              refine lv_iconst (v := 0) hx hb dX0_isInOrder_75 (by decide) ?_
              exact R_i hC hr hlk rfl (by first | exact Or.inl ⟨rfl, (by first | exact fun z => h6 z.1 | exact fun z => z.2 q0 (by omega) hk h24), (by first | exact fun z => z.1 h36 | exact fun z => z.2.elim h45 (fun h => nI_ne_m1 (by omega) (hk.symm.trans h))), Or.inl hk⟩ | exact Or.inl ⟨rfl, (by first | exact fun z => h6 z.1 | exact fun z => z.2 q0 (by omega) hk h24), (by first | exact fun z => z.1 h36 | exact fun z => z.2.elim h45 (fun h => nI_ne_m1 (by omega) (hk.symm.trans h))), Or.inr h65⟩ | exact Or.inr ⟨rfl, fun z => z.2.2.elim (fun h => nI_ne_m1 (by omega) (hk.symm.trans h)) h65⟩) dX0_isInOrder_76
            · exact absurd h68 (by decide)
    · skip
      refine o_aload_n hx hb dX0_isInOrder_9 hl rfl ?_
      refine g_get hC hG us_X0 rfl 7 (by decide) fl_X0_52 (V_ath (by omega)) rfl dX0_isInOrder_10 ?_
      rw [kro_ref (show _ = nI q0 by exact hk) (by omega)]
      refine lv_ifnull hx hb dX0_isInOrder_13 ?_
      refine o_aload_n hx hb dX0_isInOrder_16 hl rfl ?_
      refine g_get hC hG us_X0 rfl 7 (by decide) fl_X0_52 (V_ath (by omega)) rfl dX0_isInOrder_17 ?_
      rw [kro_ref (show _ = nI q0 by exact hk) (by omega)]
      refine o_aload_n hx hb dX0_isInOrder_20 hl rfl ?_
      refine g_get hC hG us_X0 rfl 4 (by decide) fl_X0_23 (V_ath (by omega)) rfl dX0_isInOrder_21 ?_
      refine k_X4_holds hC hS hG ⟨by omega, by omega, by omega, by omega, by assumption⟩ ml_X0_59 ⟨Nat.le_of_ble_eq_true rfl, Nat.le_of_ble_eq_true rfl⟩ hl.1 (Nat.le_of_ble_eq_true rfl) dX0_isInOrder_24 ⟨Nat.le_of_ble_eq_true rfl, Nat.le_of_ble_eq_true rfl⟩ (fun h24 => ?_) (fun h24 => ?_)
      · skip
        refine lv_if_ne (tgt := 32) hx hb dX0_isInOrder_27 (by decide) (fun h27 => ?_) (fun h27 => ?_)
        · skip
          refine o_aload_n hx hb dX0_isInOrder_32 hl rfl ?_
          refine g_get hC hG us_X0 rfl 9 (by decide) fl_X0_63 (V_ath (by omega)) rfl dX0_isInOrder_33 ?_
          refine lv_if_eq (tgt := 57) hx hb dX0_isInOrder_36 (by decide) (fun h36 => ?_) (fun h36 => ?_)
          · skip
            refine o_aload_n hx hb dX0_isInOrder_57 hl rfl ?_
            refine g_get hC hG us_X0 rfl 7 (by decide) fl_X0_52 (V_ath (by omega)) rfl dX0_isInOrder_58 ?_
            rw [kro_ref (show _ = nI q0 by exact hk) (by omega)]
            refine lv_ifnull hx hb dX0_isInOrder_61 ?_
            refine o_aload_n hx hb dX0_isInOrder_64 hl rfl ?_
            refine k_X0_mayCompete hC hS hG (by omega) ml_X0_66 ⟨Nat.le_of_ble_eq_true rfl, Nat.le_of_ble_eq_true rfl⟩ hl.1 (Nat.le_of_ble_eq_true rfl) dX0_isInOrder_65 ⟨Nat.le_of_ble_eq_true rfl, Nat.le_of_ble_eq_true rfl⟩ (fun h65 => ?_) (fun h65 => ?_)
            · skip
              refine lv_if_eq (tgt := 75) hx hb dX0_isInOrder_68 (by decide) (fun h68 => ?_) (fun h68 => ?_)
              · exact absurd h68 (by decide)
              · skip
                refine lv_iconst (v := 1) hx hb dX0_isInOrder_71 (by decide) ?_
                refine lv_goto (tgt := 76) hx hb dX0_isInOrder_72 (by decide) ?_
                exact R_i hC hr hlk rfl (by first | exact Or.inl ⟨rfl, (by first | exact fun z => h6 z.1 | exact fun z => z.2 q0 (by omega) hk h24), (by first | exact fun z => z.1 h36 | exact fun z => z.2.elim h45 (fun h => nI_ne_m1 (by omega) (hk.symm.trans h))), Or.inl hk⟩ | exact Or.inl ⟨rfl, (by first | exact fun z => h6 z.1 | exact fun z => z.2 q0 (by omega) hk h24), (by first | exact fun z => z.1 h36 | exact fun z => z.2.elim h45 (fun h => nI_ne_m1 (by omega) (hk.symm.trans h))), Or.inr h65⟩ | exact Or.inr ⟨rfl, fun z => z.2.2.elim (fun h => nI_ne_m1 (by omega) (hk.symm.trans h)) h65⟩) dX0_isInOrder_76
            · skip
              refine lv_if_eq (tgt := 75) hx hb dX0_isInOrder_68 (by decide) (fun h68 => ?_) (fun h68 => ?_)
              · skip
                refine lv_iconst (v := 0) hx hb dX0_isInOrder_75 (by decide) ?_
                exact R_i hC hr hlk rfl (by first | exact Or.inl ⟨rfl, (by first | exact fun z => h6 z.1 | exact fun z => z.2 q0 (by omega) hk h24), (by first | exact fun z => z.1 h36 | exact fun z => z.2.elim h45 (fun h => nI_ne_m1 (by omega) (hk.symm.trans h))), Or.inl hk⟩ | exact Or.inl ⟨rfl, (by first | exact fun z => h6 z.1 | exact fun z => z.2 q0 (by omega) hk h24), (by first | exact fun z => z.1 h36 | exact fun z => z.2.elim h45 (fun h => nI_ne_m1 (by omega) (hk.symm.trans h))), Or.inr h65⟩ | exact Or.inr ⟨rfl, fun z => z.2.2.elim (fun h => nI_ne_m1 (by omega) (hk.symm.trans h)) h65⟩) dX0_isInOrder_76
              · exact absurd h68 (by decide)
          · skip
            refine o_aload_n hx hb dX0_isInOrder_39 hl rfl ?_
            refine g_get hC hG us_X0 rfl 6 (by decide) fl_X0_26 (V_ath (by omega)) rfl dX0_isInOrder_40 ?_
            refine lv_bipush (v := 120) hx hb dX0_isInOrder_43 (by decide) ?_
            refine lv_icmp_eq (tgt := 55) hx hb dX0_isInOrder_45 (by decide) (fun h45 => ?_) (fun h45 => ?_)
            · skip
              refine lv_iconst (v := 0) hx hb dX0_isInOrder_55 (by decide) ?_
              exact R_i hC hr hlk rfl (by first | exact Or.inr ⟨rfl, fun z => z.2.1 ⟨h36, Or.inl h45⟩⟩ | exact Or.inr ⟨rfl, fun z => z.2.1 ⟨h36, Or.inr hk⟩⟩) dX0_isInOrder_56
            · skip
              refine o_aload_n hx hb dX0_isInOrder_48 hl rfl ?_
              refine g_get hC hG us_X0 rfl 7 (by decide) fl_X0_52 (V_ath (by omega)) rfl dX0_isInOrder_49 ?_
              rw [kro_ref (show _ = nI q0 by exact hk) (by omega)]
              refine lv_ifnonnull (tgt := 57) hx hb dX0_isInOrder_52 (by decide) ?_
              refine o_aload_n hx hb dX0_isInOrder_57 hl rfl ?_
              refine g_get hC hG us_X0 rfl 7 (by decide) fl_X0_52 (V_ath (by omega)) rfl dX0_isInOrder_58 ?_
              rw [kro_ref (show _ = nI q0 by exact hk) (by omega)]
              refine lv_ifnull hx hb dX0_isInOrder_61 ?_
              refine o_aload_n hx hb dX0_isInOrder_64 hl rfl ?_
              refine k_X0_mayCompete hC hS hG (by omega) ml_X0_66 ⟨Nat.le_of_ble_eq_true rfl, Nat.le_of_ble_eq_true rfl⟩ hl.1 (Nat.le_of_ble_eq_true rfl) dX0_isInOrder_65 ⟨Nat.le_of_ble_eq_true rfl, Nat.le_of_ble_eq_true rfl⟩ (fun h65 => ?_) (fun h65 => ?_)
              · skip
                refine lv_if_eq (tgt := 75) hx hb dX0_isInOrder_68 (by decide) (fun h68 => ?_) (fun h68 => ?_)
                · exact absurd h68 (by decide)
                · skip
                  refine lv_iconst (v := 1) hx hb dX0_isInOrder_71 (by decide) ?_
                  refine lv_goto (tgt := 76) hx hb dX0_isInOrder_72 (by decide) ?_
                  exact R_i hC hr hlk rfl (by first | exact Or.inl ⟨rfl, (by first | exact fun z => h6 z.1 | exact fun z => z.2 q0 (by omega) hk h24), (by first | exact fun z => z.1 h36 | exact fun z => z.2.elim h45 (fun h => nI_ne_m1 (by omega) (hk.symm.trans h))), Or.inl hk⟩ | exact Or.inl ⟨rfl, (by first | exact fun z => h6 z.1 | exact fun z => z.2 q0 (by omega) hk h24), (by first | exact fun z => z.1 h36 | exact fun z => z.2.elim h45 (fun h => nI_ne_m1 (by omega) (hk.symm.trans h))), Or.inr h65⟩ | exact Or.inr ⟨rfl, fun z => z.2.2.elim (fun h => nI_ne_m1 (by omega) (hk.symm.trans h)) h65⟩) dX0_isInOrder_76
              · skip
                refine lv_if_eq (tgt := 75) hx hb dX0_isInOrder_68 (by decide) (fun h68 => ?_) (fun h68 => ?_)
                · skip
                  refine lv_iconst (v := 0) hx hb dX0_isInOrder_75 (by decide) ?_
                  exact R_i hC hr hlk rfl (by first | exact Or.inl ⟨rfl, (by first | exact fun z => h6 z.1 | exact fun z => z.2 q0 (by omega) hk h24), (by first | exact fun z => z.1 h36 | exact fun z => z.2.elim h45 (fun h => nI_ne_m1 (by omega) (hk.symm.trans h))), Or.inl hk⟩ | exact Or.inl ⟨rfl, (by first | exact fun z => h6 z.1 | exact fun z => z.2 q0 (by omega) hk h24), (by first | exact fun z => z.1 h36 | exact fun z => z.2.elim h45 (fun h => nI_ne_m1 (by omega) (hk.symm.trans h))), Or.inr h65⟩ | exact Or.inr ⟨rfl, fun z => z.2.2.elim (fun h => nI_ne_m1 (by omega) (hk.symm.trans h)) h65⟩) dX0_isInOrder_76
                · exact absurd h68 (by decide)
        · exact absurd h27 (by decide)
      · skip
        refine lv_if_ne (tgt := 32) hx hb dX0_isInOrder_27 (by decide) (fun h27 => ?_) (fun h27 => ?_)
        · exact absurd h27 (by decide)
        · skip
          refine lv_iconst (v := 0) hx hb dX0_isInOrder_30 (by decide) ?_
          exact R_i hC hr hlk rfl (by first | exact Or.inr ⟨rfl, fun z => z.1 ⟨h6, fun q hq hq2 => absurd (hq2.symm.trans hk) (nI_ne_m1 (by omega))⟩⟩ | exact Or.inr ⟨rfl, fun z => z.1 ⟨h6, fun q hq hq2 => by rw [(nI_eq (by omega) (by omega)).mp (hq2.symm.trans hk)]; exact h24⟩⟩) dX0_isInOrder_31
theorem k_X0_isInOrder {p : Program} {l : Launch} {e : Env} {R : Room} {s : State} {m : MethodId} {args : Array Value} {below : List Frame} {meth : Method} {c : Code} {H : Heap} {locs : List Loc} {cells slots : Nat} {Q : State → Prop} {cc : ByteArray} {pc nL : Nat} {ls : Array Slot} {rest : List Value} {own : String} {D : va_G} {cy : Nat → ClassId} {sa : Nat → Nat} {de B : Nat} {ad : Ad} {S : St} {n : Nat → Nat} {T : St} {k : Nat → Nat} {th : Int32} {X : Rl} {i : Nat}  (hC : Cx p m c cc nL s args own D cy sa de B) (hS : va_S (AB B) s.heap H locs) (hG : GW D B ad (Vw cy de ad S n T k th X) H) (h0 : i < n 4 ∧ WF S n)  {idx : Nat} (wl : Cond.methodLink own idx yX0_isInOrder ∈ G0) (hR : 3 + 1 ≤ R.frames ∧ 8 + (1 + 11) + 64 ≤ R.locals) (hsz : ls.size = nL) (hst : (rest.map fun v => v.category).sum ≤ 8) (hdg : decode cc pc = .ok (.invokevirtual idx, 3)) (hcs : cells + 0 ≤ R.cells ∧ slots + 0 ≤ R.slots) (kt : (okA S i) → W p l e R s m args below meth c H locs cells slots Q (F0 m (pc + 3) ls (.int 1 :: rest))) (kf : ¬ (okA S i) → W p l e R s m args below meth c H locs cells slots Q (F0 m (pc + 3) ls (.int 0 :: rest))) : W p l e R s m args below meth c H locs cells slots Q (F0 m pc ls (.ref (ad 3 i 0) :: rest)) :=
  vp_callSi (va_Run.run (rV hC hS hG h0 (As := []) (c_X0_isInOrder l) ⟨rfl, rfl⟩ wl im_X0_isInOrder sl_X0_X0_isInOrder in_X0 cd_X0_isInOrder (n := 0) (by decide +kernel) hR (recv hC hG (q := (RX0, TX0, 10)) rfl (V_ath h0.1)) rfl hsz hst rfl hdg hcs)) (fun r hr => by rcases hr with ⟨rfl, hp⟩ | ⟨rfl, hp⟩; exact kt hp; exact kf hp)
