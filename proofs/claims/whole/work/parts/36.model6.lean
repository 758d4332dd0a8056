set_option maxHeartbeats 4000000 in
set_option maxRecDepth 100000 in
theorem c_X7_athlete (l : Launch) {D : va_G} {cy : Nat → ClassId} {sa : Nat → Nat} {de B : Nat} {ad : Ad} {S : St} {n : Nat → Nat} {T : St} {k : Nat → Nat} {th : Int32} {X : Rl} {x : Int32}  : Met l yX7_athlete (Cond.code yX7_athlete cX7_athlete 3 (Option.some Jvm.ClassFile.FieldType.int) :: G0) ({ frames := 2, cells := 0, slots := 0, locals := 42 } : Room) (va_Pc [.ref (ad 13 0 0), .int x] (PW D cy sa de B ad (Vw cy de ad S n T k th X) (Inv T k))) (oI B (fun r H => (cd_athlete k x = 0 ∧ r = (nI (k 0)) ∧ GW D B ad (Vw cy de ad S n (atS T (k 0) x) (nUp k 0) 0 X) H) ∨ (∃ (t9 : Nat), cd_athlete k x = t9 ∧ ¬ t9 = 0 ∧ GW D B ad (Vw cy de ad S n T k (nI t9) X) H))) 0 0 (AB B) := by
  refine E_met (own := RX7) rfl rfl (Nat.le_of_ble_eq_true rfl) ?_
  intro p e s m below meth c hC hr hlk hnm hG h0 ls hl
  have hx := hC.x
  have hb := hC.b
  have hS : va_S (AB B) s.heap s.heap [] := va_S.rf
  have hl : lo ls 3 [some (.ref (ad 13 0 0)), some (.int x), none] := lo_of hl
  have hI := h0
  obtain ⟨hCI, hD0, hD1, hD2, hB01, hF30, hK8, hMK, hU1, hU2, hS10, hEO, hCF, hFT, hME, hYR, hEK, hLA⟩ := h0
  obtain ⟨hW, hNE, hCH, hBL⟩ := hCI
  have hW9 := hW
  obtain ⟨hB0, hB1, hB2, hB3, hB4, hB5, hB6, hB7, hKI, hEI, hKY⟩ := hW9
  have hMB : MB k := ⟨hB0, hB1, hB2, hB3⟩
  have hKYm : KYm T k := hKY
  refine o_aload_n hx hb dX7_athlete_0 hl rfl ?_
  refine o_iload_n hx hb dX7_athlete_1 hl rfl ?_
  refine k_X7_isNoLand hC hS hG trivial ml_X7_90 ⟨Nat.le_of_ble_eq_true rfl, Nat.le_of_ble_eq_true rfl⟩ hl.1 (Nat.le_of_ble_eq_true rfl) dX7_athlete_2 ⟨Nat.le_of_ble_eq_true rfl, Nat.le_of_ble_eq_true rfl⟩ (fun h2 => ?_) (fun h2 => ?_)
  · skip
    refine lv_iconst (v := 1) hx hb dX7_athlete_5 (by decide) ?_
    refine k_X7_isThrown hC hS hG (by first | exact Or.inl rfl | exact Or.inr rfl) ml_X7_94 ⟨Nat.le_of_ble_eq_true rfl, Nat.le_of_ble_eq_true rfl⟩ hl.1 (Nat.le_of_ble_eq_true rfl) dX7_athlete_6 ⟨Nat.le_of_ble_eq_true rfl, Nat.le_of_ble_eq_true rfl⟩ (fun h6_0 H locs hG hS => ?_) (fun h6_0 H locs hG hS => ?_)
    · skip
      refine lv_if_ne (tgt := 34) hx hb dX7_athlete_9 (by decide) (fun h9 => ?_) (fun h9 => ?_)
      · skip
        refine lv_iconst (v := 0) hx hb dX7_athlete_34 (by decide) ?_
        exact R_I hC hS hr hlk rfl (by first | exact Or.inr ⟨1, (by simp only [cd_athlete]; exact cif_f h2), (by decide), hG⟩ | exact Or.inr ⟨2, (by simp only [cd_athlete]; exact (cif_t (Classical.not_not.mp h2)).trans (cif_f (nI_is (N := 16) (by omega) (by decide) h19))), (by decide), hG⟩) (Nat.le_of_ble_eq_true rfl) (Nat.le_of_ble_eq_true rfl) dX7_athlete_35
      · exact absurd h9 (by decide)
    · skip
      exact absurd h6_0 (by decide)
  · skip
    refine lv_iconst (v := 1) hx hb dX7_athlete_5 (by decide) ?_
    refine k_X7_isThrown hC hS hG (by first | exact Or.inl rfl | exact Or.inr rfl) ml_X7_94 ⟨Nat.le_of_ble_eq_true rfl, Nat.le_of_ble_eq_true rfl⟩ hl.1 (Nat.le_of_ble_eq_true rfl) dX7_athlete_6 ⟨Nat.le_of_ble_eq_true rfl, Nat.le_of_ble_eq_true rfl⟩ (fun h6_0 H locs hG hS => ?_) (fun h6_0 H locs hG hS => ?_)
    · skip
      exact absurd h6_0 (by decide)
    · skip
      refine lv_if_ne (tgt := 34) hx hb dX7_athlete_9 (by decide) (fun h9 => ?_) (fun h9 => ?_)
      · exact absurd h9 (by decide)
      · skip
        refine o_aload_n hx hb dX7_athlete_12 hl rfl ?_
        refine o_aload_n hx hb dX7_athlete_13 hl rfl ?_
        refine g_get hC hG us_X7 rfl 20 (by decide) fl_X7_80 V_model rfl dX7_athlete_14 ?_
        refine lv_bipush (v := 16) hx hb dX7_athlete_17 (by decide) ?_
        refine lv_icmp_ne (tgt := 26) hx hb dX7_athlete_19 (by decide) (fun h19 => ?_) (fun h19 => ?_)
        · skip
          refine lv_iconst (v := 0) hx hb dX7_athlete_26 (by decide) ?_
          refine lv_iconst (v := 2) hx hb dX7_athlete_27 (by decide) ?_
          refine k_X7_isThrown hC hS hG (by first | exact Or.inl rfl | exact Or.inr rfl) ml_X7_94 ⟨Nat.le_of_ble_eq_true rfl, Nat.le_of_ble_eq_true rfl⟩ hl.1 (Nat.le_of_ble_eq_true rfl) dX7_athlete_28 ⟨Nat.le_of_ble_eq_true rfl, Nat.le_of_ble_eq_true rfl⟩ (fun h28_0 H locs hG hS => ?_) (fun h28_0 H locs hG hS => ?_)
          · skip
            exact absurd h28_0 (by decide)
          · skip
            refine lv_if_eq (tgt := 36) hx hb dX7_athlete_31 (by decide) (fun h31 => ?_) (fun h31 => ?_)
            · skip
              have hk16 : k 0 < 16 := nI_not (N := 16) hB0 (by decide) h19
              refine o_aload_n hx hb dX7_athlete_36 hl rfl ?_
              refine g_get hC hG us_X7 rfl 0 (by decide) fl_X7_9 V_model rfl dX7_athlete_37 ?_
              refine o_aload_n hx hb dX7_athlete_40 hl rfl ?_
              refine g_get hC hG us_X7 rfl 20 (by decide) fl_X7_80 V_model rfl dX7_athlete_41 ?_
              refine o_iload_n hx hb dX7_athlete_44 hl rfl ?_
              refine g_iast hC hG hS V_m0 _ rfl (by omega) (by omega) P_m0 dX7_athlete_45 (fun H locs hG hS => ?_)
              refine lv_iconst (v := 0) hx hb dX7_athlete_46 (by decide) ?_
              refine o_istore_n hx hb dX7_athlete_47 hl (by decide) rfl (fun ls hl => ?_)
              have loop48 : ∀ (q9 : Nat) (y : Nat), y ≤ 5 ∧ 5 < y + q9 → ∀ (H : Heap) (locs : List Loc), GW D B ad (Vw cy de ad S n (nwL (up3 T 5 (k 0) 0 x) (k 0) y) k 0 X) H → va_S (AB B) s.heap H locs → ∀ ls : Array Slot, lo ls 3 [some (.ref (ad 13 0 0)), some (.int x), some (.int (nI y))] → W p l e ({ frames := 2, cells := 0, slots := 0, locals := 42 } : Room) s m [.ref (ad 13 0 0), .int x].toArray below meth c H locs 0 0 (MQ below (oI B (fun r H => (cd_athlete k x = 0 ∧ r = (nI (k 0)) ∧ GW D B ad (Vw cy de ad S n (atS T (k 0) x) (nUp k 0) 0 X) H) ∨ (∃ (t9 : Nat), cd_athlete k x = t9 ∧ ¬ t9 = 0 ∧ GW D B ad (Vw cy de ad S n T k (nI t9) X) H))) [.ref (ad 13 0 0), .int x].toArray s 0 0 (AB B)) (F0 m 48 ls []) := by
                intro q9
                induction q9 with
                | zero => intro y hq9; exact absurd hq9 (by omega)
                | succ q9 ih48 =>
                  intro y hq9  H locs hG hS ls hl
                  refine o_iload_n hx hb dX7_athlete_48 hl rfl ?_
                  refine lv_iconst (v := 5) hx hb dX7_athlete_49 (by decide) ?_
                  refine n_icmp_ge (tgt := 84) hx hb y 5 rfl rfl (by omega) (by omega) dX7_athlete_50 (by decide) (fun h50 => ?_) (fun h50 => ?_)
                  · skip
                    refine o_aload_n hx hb dX7_athlete_84 hl rfl ?_
                    refine g_get hC hG us_X7 rfl 5 (by decide) fl_X7_28 V_model rfl dX7_athlete_85 ?_
                    refine o_aload_n hx hb dX7_athlete_88 hl rfl ?_
                    refine g_get hC hG us_X7 rfl 20 (by decide) fl_X7_80 V_model rfl dX7_athlete_89 ?_
                    refine lv_bipush (v := 45) hx hb dX7_athlete_92 (by decide) ?_
                    refine g_cast hC hG hS V_m5 _ rfl (by omega) (by omega) rfl P_m5 dX7_athlete_94 (fun H locs hG hS => ?_)
                    refine o_aload_n hx hb dX7_athlete_95 hl rfl ?_
                    refine g_get hC hG us_X7 rfl 6 (by decide) fl_X7_32 V_model rfl dX7_athlete_96 ?_
                    refine o_aload_n hx hb dX7_athlete_99 hl rfl ?_
                    refine g_get hC hG us_X7 rfl 20 (by decide) fl_X7_80 V_model rfl dX7_athlete_100 ?_
                    refine lv_iconst (v := (-1)) hx hb dX7_athlete_103 (by decide) ?_
                    refine g_iast hC hG hS V_m6 _ rfl (by omega) (by omega) P_m6 dX7_athlete_104 (fun H locs hG hS => ?_)
                    refine o_aload_n hx hb dX7_athlete_105 hl rfl ?_
                    refine g_get hC hG us_X7 rfl 7 (by decide) fl_X7_35 V_model rfl dX7_athlete_106 ?_
                    refine o_aload_n hx hb dX7_athlete_109 hl rfl ?_
                    refine g_get hC hG us_X7 rfl 20 (by decide) fl_X7_80 V_model rfl dX7_athlete_110 ?_
                    refine lv_iconst (v := (-1)) hx hb dX7_athlete_113 (by decide) ?_
                    refine g_iast hC hG hS V_m7 _ rfl (by omega) (by omega) P_m7 dX7_athlete_114 (fun H locs hG hS => ?_)
                    refine o_aload_n hx hb dX7_athlete_115 hl rfl ?_
                    refine lv_dup hx hb dX7_athlete_116 rfl ?_
                    refine g_get hC hG us_X7 rfl 20 (by decide) fl_X7_80 V_model rfl dX7_athlete_117 ?_
                    refine lv_iconst (v := 1) hx hb dX7_athlete_120 (by decide) ?_
                    refine lv_iadd hx hb dX7_athlete_121 ?_
                    refine g_put hC hG hS us_X7 tyX7_ok nmX7 rfl 20 (by decide) fl_X7_80 rfl V_model rfl rfl (Nat.le_of_ble_eq_true rfl) (P_k0 (w := k 0 + 1) (nI_1 _)) dX7_athlete_122 (fun H locs hG hS => ?_)
                    refine o_aload_n hx hb dX7_athlete_125 hl rfl ?_
                    refine g_get hC hG us_X7 rfl 20 (by decide) fl_X7_80 V_model rfl dX7_athlete_126 ?_
                    refine lv_iconst (v := 1) hx hb dX7_athlete_129 (by decide) ?_
                    refine lv_isub hx hb dX7_athlete_130 ?_
                    exact R_I hC hS hr hlk rfl (Or.inl ⟨(by simp only [cd_athlete]; exact (cif_t (Classical.not_not.mp h2)).trans (cif_t hk16)), (by exact nI_pred (k 0)), (by rw [show y = 5 by omega] at hG; rw [show Vw cy de ad S n (atS T (k 0) x) (nUp k 0) 0 X = Vw cy de ad S n (nwA T (k 0) x) (fun i => if i = 0 then k 0 + 1 else k i) 0 X from (Vw_k nUp_k).trans (Vw_mod atS_c)]; exact hG)⟩) (Nat.le_of_ble_eq_true rfl) (Nat.le_of_ble_eq_true rfl) dX7_athlete_131
                  · skip
                    refine o_aload_n hx hb dX7_athlete_53 hl rfl ?_
                    refine g_get hC hG us_X7 rfl 1 (by decide) fl_X7_15 V_model rfl dX7_athlete_54 ?_
                    refine o_aload_n hx hb dX7_athlete_57 hl rfl ?_
                    refine g_get hC hG us_X7 rfl 20 (by decide) fl_X7_80 V_model rfl dX7_athlete_58 ?_
                    refine g_aald hC hG 7 rfl rfl V_o1 _ rfl (by omega) (by omega) dX7_athlete_61 ?_
                    refine o_iload_n hx hb dX7_athlete_62 hl rfl ?_
                    refine lv_bipush (v := 100) hx hb dX7_athlete_63 (by decide) ?_
                    refine g_iast hC hG hS (V_r1 (by omega)) _ rfl (by omega) (by omega) (P_r1 (by omega)) dX7_athlete_65 (fun H locs hG hS => ?_)
                    refine o_aload_n hx hb dX7_athlete_66 hl rfl ?_
                    refine g_get hC hG us_X7 rfl 2 (by decide) fl_X7_18 V_model rfl dX7_athlete_67 ?_
                    refine o_aload_n hx hb dX7_athlete_70 hl rfl ?_
                    refine g_get hC hG us_X7 rfl 20 (by decide) fl_X7_80 V_model rfl dX7_athlete_71 ?_
                    refine g_aald hC hG 7 rfl rfl V_o2 _ rfl (by omega) (by omega) dX7_athlete_74 ?_
                    refine o_iload_n hx hb dX7_athlete_75 hl rfl ?_
                    refine lv_iconst (v := (-1)) hx hb dX7_athlete_76 (by decide) ?_
                    refine g_iast hC hG hS (V_r2 (by omega)) _ rfl (by omega) (by omega) (P_r2 (by omega)) dX7_athlete_77 (fun H locs hG hS => ?_)
                    refine o_iinc1 hx hb dX7_athlete_78 hl rfl (by decide) rfl (fun ls hl => ?_)
                    refine lv_goto (tgt := 48) hx hb dX7_athlete_81 (by decide) ?_
                    exact ih48 (y + 1) (by omega) H locs hG hS ls hl
              exact loop48 6 0 (by omega) H locs hG hS ls hl
            · exact absurd h31 (by decide)
        · skip
          refine lv_iconst (v := 1) hx hb dX7_athlete_22 (by decide) ?_
          refine lv_goto (tgt := 27) hx hb dX7_athlete_23 (by decide) ?_
          refine lv_iconst (v := 2) hx hb dX7_athlete_27 (by decide) ?_
          refine k_X7_isThrown hC hS hG (by first | exact Or.inl rfl | exact Or.inr rfl) ml_X7_94 ⟨Nat.le_of_ble_eq_true rfl, Nat.le_of_ble_eq_true rfl⟩ hl.1 (Nat.le_of_ble_eq_true rfl) dX7_athlete_28 ⟨Nat.le_of_ble_eq_true rfl, Nat.le_of_ble_eq_true rfl⟩ (fun h28_0 H locs hG hS => ?_) (fun h28_0 H locs hG hS => ?_)
          · skip
            refine lv_if_eq (tgt := 36) hx hb dX7_athlete_31 (by decide) (fun h31 => ?_) (fun h31 => ?_)
            · exact absurd h31 (by decide)
            · skip
              refine lv_iconst (v := 0) hx hb dX7_athlete_34 (by decide) ?_
              exact R_I hC hS hr hlk rfl (by first | exact Or.inr ⟨1, (by simp only [cd_athlete]; exact cif_f h2), (by decide), hG⟩ | exact Or.inr ⟨2, (by simp only [cd_athlete]; exact (cif_t (Classical.not_not.mp h2)).trans (cif_f (nI_is (N := 16) (by omega) (by decide) h19))), (by decide), hG⟩) (Nat.le_of_ble_eq_true rfl) (Nat.le_of_ble_eq_true rfl) dX7_athlete_35
          · skip
            exact absurd h28_0 (by decide)
theorem k_X7_athlete {p : Program} {l : Launch} {e : Env} {R : Room} {s : State} {m : MethodId} {args : Array Value} {below : List Frame} {meth : Method} {c : Code} {H : Heap} {locs : List Loc} {cells slots : Nat} {Q : State → Prop} {cc : ByteArray} {pc nL : Nat} {ls : Array Slot} {rest : List Value} {own : String} {D : va_G} {cy : Nat → ClassId} {sa : Nat → Nat} {de B : Nat} {ad : Ad} {S : St} {n : Nat → Nat} {T : St} {k : Nat → Nat} {th : Int32} {X : Rl} {x : Int32}  (hC : Cx p m c cc nL s args own D cy sa de B) (hS : va_S (AB B) s.heap H locs) (hG : GW D B ad (Vw cy de ad S n T k th X) H) (h0 : Inv T k)  {idx : Nat} (wl : Cond.methodLink own idx yX7_athlete ∈ G0) (hR : 2 + 1 ≤ R.frames ∧ 8 + (3 + 11) + 42 ≤ R.locals) (hsz : ls.size = nL) (hst : (rest.map fun v => v.category).sum ≤ 8) (hdg : decode cc pc = .ok (.invokevirtual idx, 3)) (hcs : cells + 0 ≤ R.cells ∧ slots + 0 ≤ R.slots) (k0 : (cd_athlete k x = 0) → ∀ (H1 : Heap) (locs1 : List Loc), GW D B ad (Vw cy de ad S n (atS T (k 0) x) (nUp k 0) 0 X) H1 → va_S (AB B) s.heap H1 locs1 → W p l e R s m args below meth c H1 locs1 cells slots Q (F0 m (pc + 3) ls (.int (nI (k 0)) :: rest))) (k1 : ∀ (r9 : Int32), ∀ (t9 : Nat), (cd_athlete k x = t9) → (¬ t9 = 0) → ∀ (H1 : Heap) (locs1 : List Loc), GW D B ad (Vw cy de ad S n T k (nI t9) X) H1 → va_S (AB B) s.heap H1 locs1 → W p l e R s m args below meth c H1 locs1 cells slots Q (F0 m (pc + 3) ls (.int r9 :: rest))) : W p l e R s m args below meth c H locs cells slots Q (F0 m pc ls (.int x :: .ref (ad 13 0 0) :: rest)) :=
  va_calli (rV hC hS hG h0 (As := [.int x]) (c_X7_athlete l) ⟨rfl, rfl⟩ wl im_X7_athlete sl_X7_X7_athlete in_X7 cd_X7_athlete (n := 1) (by decide +kernel) hR (recv hC hG (q := (RX7, TX7, 26)) rfl V_model) rfl hsz hst rfl hdg hcs) hS (fun _ _ h => h) (fun _ h => h) (fun r u t H1 locs1 ht _ hr hB _ _ hS1 => by
      subst hr
      have hB9 := hB; try dsimp only at hB9
      rw [ht] at hB9
      rcases hB9 with ⟨q0, rfl, hG1⟩ | ⟨t9, q0, q1, hG1⟩
      · exact k0 q0 _ _ hG1 hS1
      · exact k1 r t9 q0 q1 _ _ hG1 hS1)
set_option maxHeartbeats 4000000 in
set_option maxRecDepth 100000 in
theorem c_X7_classifier (l : Launch) {D : va_G} {cy : Nat → ClassId} {sa : Nat → Nat} {de B : Nat} {ad : Ad} {S : St} {n : Nat → Nat} {T : St} {k : Nat → Nat} {th : Int32} {X : Rl} {x : Int32}  : Met l yX7_classifier (Cond.code yX7_classifier cX7_classifier 2 (Option.some Jvm.ClassFile.FieldType.int) :: G0) ({ frames := 2, cells := 0, slots := 0, locals := 42 } : Room) (va_Pc [.ref (ad 13 0 0), .int x] (PW D cy sa de B ad (Vw cy de ad S n T k th X) (Inv T k))) (oI B (fun r H => (cd_classifier k x = 0 ∧ r = (nI (k 1)) ∧ GW D B ad (Vw cy de ad S n (clS T (k 1) x) (nUp k 1) 0 X) H) ∨ (∃ (t9 : Nat), cd_classifier k x = t9 ∧ ¬ t9 = 0 ∧ GW D B ad (Vw cy de ad S n T k (nI t9) X) H))) 0 0 (AB B) := by
  refine E_met (own := RX7) rfl rfl (Nat.le_of_ble_eq_true rfl) ?_
  intro p e s m below meth c hC hr hlk hnm hG h0 ls hl
  have hx := hC.x
  have hb := hC.b
  have hS : va_S (AB B) s.heap s.heap [] := va_S.rf
  have hl : lo ls 2 [some (.ref (ad 13 0 0)), some (.int x)] := lo_of hl
  have hI := h0
  obtain ⟨hCI, hD0, hD1, hD2, hB01, hF30, hK8, hMK, hU1, hU2, hS10, hEO, hCF, hFT, hME, hYR, hEK, hLA⟩ := h0
  obtain ⟨hW, hNE, hCH, hBL⟩ := hCI
  have hW9 := hW
  obtain ⟨hB0, hB1, hB2, hB3, hB4, hB5, hB6, hB7, hKI, hEI, hKY⟩ := hW9
  have hMB : MB k := ⟨hB0, hB1, hB2, hB3⟩
  have hKYm : KYm T k := hKY
  refine o_aload_n hx hb dX7_classifier_0 hl rfl ?_
  refine o_iload_n hx hb dX7_classifier_1 hl rfl ?_
  refine k_X7_isNoLand hC hS hG trivial ml_X7_90 ⟨Nat.le_of_ble_eq_true rfl, Nat.le_of_ble_eq_true rfl⟩ hl.1 (Nat.le_of_ble_eq_true rfl) dX7_classifier_2 ⟨Nat.le_of_ble_eq_true rfl, Nat.le_of_ble_eq_true rfl⟩ (fun h2 => ?_) (fun h2 => ?_)
  · skip
    refine lv_iconst (v := 1) hx hb dX7_classifier_5 (by decide) ?_
    refine k_X7_isThrown hC hS hG (by first | exact Or.inl rfl | exact Or.inr rfl) ml_X7_94 ⟨Nat.le_of_ble_eq_true rfl, Nat.le_of_ble_eq_true rfl⟩ hl.1 (Nat.le_of_ble_eq_true rfl) dX7_classifier_6 ⟨Nat.le_of_ble_eq_true rfl, Nat.le_of_ble_eq_true rfl⟩ (fun h6_0 H locs hG hS => ?_) (fun h6_0 H locs hG hS => ?_)
    · skip
      refine lv_if_ne (tgt := 34) hx hb dX7_classifier_9 (by decide) (fun h9 => ?_) (fun h9 => ?_)
      · skip
        refine lv_iconst (v := 0) hx hb dX7_classifier_34 (by decide) ?_
        exact R_I hC hS hr hlk rfl (by first | exact Or.inr ⟨1, (by simp only [cd_classifier]; exact cif_f h2), (by decide), hG⟩ | exact Or.inr ⟨2, (by simp only [cd_classifier]; exact (cif_t (Classical.not_not.mp h2)).trans (cif_f (nI_is (N := 8) (by omega) (by decide) h19))), (by decide), hG⟩) (Nat.le_of_ble_eq_true rfl) (Nat.le_of_ble_eq_true rfl) dX7_classifier_35
      · exact absurd h9 (by decide)
    · skip
      exact absurd h6_0 (by decide)
  · skip
    refine lv_iconst (v := 1) hx hb dX7_classifier_5 (by decide) ?_
    refine k_X7_isThrown hC hS hG (by first | exact Or.inl rfl | exact Or.inr rfl) ml_X7_94 ⟨Nat.le_of_ble_eq_true rfl, Nat.le_of_ble_eq_true rfl⟩ hl.1 (Nat.le_of_ble_eq_true rfl) dX7_classifier_6 ⟨Nat.le_of_ble_eq_true rfl, Nat.le_of_ble_eq_true rfl⟩ (fun h6_0 H locs hG hS => ?_) (fun h6_0 H locs hG hS => ?_)
    · skip
      exact absurd h6_0 (by decide)
    · skip
      refine lv_if_ne (tgt := 34) hx hb dX7_classifier_9 (by decide) (fun h9 => ?_) (fun h9 => ?_)
      · exact absurd h9 (by decide)
      · skip
        refine o_aload_n hx hb dX7_classifier_12 hl rfl ?_
        refine o_aload_n hx hb dX7_classifier_13 hl rfl ?_
        refine g_get hC hG us_X7 rfl 21 (by decide) fl_X7_108 V_model rfl dX7_classifier_14 ?_
        refine lv_bipush (v := 8) hx hb dX7_classifier_17 (by decide) ?_
        refine lv_icmp_ne (tgt := 26) hx hb dX7_classifier_19 (by decide) (fun h19 => ?_) (fun h19 => ?_)
        · skip
          refine lv_iconst (v := 0) hx hb dX7_classifier_26 (by decide) ?_
          refine lv_iconst (v := 2) hx hb dX7_classifier_27 (by decide) ?_
          refine k_X7_isThrown hC hS hG (by first | exact Or.inl rfl | exact Or.inr rfl) ml_X7_94 ⟨Nat.le_of_ble_eq_true rfl, Nat.le_of_ble_eq_true rfl⟩ hl.1 (Nat.le_of_ble_eq_true rfl) dX7_classifier_28 ⟨Nat.le_of_ble_eq_true rfl, Nat.le_of_ble_eq_true rfl⟩ (fun h28_0 H locs hG hS => ?_) (fun h28_0 H locs hG hS => ?_)
          · skip
            exact absurd h28_0 (by decide)
          · skip
            refine lv_if_eq (tgt := 36) hx hb dX7_classifier_31 (by decide) (fun h31 => ?_) (fun h31 => ?_)
            · skip
              have hk8 : k 1 < 8 := nI_not (N := 8) hB1 (by decide) h19
              refine o_aload_n hx hb dX7_classifier_36 hl rfl ?_
              refine g_get hC hG us_X7 rfl 9 (by decide) fl_X7_41 V_model rfl dX7_classifier_37 ?_
              refine o_aload_n hx hb dX7_classifier_40 hl rfl ?_
              refine g_get hC hG us_X7 rfl 21 (by decide) fl_X7_108 V_model rfl dX7_classifier_41 ?_
              refine o_iload_n hx hb dX7_classifier_44 hl rfl ?_
              refine g_iast hC hG hS V_m9 _ rfl (by omega) (by omega) P_m9 dX7_classifier_45 (fun H locs hG hS => ?_)
              refine o_aload_n hx hb dX7_classifier_46 hl rfl ?_
              refine lv_dup hx hb dX7_classifier_47 rfl ?_
              refine g_get hC hG us_X7 rfl 21 (by decide) fl_X7_108 V_model rfl dX7_classifier_48 ?_
              refine lv_iconst (v := 1) hx hb dX7_classifier_51 (by decide) ?_
              refine lv_iadd hx hb dX7_classifier_52 ?_
              refine g_put hC hG hS us_X7 tyX7_ok nmX7 rfl 21 (by decide) fl_X7_108 rfl V_model rfl rfl (Nat.le_of_ble_eq_true rfl) (P_k1 (w := k 1 + 1) (nI_1 _)) dX7_classifier_53 (fun H locs hG hS => ?_)
              refine o_aload_n hx hb dX7_classifier_56 hl rfl ?_
              refine g_get hC hG us_X7 rfl 21 (by decide) fl_X7_108 V_model rfl dX7_classifier_57 ?_
              refine lv_iconst (v := 1) hx hb dX7_classifier_60 (by decide) ?_
              refine lv_isub hx hb dX7_classifier_61 ?_
              exact R_I hC hS hr hlk rfl (Or.inl ⟨(by simp only [cd_classifier]; exact (cif_t (Classical.not_not.mp h2)).trans (cif_t hk8)), (by exact nI_pred (k 1)), (by rw [show Vw cy de ad S n (clS T (k 1) x) (nUp k 1) 0 X = Vw cy de ad S n (up3 T 12 (k 1) 0 x) (fun i => if i = 1 then k 1 + 1 else k i) 0 X from (Vw_k nUp_k).trans (Vw_mod clS_c)]; exact hG)⟩) (Nat.le_of_ble_eq_true rfl) (Nat.le_of_ble_eq_true rfl) dX7_classifier_62
            · exact absurd h31 (by decide)
        · skip
          refine lv_iconst (v := 1) hx hb dX7_classifier_22 (by decide) ?_
          refine lv_goto (tgt := 27) hx hb dX7_classifier_23 (by decide) ?_
          refine lv_iconst (v := 2) hx hb dX7_classifier_27 (by decide) ?_
          refine k_X7_isThrown hC hS hG (by first | exact Or.inl rfl | exact Or.inr rfl) ml_X7_94 ⟨Nat.le_of_ble_eq_true rfl, Nat.le_of_ble_eq_true rfl⟩ hl.1 (Nat.le_of_ble_eq_true rfl) dX7_classifier_28 ⟨Nat.le_of_ble_eq_true rfl, Nat.le_of_ble_eq_true rfl⟩ (fun h28_0 H locs hG hS => ?_) (fun h28_0 H locs hG hS => ?_)
          · skip
            refine lv_if_eq (tgt := 36) hx hb dX7_classifier_31 (by decide) (fun h31 => ?_) (fun h31 => ?_)
            · exact absurd h31 (by decide)
            · skip
              refine lv_iconst (v := 0) hx hb dX7_classifier_34 (by decide) ?_
              exact R_I hC hS hr hlk rfl (by first | exact Or.inr ⟨1, (by simp only [cd_classifier]; exact cif_f h2), (by decide), hG⟩ | exact Or.inr ⟨2, (by simp only [cd_classifier]; exact (cif_t (Classical.not_not.mp h2)).trans (cif_f (nI_is (N := 8) (by omega) (by decide) h19))), (by decide), hG⟩) (Nat.le_of_ble_eq_true rfl) (Nat.le_of_ble_eq_true rfl) dX7_classifier_35
          · skip
            exact absurd h28_0 (by decide)
theorem k_X7_classifier {p : Program} {l : Launch} {e : Env} {R : Room} {s : State} {m : MethodId} {args : Array Value} {below : List Frame} {meth : Method} {c : Code} {H : Heap} {locs : List Loc} {cells slots : Nat} {Q : State → Prop} {cc : ByteArray} {pc nL : Nat} {ls : Array Slot} {rest : List Value} {own : String} {D : va_G} {cy : Nat → ClassId} {sa : Nat → Nat} {de B : Nat} {ad : Ad} {S : St} {n : Nat → Nat} {T : St} {k : Nat → Nat} {th : Int32} {X : Rl} {x : Int32}  (hC : Cx p m c cc nL s args own D cy sa de B) (hS : va_S (AB B) s.heap H locs) (hG : GW D B ad (Vw cy de ad S n T k th X) H) (h0 : Inv T k)  {idx : Nat} (wl : Cond.methodLink own idx yX7_classifier ∈ G0) (hR : 2 + 1 ≤ R.frames ∧ 8 + (2 + 11) + 42 ≤ R.locals) (hsz : ls.size = nL) (hst : (rest.map fun v => v.category).sum ≤ 8) (hdg : decode cc pc = .ok (.invokevirtual idx, 3)) (hcs : cells + 0 ≤ R.cells ∧ slots + 0 ≤ R.slots) (k0 : (cd_classifier k x = 0) → ∀ (H1 : Heap) (locs1 : List Loc), GW D B ad (Vw cy de ad S n (clS T (k 1) x) (nUp k 1) 0 X) H1 → va_S (AB B) s.heap H1 locs1 → W p l e R s m args below meth c H1 locs1 cells slots Q (F0 m (pc + 3) ls (.int (nI (k 1)) :: rest))) (k1 : ∀ (r9 : Int32), ∀ (t9 : Nat), (cd_classifier k x = t9) → (¬ t9 = 0) → ∀ (H1 : Heap) (locs1 : List Loc), GW D B ad (Vw cy de ad S n T k (nI t9) X) H1 → va_S (AB B) s.heap H1 locs1 → W p l e R s m args below meth c H1 locs1 cells slots Q (F0 m (pc + 3) ls (.int r9 :: rest))) : W p l e R s m args below meth c H locs cells slots Q (F0 m pc ls (.int x :: .ref (ad 13 0 0) :: rest)) :=
  va_calli (rV hC hS hG h0 (As := [.int x]) (c_X7_classifier l) ⟨rfl, rfl⟩ wl im_X7_classifier sl_X7_X7_classifier in_X7 cd_X7_classifier (n := 1) (by decide +kernel) hR (recv hC hG (q := (RX7, TX7, 26)) rfl V_model) rfl hsz hst rfl hdg hcs) hS (fun _ _ h => h) (fun _ h => h) (fun r u t H1 locs1 ht _ hr hB _ _ hS1 => by
      subst hr
      have hB9 := hB; try dsimp only at hB9
      rw [ht] at hB9
      rcases hB9 with ⟨q0, rfl, hG1⟩ | ⟨t9, q0, q1, hG1⟩
      · exact k0 q0 _ _ hG1 hS1
      · exact k1 r t9 q0 q1 _ _ hG1 hS1)
set_option maxHeartbeats 4000000 in
set_option maxRecDepth 100000 in
theorem c_X7_kind (l : Launch) {D : va_G} {cy : Nat → ClassId} {sa : Nat → Nat} {de B : Nat} {ad : Ad} {S : St} {n : Nat → Nat} {T : St} {k : Nat → Nat} {th : Int32} {X : Rl} {x y z w : Int32}  : Met l yX7_kind (Cond.code yX7_kind cX7_kind 5 (Option.some Jvm.ClassFile.FieldType.int) :: G0) ({ frames := 2, cells := 0, slots := 0, locals := 42 } : Room) (va_Pc [.ref (ad 13 0 0), .int x, .int y, .int z, .int w] (PW D cy sa de B ad (Vw cy de ad S n T k th X) (Inv T k))) (oI B (fun r H => (cd_kind k x y z w = 0 ∧ r = (nI (k 2)) ∧ GW D B ad (Vw cy de ad S n (kiS T (k 2) x y z w) (nUp k 2) 0 X) H) ∨ (∃ (t9 : Nat), cd_kind k x y z w = t9 ∧ ¬ t9 = 0 ∧ GW D B ad (Vw cy de ad S n T k (nI t9) X) H))) 0 0 (AB B) := by
  refine E_met (own := RX7) rfl rfl (Nat.le_of_ble_eq_true rfl) ?_
  intro p e s m below meth c hC hr hlk hnm hG h0 ls hl
  have hx := hC.x
  have hb := hC.b
  have hS : va_S (AB B) s.heap s.heap [] := va_S.rf
  have hl : lo ls 5 [some (.ref (ad 13 0 0)), some (.int x), some (.int y), some (.int z), some (.int w)] := lo_of hl
  have hI := h0
  obtain ⟨hCI, hD0, hD1, hD2, hB01, hF30, hK8, hMK, hU1, hU2, hS10, hEO, hCF, hFT, hME, hYR, hEK, hLA⟩ := h0
  obtain ⟨hW, hNE, hCH, hBL⟩ := hCI
  have hW9 := hW
  obtain ⟨hB0, hB1, hB2, hB3, hB4, hB5, hB6, hB7, hKI, hEI, hKY⟩ := hW9
  have hMB : MB k := ⟨hB0, hB1, hB2, hB3⟩
  have hKYm : KYm T k := hKY
  refine o_aload_n hx hb dX7_kind_0 hl rfl ?_
  refine o_iload_n hx hb dX7_kind_1 hl rfl ?_
  refine k_X7_isMeasure hC hS hG trivial ml_X7_101 ⟨Nat.le_of_ble_eq_true rfl, Nat.le_of_ble_eq_true rfl⟩ hl.1 (Nat.le_of_ble_eq_true rfl) dX7_kind_2 ⟨Nat.le_of_ble_eq_true rfl, Nat.le_of_ble_eq_true rfl⟩ (fun h2 => ?_) (fun h2 => ?_)
  · skip
    refine lv_if_eq (tgt := 41) hx hb dX7_kind_5 (by decide) (fun h5 => ?_) (fun h5 => ?_)
    · exact absurd h5 (by decide)
    · skip
      refine o_iload_n hx hb dX7_kind_8 hl rfl ?_
      refine lv_iconst (v := 1) hx hb dX7_kind_9 (by decide) ?_
      refine lv_bipush (v := 100) hx hb dX7_kind_10 (by decide) ?_
      refine k_X7_isIn hC hS hG trivial ml_X7_83 ⟨Nat.le_of_ble_eq_true rfl, Nat.le_of_ble_eq_true rfl⟩ hl.1 (Nat.le_of_ble_eq_true rfl) dX7_kind_12 ⟨Nat.le_of_ble_eq_true rfl, Nat.le_of_ble_eq_true rfl⟩ (fun h12 => ?_) (fun h12 => ?_)
      · skip
        refine lv_if_eq (tgt := 41) hx hb dX7_kind_15 (by decide) (fun h15 => ?_) (fun h15 => ?_)
        · exact absurd h15 (by decide)
        · skip
          refine o_iload_n hx hb dX7_kind_18 hl rfl ?_
          refine lv_iconst (v := 0) hx hb dX7_kind_19 (by decide) ?_
          refine lv_sipush (v := 500) hx hb dX7_kind_20 (by decide) ?_
          refine k_X7_isIn hC hS hG trivial ml_X7_83 ⟨Nat.le_of_ble_eq_true rfl, Nat.le_of_ble_eq_true rfl⟩ hl.1 (Nat.le_of_ble_eq_true rfl) dX7_kind_23 ⟨Nat.le_of_ble_eq_true rfl, Nat.le_of_ble_eq_true rfl⟩ (fun h23 => ?_) (fun h23 => ?_)
          · skip
            refine lv_if_eq (tgt := 41) hx hb dX7_kind_26 (by decide) (fun h26 => ?_) (fun h26 => ?_)
            · exact absurd h26 (by decide)
            · skip
              refine o_iload hx hb dX7_kind_29 hl rfl ?_
              refine o_iload_n hx hb dX7_kind_31 hl rfl ?_
              refine lv_sipush (v := 500) hx hb dX7_kind_32 (by decide) ?_
              refine k_X7_isIn hC hS hG trivial ml_X7_83 ⟨Nat.le_of_ble_eq_true rfl, Nat.le_of_ble_eq_true rfl⟩ hl.1 (Nat.le_of_ble_eq_true rfl) dX7_kind_35 ⟨Nat.le_of_ble_eq_true rfl, Nat.le_of_ble_eq_true rfl⟩ (fun h35 => ?_) (fun h35 => ?_)
              · skip
                refine lv_if_ne (tgt := 45) hx hb dX7_kind_38 (by decide) (fun h38 => ?_) (fun h38 => ?_)
                · skip
                  refine lv_iconst (v := 0) hx hb dX7_kind_45 (by decide) ?_
                  refine lv_iconst (v := 1) hx hb dX7_kind_46 (by decide) ?_
                  refine k_X7_isThrown hC hS hG (by first | exact Or.inl rfl | exact Or.inr rfl) ml_X7_94 ⟨Nat.le_of_ble_eq_true rfl, Nat.le_of_ble_eq_true rfl⟩ hl.1 (Nat.le_of_ble_eq_true rfl) dX7_kind_47 ⟨Nat.le_of_ble_eq_true rfl, Nat.le_of_ble_eq_true rfl⟩ (fun h47_0 H locs hG hS => ?_) (fun h47_0 H locs hG hS => ?_)
                  · skip
                    exact absurd h47_0 (by decide)
                  · skip
                    refine lv_if_ne (tgt := 75) hx hb dX7_kind_50 (by decide) (fun h50 => ?_) (fun h50 => ?_)
                    · exact absurd h50 (by decide)
                    · skip
                      refine o_aload_n hx hb dX7_kind_53 hl rfl ?_
                      refine o_aload_n hx hb dX7_kind_54 hl rfl ?_
                      refine g_get hC hG us_X7 rfl 22 (by decide) fl_X7_87 V_model rfl dX7_kind_55 ?_
                      refine lv_bipush (v := 8) hx hb dX7_kind_58 (by decide) ?_
                      refine lv_icmp_ne (tgt := 67) hx hb dX7_kind_60 (by decide) (fun h60 => ?_) (fun h60 => ?_)
                      · skip
                        refine lv_iconst (v := 0) hx hb dX7_kind_67 (by decide) ?_
                        refine lv_iconst (v := 2) hx hb dX7_kind_68 (by decide) ?_
                        refine k_X7_isThrown hC hS hG (by first | exact Or.inl rfl | exact Or.inr rfl) ml_X7_94 ⟨Nat.le_of_ble_eq_true rfl, Nat.le_of_ble_eq_true rfl⟩ hl.1 (Nat.le_of_ble_eq_true rfl) dX7_kind_69 ⟨Nat.le_of_ble_eq_true rfl, Nat.le_of_ble_eq_true rfl⟩ (fun h69_0 H locs hG hS => ?_) (fun h69_0 H locs hG hS => ?_)
                        · skip
                          exact absurd h69_0 (by decide)
                        · skip
                          refine lv_if_eq (tgt := 77) hx hb dX7_kind_72 (by decide) (fun h72 => ?_) (fun h72 => ?_)
                          · skip
                            have hk8 : k 2 < 8 := nI_not (N := 8) hB2 (by decide) h60
                            refine o_aload_n hx hb dX7_kind_77 hl rfl ?_
                            refine g_get hC hG us_X7 rfl 10 (by decide) fl_X7_44 V_model rfl dX7_kind_78 ?_
                            refine o_aload_n hx hb dX7_kind_81 hl rfl ?_
                            refine g_get hC hG us_X7 rfl 22 (by decide) fl_X7_87 V_model rfl dX7_kind_82 ?_
                            refine g_aald hC hG 7 rfl rfl V_o10 _ rfl (by omega) (by omega) dX7_kind_85 ?_
                            refine lv_iconst (v := 0) hx hb dX7_kind_86 (by decide) ?_
                            refine o_iload_n hx hb dX7_kind_87 hl rfl ?_
                            refine g_iast hC hG hS (V_r10 (by omega)) 0 rfl (by omega) (by omega) (P_r10 (by omega)) dX7_kind_88 (fun H locs hG hS => ?_)
                            refine o_aload_n hx hb dX7_kind_89 hl rfl ?_
                            refine g_get hC hG us_X7 rfl 10 (by decide) fl_X7_44 V_model rfl dX7_kind_90 ?_
                            refine o_aload_n hx hb dX7_kind_93 hl rfl ?_
                            refine g_get hC hG us_X7 rfl 22 (by decide) fl_X7_87 V_model rfl dX7_kind_94 ?_
                            refine g_aald hC hG 7 rfl rfl V_o10 _ rfl (by omega) (by omega) dX7_kind_97 ?_
                            refine lv_iconst (v := 1) hx hb dX7_kind_98 (by decide) ?_
                            refine o_iload_n hx hb dX7_kind_99 hl rfl ?_
                            refine g_iast hC hG hS (V_r10 (by omega)) 1 rfl (by omega) (by omega) (P_r10 (by omega)) dX7_kind_100 (fun H locs hG hS => ?_)
                            refine o_aload_n hx hb dX7_kind_101 hl rfl ?_
                            refine g_get hC hG us_X7 rfl 10 (by decide) fl_X7_44 V_model rfl dX7_kind_102 ?_
                            refine o_aload_n hx hb dX7_kind_105 hl rfl ?_
                            refine g_get hC hG us_X7 rfl 22 (by decide) fl_X7_87 V_model rfl dX7_kind_106 ?_
                            refine g_aald hC hG 7 rfl rfl V_o10 _ rfl (by omega) (by omega) dX7_kind_109 ?_
                            refine lv_iconst (v := 2) hx hb dX7_kind_110 (by decide) ?_
                            refine o_iload_n hx hb dX7_kind_111 hl rfl ?_
                            refine g_iast hC hG hS (V_r10 (by omega)) 2 rfl (by omega) (by omega) (P_r10 (by omega)) dX7_kind_112 (fun H locs hG hS => ?_)
                            refine o_aload_n hx hb dX7_kind_113 hl rfl ?_
                            refine g_get hC hG us_X7 rfl 10 (by decide) fl_X7_44 V_model rfl dX7_kind_114 ?_
                            refine o_aload_n hx hb dX7_kind_117 hl rfl ?_
                            refine g_get hC hG us_X7 rfl 22 (by decide) fl_X7_87 V_model rfl dX7_kind_118 ?_
                            refine g_aald hC hG 7 rfl rfl V_o10 _ rfl (by omega) (by omega) dX7_kind_121 ?_
                            refine lv_iconst (v := 3) hx hb dX7_kind_122 (by decide) ?_
                            refine o_iload hx hb dX7_kind_123 hl rfl ?_
                            refine g_iast hC hG hS (V_r10 (by omega)) 3 rfl (by omega) (by omega) (P_r10 (by omega)) dX7_kind_125 (fun H locs hG hS => ?_)
                            refine o_aload_n hx hb dX7_kind_126 hl rfl ?_
                            refine lv_dup hx hb dX7_kind_127 rfl ?_
                            refine g_get hC hG us_X7 rfl 22 (by decide) fl_X7_87 V_model rfl dX7_kind_128 ?_
                            refine lv_iconst (v := 1) hx hb dX7_kind_131 (by decide) ?_
                            refine lv_iadd hx hb dX7_kind_132 ?_
                            refine g_put hC hG hS us_X7 tyX7_ok nmX7 rfl 22 (by decide) fl_X7_87 rfl V_model rfl rfl (Nat.le_of_ble_eq_true rfl) (P_k2 (w := k 2 + 1) (nI_1 _)) dX7_kind_133 (fun H locs hG hS => ?_)
                            refine o_aload_n hx hb dX7_kind_136 hl rfl ?_
                            refine g_get hC hG us_X7 rfl 22 (by decide) fl_X7_87 V_model rfl dX7_kind_137 ?_
                            refine lv_iconst (v := 1) hx hb dX7_kind_140 (by decide) ?_
                            refine lv_isub hx hb dX7_kind_141 ?_
                            exact R_I hC hS hr hlk rfl (Or.inl ⟨(by simp only [cd_kind]; exact (cif_t ⟨h2, h12, h23.1, h35.1, h35.2⟩).trans (cif_t hk8)), (by exact nI_pred (k 2)), (by rw [show Vw cy de ad S n (kiS T (k 2) x y z w) (nUp k 2) 0 X = Vw cy de ad S n (kiM T (k 2) x y z w) (fun i => if i = 2 then k 2 + 1 else k i) 0 X from (Vw_k nUp_k).trans (Vw_mod kiS_c)]; exact hG)⟩) (Nat.le_of_ble_eq_true rfl) (Nat.le_of_ble_eq_true rfl) dX7_kind_142
                          · exact absurd h72 (by decide)
                      · skip
                        refine lv_iconst (v := 1) hx hb dX7_kind_63 (by decide) ?_
                        refine lv_goto (tgt := 68) hx hb dX7_kind_64 (by decide) ?_
                        refine lv_iconst (v := 2) hx hb dX7_kind_68 (by decide) ?_
                        refine k_X7_isThrown hC hS hG (by first | exact Or.inl rfl | exact Or.inr rfl) ml_X7_94 ⟨Nat.le_of_ble_eq_true rfl, Nat.le_of_ble_eq_true rfl⟩ hl.1 (Nat.le_of_ble_eq_true rfl) dX7_kind_69 ⟨Nat.le_of_ble_eq_true rfl, Nat.le_of_ble_eq_true rfl⟩ (fun h69_0 H locs hG hS => ?_) (fun h69_0 H locs hG hS => ?_)
                        · skip
                          refine lv_if_eq (tgt := 77) hx hb dX7_kind_72 (by decide) (fun h72 => ?_) (fun h72 => ?_)
                          · exact absurd h72 (by decide)
                          · skip
                            refine lv_iconst (v := 0) hx hb dX7_kind_75 (by decide) ?_
                            exact R_I hC hS hr hlk rfl (by first | exact Or.inr ⟨2, (by simp only [cd_kind]; exact (cif_t ⟨h2, h12, h23.1, h35.1, h35.2⟩).trans (cif_f (nI_is (N := 8) (by omega) (by decide) h60))), (by decide), hG⟩ | exact Or.inr ⟨1, (by simp only [cd_kind]; exact cif_f (fun v => by first | exact h2 v.1 | exact h12 v.2.1 | exact h23 ⟨v.2.2.1, Int32.le_trans v.2.2.2.1 v.2.2.2.2⟩ | exact h35 v.2.2.2)), (by decide), hG⟩) (Nat.le_of_ble_eq_true rfl) (Nat.le_of_ble_eq_true rfl) dX7_kind_76
                        · skip
                          exact absurd h69_0 (by decide)
                · exact absurd h38 (by decide)
              · skip
                refine lv_if_ne (tgt := 45) hx hb dX7_kind_38 (by decide) (fun h38 => ?_) (fun h38 => ?_)
                · exact absurd h38 (by decide)
                · skip
                  refine lv_iconst (v := 1) hx hb dX7_kind_41 (by decide) ?_
                  refine lv_goto (tgt := 46) hx hb dX7_kind_42 (by decide) ?_
                  refine lv_iconst (v := 1) hx hb dX7_kind_46 (by decide) ?_
                  refine k_X7_isThrown hC hS hG (by first | exact Or.inl rfl | exact Or.inr rfl) ml_X7_94 ⟨Nat.le_of_ble_eq_true rfl, Nat.le_of_ble_eq_true rfl⟩ hl.1 (Nat.le_of_ble_eq_true rfl) dX7_kind_47 ⟨Nat.le_of_ble_eq_true rfl, Nat.le_of_ble_eq_true rfl⟩ (fun h47_0 H locs hG hS => ?_) (fun h47_0 H locs hG hS => ?_)
                  · skip
                    refine lv_if_ne (tgt := 75) hx hb dX7_kind_50 (by decide) (fun h50 => ?_) (fun h50 => ?_)
                    · skip
                      refine lv_iconst (v := 0) hx hb dX7_kind_75 (by decide) ?_
                      exact R_I hC hS hr hlk rfl (by first | exact Or.inr ⟨2, (by simp only [cd_kind]; exact (cif_t ⟨h2, h12, h23.1, h35.1, h35.2⟩).trans (cif_f (nI_is (N := 8) (by omega) (by decide) h60))), (by decide), hG⟩ | exact Or.inr ⟨1, (by simp only [cd_kind]; exact cif_f (fun v => by first | exact h2 v.1 | exact h12 v.2.1 | exact h23 ⟨v.2.2.1, Int32.le_trans v.2.2.2.1 v.2.2.2.2⟩ | exact h35 v.2.2.2)), (by decide), hG⟩) (Nat.le_of_ble_eq_true rfl) (Nat.le_of_ble_eq_true rfl) dX7_kind_76
                    · exact absurd h50 (by decide)
                  · skip
                    exact absurd h47_0 (by decide)
          · skip
            refine lv_if_eq (tgt := 41) hx hb dX7_kind_26 (by decide) (fun h26 => ?_) (fun h26 => ?_)
            · skip
              refine lv_iconst (v := 1) hx hb dX7_kind_41 (by decide) ?_
              refine lv_goto (tgt := 46) hx hb dX7_kind_42 (by decide) ?_
              refine lv_iconst (v := 1) hx hb dX7_kind_46 (by decide) ?_
              refine k_X7_isThrown hC hS hG (by first | exact Or.inl rfl | exact Or.inr rfl) ml_X7_94 ⟨Nat.le_of_ble_eq_true rfl, Nat.le_of_ble_eq_true rfl⟩ hl.1 (Nat.le_of_ble_eq_true rfl) dX7_kind_47 ⟨Nat.le_of_ble_eq_true rfl, Nat.le_of_ble_eq_true rfl⟩ (fun h47_0 H locs hG hS => ?_) (fun h47_0 H locs hG hS => ?_)
              · skip
                refine lv_if_ne (tgt := 75) hx hb dX7_kind_50 (by decide) (fun h50 => ?_) (fun h50 => ?_)
                · skip
                  refine lv_iconst (v := 0) hx hb dX7_kind_75 (by decide) ?_
                  exact R_I hC hS hr hlk rfl (by first | exact Or.inr ⟨2, (by simp only [cd_kind]; exact (cif_t ⟨h2, h12, h23.1, h35.1, h35.2⟩).trans (cif_f (nI_is (N := 8) (by omega) (by decide) h60))), (by decide), hG⟩ | exact Or.inr ⟨1, (by simp only [cd_kind]; exact cif_f (fun v => by first | exact h2 v.1 | exact h12 v.2.1 | exact h23 ⟨v.2.2.1, Int32.le_trans v.2.2.2.1 v.2.2.2.2⟩ | exact h35 v.2.2.2)), (by decide), hG⟩) (Nat.le_of_ble_eq_true rfl) (Nat.le_of_ble_eq_true rfl) dX7_kind_76
                · exact absurd h50 (by decide)
              · skip
                exact absurd h47_0 (by decide)
            · exact absurd h26 (by decide)
      · skip
        refine lv_if_eq (tgt := 41) hx hb dX7_kind_15 (by decide) (fun h15 => ?_) (fun h15 => ?_)
        · skip
          refine lv_iconst (v := 1) hx hb dX7_kind_41 (by decide) ?_
          refine lv_goto (tgt := 46) hx hb dX7_kind_42 (by decide) ?_
          refine lv_iconst (v := 1) hx hb dX7_kind_46 (by decide) ?_
          refine k_X7_isThrown hC hS hG (by first | exact Or.inl rfl | exact Or.inr rfl) ml_X7_94 ⟨Nat.le_of_ble_eq_true rfl, Nat.le_of_ble_eq_true rfl⟩ hl.1 (Nat.le_of_ble_eq_true rfl) dX7_kind_47 ⟨Nat.le_of_ble_eq_true rfl, Nat.le_of_ble_eq_true rfl⟩ (fun h47_0 H locs hG hS => ?_) (fun h47_0 H locs hG hS => ?_)
          · skip
            refine lv_if_ne (tgt := 75) hx hb dX7_kind_50 (by decide) (fun h50 => ?_) (fun h50 => ?_)
            · skip
              refine lv_iconst (v := 0) hx hb dX7_kind_75 (by decide) ?_
              exact R_I hC hS hr hlk rfl (by first | exact Or.inr ⟨2, (by simp only [cd_kind]; exact (cif_t ⟨h2, h12, h23.1, h35.1, h35.2⟩).trans (cif_f (nI_is (N := 8) (by omega) (by decide) h60))), (by decide), hG⟩ | exact Or.inr ⟨1, (by simp only [cd_kind]; exact cif_f (fun v => by first | exact h2 v.1 | exact h12 v.2.1 | exact h23 ⟨v.2.2.1, Int32.le_trans v.2.2.2.1 v.2.2.2.2⟩ | exact h35 v.2.2.2)), (by decide), hG⟩) (Nat.le_of_ble_eq_true rfl) (Nat.le_of_ble_eq_true rfl) dX7_kind_76
            · exact absurd h50 (by decide)
          · skip
            exact absurd h47_0 (by decide)
        · exact absurd h15 (by decide)
  · skip
    refine lv_if_eq (tgt := 41) hx hb dX7_kind_5 (by decide) (fun h5 => ?_) (fun h5 => ?_)
    · skip
      refine lv_iconst (v := 1) hx hb dX7_kind_41 (by decide) ?_
      refine lv_goto (tgt := 46) hx hb dX7_kind_42 (by decide) ?_
      refine lv_iconst (v := 1) hx hb dX7_kind_46 (by decide) ?_
      refine k_X7_isThrown hC hS hG (by first | exact Or.inl rfl | exact Or.inr rfl) ml_X7_94 ⟨Nat.le_of_ble_eq_true rfl, Nat.le_of_ble_eq_true rfl⟩ hl.1 (Nat.le_of_ble_eq_true rfl) dX7_kind_47 ⟨Nat.le_of_ble_eq_true rfl, Nat.le_of_ble_eq_true rfl⟩ (fun h47_0 H locs hG hS => ?_) (fun h47_0 H locs hG hS => ?_)
      · skip
        refine lv_if_ne (tgt := 75) hx hb dX7_kind_50 (by decide) (fun h50 => ?_) (fun h50 => ?_)
        · skip
          refine lv_iconst (v := 0) hx hb dX7_kind_75 (by decide) ?_
          exact R_I hC hS hr hlk rfl (by first | exact Or.inr ⟨2, (by simp only [cd_kind]; exact (cif_t ⟨h2, h12, h23.1, h35.1, h35.2⟩).trans (cif_f (nI_is (N := 8) (by omega) (by decide) h60))), (by decide), hG⟩ | exact Or.inr ⟨1, (by simp only [cd_kind]; exact cif_f (fun v => by first | exact h2 v.1 | exact h12 v.2.1 | exact h23 ⟨v.2.2.1, Int32.le_trans v.2.2.2.1 v.2.2.2.2⟩ | exact h35 v.2.2.2)), (by decide), hG⟩) (Nat.le_of_ble_eq_true rfl) (Nat.le_of_ble_eq_true rfl) dX7_kind_76
        · exact absurd h50 (by decide)
      · skip
        exact absurd h47_0 (by decide)
    · exact absurd h5 (by decide)
theorem k_X7_kind {p : Program} {l : Launch} {e : Env} {R : Room} {s : State} {m : MethodId} {args : Array Value} {below : List Frame} {meth : Method} {c : Code} {H : Heap} {locs : List Loc} {cells slots : Nat} {Q : State → Prop} {cc : ByteArray} {pc nL : Nat} {ls : Array Slot} {rest : List Value} {own : String} {D : va_G} {cy : Nat → ClassId} {sa : Nat → Nat} {de B : Nat} {ad : Ad} {S : St} {n : Nat → Nat} {T : St} {k : Nat → Nat} {th : Int32} {X : Rl} {x y z w : Int32}  (hC : Cx p m c cc nL s args own D cy sa de B) (hS : va_S (AB B) s.heap H locs) (hG : GW D B ad (Vw cy de ad S n T k th X) H) (h0 : Inv T k)  {idx : Nat} (wl : Cond.methodLink own idx yX7_kind ∈ G0) (hR : 2 + 1 ≤ R.frames ∧ 8 + (5 + 11) + 42 ≤ R.locals) (hsz : ls.size = nL) (hst : (rest.map fun v => v.category).sum ≤ 8) (hdg : decode cc pc = .ok (.invokevirtual idx, 3)) (hcs : cells + 0 ≤ R.cells ∧ slots + 0 ≤ R.slots) (k0 : (cd_kind k x y z w = 0) → ∀ (H1 : Heap) (locs1 : List Loc), GW D B ad (Vw cy de ad S n (kiS T (k 2) x y z w) (nUp k 2) 0 X) H1 → va_S (AB B) s.heap H1 locs1 → W p l e R s m args below meth c H1 locs1 cells slots Q (F0 m (pc + 3) ls (.int (nI (k 2)) :: rest))) (k1 : ∀ (r9 : Int32), ∀ (t9 : Nat), (cd_kind k x y z w = t9) → (¬ t9 = 0) → ∀ (H1 : Heap) (locs1 : List Loc), GW D B ad (Vw cy de ad S n T k (nI t9) X) H1 → va_S (AB B) s.heap H1 locs1 → W p l e R s m args below meth c H1 locs1 cells slots Q (F0 m (pc + 3) ls (.int r9 :: rest))) : W p l e R s m args below meth c H locs cells slots Q (F0 m pc ls (.int w :: .int z :: .int y :: .int x :: .ref (ad 13 0 0) :: rest)) :=
  va_calli (rV hC hS hG h0 (As := [.int x, .int y, .int z, .int w]) (c_X7_kind l) ⟨rfl, rfl⟩ wl im_X7_kind sl_X7_X7_kind in_X7 cd_X7_kind (n := 4) (by decide +kernel) hR (recv hC hG (q := (RX7, TX7, 26)) rfl V_model) rfl hsz hst rfl hdg hcs) hS (fun _ _ h => h) (fun _ h => h) (fun r u t H1 locs1 ht _ hr hB _ _ hS1 => by
      subst hr
      have hB9 := hB; try dsimp only at hB9
      rw [ht] at hB9
      rcases hB9 with ⟨q0, rfl, hG1⟩ | ⟨t9, q0, q1, hG1⟩
      · exact k0 q0 _ _ hG1 hS1
      · exact k1 r t9 q0 q1 _ _ hG1 hS1)
set_option maxHeartbeats 4000000 in
set_option maxRecDepth 100000 in
theorem c_X7_event (l : Launch) {D : va_G} {cy : Nat → ClassId} {sa : Nat → Nat} {de B : Nat} {ad : Ad} {S : St} {n : Nat → Nat} {T : St} {k : Nat → Nat} {th : Int32} {X : Rl} {x : Int32}  : Met l yX7_event (Cond.code yX7_event cX7_event 2 (Option.some Jvm.ClassFile.FieldType.int) :: G0) ({ frames := 1, cells := 0, slots := 0, locals := 22 } : Room) (va_Pc [.ref (ad 13 0 0), .int x] (PW D cy sa de B ad (Vw cy de ad S n T k th X) (Inv T k))) (oI B (fun r H => (cd_event k x = 0 ∧ r = (nI (k 3)) ∧ GW D B ad (Vw cy de ad S n (evS T (k 3) x) (nUp k 3) 0 X) H) ∨ (∃ (t9 : Nat), cd_event k x = t9 ∧ ¬ t9 = 0 ∧ GW D B ad (Vw cy de ad S n T k (nI t9) X) H))) 0 0 (AB B) := by
  refine E_met (own := RX7) rfl rfl (Nat.le_of_ble_eq_true rfl) ?_
  intro p e s m below meth c hC hr hlk hnm hG h0 ls hl
  have hx := hC.x
  have hb := hC.b
  have hS : va_S (AB B) s.heap s.heap [] := va_S.rf
  have hl : lo ls 2 [some (.ref (ad 13 0 0)), some (.int x)] := lo_of hl
  have hI := h0
  obtain ⟨hCI, hD0, hD1, hD2, hB01, hF30, hK8, hMK, hU1, hU2, hS10, hEO, hCF, hFT, hME, hYR, hEK, hLA⟩ := h0
  obtain ⟨hW, hNE, hCH, hBL⟩ := hCI
  have hW9 := hW
  obtain ⟨hB0, hB1, hB2, hB3, hB4, hB5, hB6, hB7, hKI, hEI, hKY⟩ := hW9
  have hMB : MB k := ⟨hB0, hB1, hB2, hB3⟩
  have hKYm : KYm T k := hKY
  refine o_aload_n hx hb dX7_event_0 hl rfl ?_
  refine o_iload_n hx hb dX7_event_1 hl rfl ?_
  refine lv_iconst (v := 1) hx hb dX7_event_2 (by decide) ?_
  refine lv_iconst (v := 1) hx hb dX7_event_3 (by decide) ?_
  refine o_aload_n hx hb dX7_event_4 hl rfl ?_
  refine g_get hC hG us_X7 rfl 22 (by decide) fl_X7_87 V_model rfl dX7_event_5 ?_
  refine lv_ishl hx hb dX7_event_8 ?_
  refine lv_iconst (v := 1) hx hb dX7_event_9 (by decide) ?_
  refine lv_isub hx hb dX7_event_10 ?_
  refine k_X7_isIn hC hS hG trivial ml_X7_83 ⟨Nat.le_of_ble_eq_true rfl, Nat.le_of_ble_eq_true rfl⟩ hl.1 (Nat.le_of_ble_eq_true rfl) dX7_event_11 ⟨Nat.le_of_ble_eq_true rfl, Nat.le_of_ble_eq_true rfl⟩ (fun h11 => ?_) (fun h11 => ?_)
  · skip
    refine lv_if_ne (tgt := 21) hx hb dX7_event_14 (by decide) (fun h14 => ?_) (fun h14 => ?_)
    · skip
      refine lv_iconst (v := 0) hx hb dX7_event_21 (by decide) ?_
      refine lv_iconst (v := 1) hx hb dX7_event_22 (by decide) ?_
      refine k_X7_isThrown hC hS hG (by first | exact Or.inl rfl | exact Or.inr rfl) ml_X7_94 ⟨Nat.le_of_ble_eq_true rfl, Nat.le_of_ble_eq_true rfl⟩ hl.1 (Nat.le_of_ble_eq_true rfl) dX7_event_23 ⟨Nat.le_of_ble_eq_true rfl, Nat.le_of_ble_eq_true rfl⟩ (fun h23_0 H locs hG hS => ?_) (fun h23_0 H locs hG hS => ?_)
      · skip
        exact absurd h23_0 (by decide)
      · skip
        refine lv_if_ne (tgt := 51) hx hb dX7_event_26 (by decide) (fun h26 => ?_) (fun h26 => ?_)
        · exact absurd h26 (by decide)
        · skip
          refine o_aload_n hx hb dX7_event_29 hl rfl ?_
          refine o_aload_n hx hb dX7_event_30 hl rfl ?_
          refine g_get hC hG us_X7 rfl 23 (by decide) fl_X7_119 V_model rfl dX7_event_31 ?_
          refine lv_bipush (v := 8) hx hb dX7_event_34 (by decide) ?_
          refine lv_icmp_ne (tgt := 43) hx hb dX7_event_36 (by decide) (fun h36 => ?_) (fun h36 => ?_)
          · skip
            refine lv_iconst (v := 0) hx hb dX7_event_43 (by decide) ?_
            refine lv_iconst (v := 2) hx hb dX7_event_44 (by decide) ?_
            refine k_X7_isThrown hC hS hG (by first | exact Or.inl rfl | exact Or.inr rfl) ml_X7_94 ⟨Nat.le_of_ble_eq_true rfl, Nat.le_of_ble_eq_true rfl⟩ hl.1 (Nat.le_of_ble_eq_true rfl) dX7_event_45 ⟨Nat.le_of_ble_eq_true rfl, Nat.le_of_ble_eq_true rfl⟩ (fun h45_0 H locs hG hS => ?_) (fun h45_0 H locs hG hS => ?_)
            · skip
              exact absurd h45_0 (by decide)
            · skip
              refine lv_if_eq (tgt := 53) hx hb dX7_event_48 (by decide) (fun h48 => ?_) (fun h48 => ?_)
              · skip
                have hk8 : k 3 < 8 := nI_not (N := 8) hB3 (by decide) h36
                refine o_aload_n hx hb dX7_event_53 hl rfl ?_
                refine g_get hC hG us_X7 rfl 13 (by decide) fl_X7_53 V_model rfl dX7_event_54 ?_
                refine o_aload_n hx hb dX7_event_57 hl rfl ?_
                refine g_get hC hG us_X7 rfl 23 (by decide) fl_X7_119 V_model rfl dX7_event_58 ?_
                refine o_iload_n hx hb dX7_event_61 hl rfl ?_
                refine g_iast hC hG hS V_m13 _ rfl (by omega) (by omega) P_m13 dX7_event_62 (fun H locs hG hS => ?_)
                refine o_aload_n hx hb dX7_event_63 hl rfl ?_
                refine lv_dup hx hb dX7_event_64 rfl ?_
                refine g_get hC hG us_X7 rfl 23 (by decide) fl_X7_119 V_model rfl dX7_event_65 ?_
                refine lv_iconst (v := 1) hx hb dX7_event_68 (by decide) ?_
                refine lv_iadd hx hb dX7_event_69 ?_
                refine g_put hC hG hS us_X7 tyX7_ok nmX7 rfl 23 (by decide) fl_X7_119 rfl V_model rfl rfl (Nat.le_of_ble_eq_true rfl) (P_k3 (w := k 3 + 1) (nI_1 _)) dX7_event_70 (fun H locs hG hS => ?_)
                refine o_aload_n hx hb dX7_event_73 hl rfl ?_
                refine g_get hC hG us_X7 rfl 23 (by decide) fl_X7_119 V_model rfl dX7_event_74 ?_
                refine lv_iconst (v := 1) hx hb dX7_event_77 (by decide) ?_
                refine lv_isub hx hb dX7_event_78 ?_
                exact R_I hC hS hr hlk rfl (Or.inl ⟨(by simp only [cd_event]; exact (cif_t ((in_pow1 (by omega)).mp h11)).trans (cif_t hk8)), (by exact nI_pred (k 3)), (by rw [show Vw cy de ad S n (evS T (k 3) x) (nUp k 3) 0 X = Vw cy de ad S n (up3 T 16 (k 3) 0 x) (fun i => if i = 3 then k 3 + 1 else k i) 0 X from (Vw_k nUp_k).trans (Vw_mod evS_c)]; exact hG)⟩) (Nat.le_of_ble_eq_true rfl) (Nat.le_of_ble_eq_true rfl) dX7_event_79
              · exact absurd h48 (by decide)
          · skip
            refine lv_iconst (v := 1) hx hb dX7_event_39 (by decide) ?_
            refine lv_goto (tgt := 44) hx hb dX7_event_40 (by decide) ?_
            refine lv_iconst (v := 2) hx hb dX7_event_44 (by decide) ?_
            refine k_X7_isThrown hC hS hG (by first | exact Or.inl rfl | exact Or.inr rfl) ml_X7_94 ⟨Nat.le_of_ble_eq_true rfl, Nat.le_of_ble_eq_true rfl⟩ hl.1 (Nat.le_of_ble_eq_true rfl) dX7_event_45 ⟨Nat.le_of_ble_eq_true rfl, Nat.le_of_ble_eq_true rfl⟩ (fun h45_0 H locs hG hS => ?_) (fun h45_0 H locs hG hS => ?_)
            · skip
              refine lv_if_eq (tgt := 53) hx hb dX7_event_48 (by decide) (fun h48 => ?_) (fun h48 => ?_)
              · exact absurd h48 (by decide)
              · skip
                refine lv_iconst (v := 0) hx hb dX7_event_51 (by decide) ?_
                exact R_I hC hS hr hlk rfl (by first | exact Or.inr ⟨2, (by simp only [cd_event]; exact (cif_t ((in_pow1 (by omega)).mp h11)).trans (cif_f (nI_is (N := 8) (by omega) (by decide) h36))), (by decide), hG⟩ | exact Or.inr ⟨1, (by simp only [cd_event]; exact cif_f (fun z => h11 ((in_pow1 (by omega)).mpr z))), (by decide), hG⟩) (Nat.le_of_ble_eq_true rfl) (Nat.le_of_ble_eq_true rfl) dX7_event_52
            · skip
              exact absurd h45_0 (by decide)
    · exact absurd h14 (by decide)
  · skip
    refine lv_if_ne (tgt := 21) hx hb dX7_event_14 (by decide) (fun h14 => ?_) (fun h14 => ?_)
    · exact absurd h14 (by decide)
    · skip
      refine lv_iconst (v := 1) hx hb dX7_event_17 (by decide) ?_
      refine lv_goto (tgt := 22) hx hb dX7_event_18 (by decide) ?_
      refine lv_iconst (v := 1) hx hb dX7_event_22 (by decide) ?_
      refine k_X7_isThrown hC hS hG (by first | exact Or.inl rfl | exact Or.inr rfl) ml_X7_94 ⟨Nat.le_of_ble_eq_true rfl, Nat.le_of_ble_eq_true rfl⟩ hl.1 (Nat.le_of_ble_eq_true rfl) dX7_event_23 ⟨Nat.le_of_ble_eq_true rfl, Nat.le_of_ble_eq_true rfl⟩ (fun h23_0 H locs hG hS => ?_) (fun h23_0 H locs hG hS => ?_)
      · skip
        refine lv_if_ne (tgt := 51) hx hb dX7_event_26 (by decide) (fun h26 => ?_) (fun h26 => ?_)
        · skip
          refine lv_iconst (v := 0) hx hb dX7_event_51 (by decide) ?_
          exact R_I hC hS hr hlk rfl (by first | exact Or.inr ⟨2, (by simp only [cd_event]; exact (cif_t ((in_pow1 (by omega)).mp h11)).trans (cif_f (nI_is (N := 8) (by omega) (by decide) h36))), (by decide), hG⟩ | exact Or.inr ⟨1, (by simp only [cd_event]; exact cif_f (fun z => h11 ((in_pow1 (by omega)).mpr z))), (by decide), hG⟩) (Nat.le_of_ble_eq_true rfl) (Nat.le_of_ble_eq_true rfl) dX7_event_52
        · exact absurd h26 (by decide)
      · skip
        exact absurd h23_0 (by decide)
theorem k_X7_event {p : Program} {l : Launch} {e : Env} {R : Room} {s : State} {m : MethodId} {args : Array Value} {below : List Frame} {meth : Method} {c : Code} {H : Heap} {locs : List Loc} {cells slots : Nat} {Q : State → Prop} {cc : ByteArray} {pc nL : Nat} {ls : Array Slot} {rest : List Value} {own : String} {D : va_G} {cy : Nat → ClassId} {sa : Nat → Nat} {de B : Nat} {ad : Ad} {S : St} {n : Nat → Nat} {T : St} {k : Nat → Nat} {th : Int32} {X : Rl} {x : Int32}  (hC : Cx p m c cc nL s args own D cy sa de B) (hS : va_S (AB B) s.heap H locs) (hG : GW D B ad (Vw cy de ad S n T k th X) H) (h0 : Inv T k)  {idx : Nat} (wl : Cond.methodLink own idx yX7_event ∈ G0) (hR : 1 + 1 ≤ R.frames ∧ 8 + (2 + 11) + 22 ≤ R.locals) (hsz : ls.size = nL) (hst : (rest.map fun v => v.category).sum ≤ 8) (hdg : decode cc pc = .ok (.invokevirtual idx, 3)) (hcs : cells + 0 ≤ R.cells ∧ slots + 0 ≤ R.slots) (k0 : (cd_event k x = 0) → ∀ (H1 : Heap) (locs1 : List Loc), GW D B ad (Vw cy de ad S n (evS T (k 3) x) (nUp k 3) 0 X) H1 → va_S (AB B) s.heap H1 locs1 → W p l e R s m args below meth c H1 locs1 cells slots Q (F0 m (pc + 3) ls (.int (nI (k 3)) :: rest))) (k1 : ∀ (r9 : Int32), ∀ (t9 : Nat), (cd_event k x = t9) → (¬ t9 = 0) → ∀ (H1 : Heap) (locs1 : List Loc), GW D B ad (Vw cy de ad S n T k (nI t9) X) H1 → va_S (AB B) s.heap H1 locs1 → W p l e R s m args below meth c H1 locs1 cells slots Q (F0 m (pc + 3) ls (.int r9 :: rest))) : W p l e R s m args below meth c H locs cells slots Q (F0 m pc ls (.int x :: .ref (ad 13 0 0) :: rest)) :=
  va_calli (rV hC hS hG h0 (As := [.int x]) (c_X7_event l) ⟨rfl, rfl⟩ wl im_X7_event sl_X7_X7_event in_X7 cd_X7_event (n := 1) (by decide +kernel) hR (recv hC hG (q := (RX7, TX7, 26)) rfl V_model) rfl hsz hst rfl hdg hcs) hS (fun _ _ h => h) (fun _ h => h) (fun r u t H1 locs1 ht _ hr hB _ _ hS1 => by
      subst hr
      have hB9 := hB; try dsimp only at hB9
      rw [ht] at hB9
      rcases hB9 with ⟨q0, rfl, hG1⟩ | ⟨t9, q0, q1, hG1⟩
      · exact k0 q0 _ _ hG1 hS1
      · exact k1 r t9 q0 q1 _ _ hG1 hS1)
set_option maxHeartbeats 4000000 in
set_option maxRecDepth 100000 in
theorem c_X7_enter (l : Launch) {D : va_G} {cy : Nat → ClassId} {sa : Nat → Nat} {de B : Nat} {ad : Ad} {S : St} {n : Nat → Nat} {T : St} {k : Nat → Nat} {th : Int32} {X : Rl} {x y : Int32}  : Met l yX7_enter (Cond.code yX7_enter cX7_enter 8 (Option.some Jvm.ClassFile.FieldType.int) :: G0) ({ frames := 3, cells := 0, slots := 0, locals := 65 } : Room) (va_Pc [.ref (ad 13 0 0), .int x, .int y] (PW D cy sa de B ad (Vw cy de ad S n T k th X) (Inv T k))) (oI B (fun r H => (cd_enter T k x y = 0 ∧ r = (cnt (entP (enS T (ci x) (ci y)) (ci x)) 16) ∧ GW D B ad (Vw cy de ad S n (enS T (ci x) (ci y)) (k) 0 X) H) ∨ (∃ (t9 : Nat), cd_enter T k x y = t9 ∧ ¬ t9 = 0 ∧ GW D B ad (Vw cy de ad S n T k (nI t9) X) H))) 0 0 (AB B) := by
  refine E_met (own := RX7) rfl rfl (Nat.le_of_ble_eq_true rfl) ?_
  intro p e s m below meth c hC hr hlk hnm hG h0 ls hl
  have hx := hC.x
  have hb := hC.b
  have hS : va_S (AB B) s.heap s.heap [] := va_S.rf
  have hl : lo ls 8 [some (.ref (ad 13 0 0)), some (.int x), some (.int y), none, none, none, none, none] := lo_of hl
  have hI := h0
  obtain ⟨hCI, hD0, hD1, hD2, hB01, hF30, hK8, hMK, hU1, hU2, hS10, hEO, hCF, hFT, hME, hYR, hEK, hLA⟩ := h0
  obtain ⟨hW, hNE, hCH, hBL⟩ := hCI
  have hW9 := hW
  obtain ⟨hB0, hB1, hB2, hB3, hB4, hB5, hB6, hB7, hKI, hEI, hKY⟩ := hW9
  have hMB : MB k := ⟨hB0, hB1, hB2, hB3⟩
  have hKYm : KYm T k := hKY
  refine o_aload_n hx hb dX7_enter_0 hl rfl ?_
  refine o_aload_n hx hb dX7_enter_1 hl rfl ?_
  refine o_iload_n hx hb dX7_enter_2 hl rfl ?_
  refine o_iload_n hx hb dX7_enter_3 hl rfl ?_
  refine k_X7_isNoPair hC hS hG hMB ml_X7_146 ⟨Nat.le_of_ble_eq_true rfl, Nat.le_of_ble_eq_true rfl⟩ hl.1 (Nat.le_of_ble_eq_true rfl) dX7_enter_4 ⟨Nat.le_of_ble_eq_true rfl, Nat.le_of_ble_eq_true rfl⟩ (fun h4 => ?_) (fun h4 => ?_)
  · skip
    refine lv_iconst (v := 1) hx hb dX7_enter_7 (by decide) ?_
    refine k_X7_isThrown hC hS hG (by first | exact Or.inl rfl | exact Or.inr rfl) ml_X7_94 ⟨Nat.le_of_ble_eq_true rfl, Nat.le_of_ble_eq_true rfl⟩ hl.1 (Nat.le_of_ble_eq_true rfl) dX7_enter_8 ⟨Nat.le_of_ble_eq_true rfl, Nat.le_of_ble_eq_true rfl⟩ (fun h8_0 H locs hG hS => ?_) (fun h8_0 H locs hG hS => ?_)
    · skip
      refine lv_if_ne (tgt := 70) hx hb dX7_enter_11 (by decide) (fun h11 => ?_) (fun h11 => ?_)
      · skip
        refine lv_iconst (v := 0) hx hb dX7_enter_70 (by decide) ?_
        exact R_I hC hS hr hlk rfl (by first | exact Or.inr ⟨2, (by simp only [cd_enter, za1, za2]; exact (cif_t ⟨ix_nI ha1, ix_nI ha2⟩).trans (cif_f (fun z => by first | exact h21 z.1 | exact h33 z.2.1 | exact h38 z.2.2.1 | exact h52 z.2.2.2.2))), (by decide), hG⟩ | exact Or.inr ⟨1, (by simp only [cd_enter]; exact cif_f h4), (by decide), hG⟩) (Nat.le_of_ble_eq_true rfl) (Nat.le_of_ble_eq_true rfl) dX7_enter_71
      · exact absurd h11 (by decide)
    · skip
      exact absurd h8_0 (by decide)
  · skip
    refine lv_iconst (v := 1) hx hb dX7_enter_7 (by decide) ?_
    refine k_X7_isThrown hC hS hG (by first | exact Or.inl rfl | exact Or.inr rfl) ml_X7_94 ⟨Nat.le_of_ble_eq_true rfl, Nat.le_of_ble_eq_true rfl⟩ hl.1 (Nat.le_of_ble_eq_true rfl) dX7_enter_8 ⟨Nat.le_of_ble_eq_true rfl, Nat.le_of_ble_eq_true rfl⟩ (fun h8_0 H locs hG hS => ?_) (fun h8_0 H locs hG hS => ?_)
    · skip
      exact absurd h8_0 (by decide)
    · skip
      refine lv_if_ne (tgt := 70) hx hb dX7_enter_11 (by decide) (fun h11 => ?_) (fun h11 => ?_)
      · exact absurd h11 (by decide)
      · skip
        obtain ⟨⟨a1, ha1, hx1⟩, ⟨a2, ha2, hx2⟩⟩ := Classical.not_not.mp h4
        subst hx1
        subst hx2
        have za1 : ci (nI a1) = a1 := nI_clamp (by omega)
        have za2 : ci (nI a2) = a2 := nI_clamp (by omega)
        refine o_aload_n hx hb dX7_enter_14 hl rfl ?_
        refine o_aload_n hx hb dX7_enter_15 hl rfl ?_
        refine g_get hC hG us_X7 rfl 15 (by decide) fl_X7_59 V_model rfl dX7_enter_16 ?_
        refine o_iload_n hx hb dX7_enter_19 hl rfl ?_
        refine g_zald hC hG V_m15 _ rfl (by omega) (by omega) dX7_enter_20 ?_
        refine lv_if_ne (tgt := 58) hx hb dX7_enter_21 (by decide) (fun h21 => ?_) (fun h21 => ?_)
        · skip
          refine lv_iconst (v := 1) hx hb dX7_enter_58 (by decide) ?_
          refine lv_goto (tgt := 63) hx hb dX7_enter_59 (by decide) ?_
          refine lv_iconst (v := 2) hx hb dX7_enter_63 (by decide) ?_
          refine k_X7_isThrown hC hS hG (by first | exact Or.inl rfl | exact Or.inr rfl) ml_X7_94 ⟨Nat.le_of_ble_eq_true rfl, Nat.le_of_ble_eq_true rfl⟩ hl.1 (Nat.le_of_ble_eq_true rfl) dX7_enter_64 ⟨Nat.le_of_ble_eq_true rfl, Nat.le_of_ble_eq_true rfl⟩ (fun h64_0 H locs hG hS => ?_) (fun h64_0 H locs hG hS => ?_)
          · skip
            refine lv_if_eq (tgt := 72) hx hb dX7_enter_67 (by decide) (fun h67 => ?_) (fun h67 => ?_)
            · exact absurd h67 (by decide)
            · skip
              refine lv_iconst (v := 0) hx hb dX7_enter_70 (by decide) ?_
              exact R_I hC hS hr hlk rfl (by first | exact Or.inr ⟨2, (by simp only [cd_enter, za1, za2]; exact (cif_t ⟨ix_nI ha1, ix_nI ha2⟩).trans (cif_f (fun z => by first | exact h21 z.1 | exact h33 z.2.1 | exact h38 z.2.2.1 | exact h52 z.2.2.2.2))), (by decide), hG⟩ | exact Or.inr ⟨1, (by simp only [cd_enter]; exact cif_f h4), (by decide), hG⟩) (Nat.le_of_ble_eq_true rfl) (Nat.le_of_ble_eq_true rfl) dX7_enter_71
          · skip
            exact absurd h64_0 (by decide)
        · skip
          refine o_aload_n hx hb dX7_enter_24 hl rfl ?_
          refine g_get hC hG us_X7 rfl 17 (by decide) fl_X7_65 V_model rfl dX7_enter_25 ?_
          refine o_iload_n hx hb dX7_enter_28 hl rfl ?_
          refine g_aald hC hG 7 rfl rfl V_o17 _ rfl (by omega) (by omega) dX7_enter_29 ?_
          refine o_iload_n hx hb dX7_enter_30 hl rfl ?_
          refine g_iald hC hG (V_r17 (by omega)) _ rfl (by omega) (by omega) dX7_enter_31 ?_
          refine lv_iconst (v := (-1)) hx hb dX7_enter_32 (by decide) ?_
          refine lv_icmp_ne (tgt := 58) hx hb dX7_enter_33 (by decide) (fun h33 => ?_) (fun h33 => ?_)
          · skip
            refine lv_iconst (v := 1) hx hb dX7_enter_58 (by decide) ?_
            refine lv_goto (tgt := 63) hx hb dX7_enter_59 (by decide) ?_
            refine lv_iconst (v := 2) hx hb dX7_enter_63 (by decide) ?_
            refine k_X7_isThrown hC hS hG (by first | exact Or.inl rfl | exact Or.inr rfl) ml_X7_94 ⟨Nat.le_of_ble_eq_true rfl, Nat.le_of_ble_eq_true rfl⟩ hl.1 (Nat.le_of_ble_eq_true rfl) dX7_enter_64 ⟨Nat.le_of_ble_eq_true rfl, Nat.le_of_ble_eq_true rfl⟩ (fun h64_0 H locs hG hS => ?_) (fun h64_0 H locs hG hS => ?_)
            · skip
              refine lv_if_eq (tgt := 72) hx hb dX7_enter_67 (by decide) (fun h67 => ?_) (fun h67 => ?_)
              · exact absurd h67 (by decide)
              · skip
                refine lv_iconst (v := 0) hx hb dX7_enter_70 (by decide) ?_
                exact R_I hC hS hr hlk rfl (by first | exact Or.inr ⟨2, (by simp only [cd_enter, za1, za2]; exact (cif_t ⟨ix_nI ha1, ix_nI ha2⟩).trans (cif_f (fun z => by first | exact h21 z.1 | exact h33 z.2.1 | exact h38 z.2.2.1 | exact h52 z.2.2.2.2))), (by decide), hG⟩ | exact Or.inr ⟨1, (by simp only [cd_enter]; exact cif_f h4), (by decide), hG⟩) (Nat.le_of_ble_eq_true rfl) (Nat.le_of_ble_eq_true rfl) dX7_enter_71
            · skip
              exact absurd h64_0 (by decide)
          · skip
            refine o_aload_n hx hb dX7_enter_36 hl rfl ?_
            refine o_iload_n hx hb dX7_enter_37 hl rfl ?_
            refine k_X7_hasClass hC hS hG (by omega) ml_X7_133 ⟨Nat.le_of_ble_eq_true rfl, Nat.le_of_ble_eq_true rfl⟩ hl.1 (Nat.le_of_ble_eq_true rfl) dX7_enter_38 ⟨Nat.le_of_ble_eq_true rfl, Nat.le_of_ble_eq_true rfl⟩ (fun h38 => ?_) (fun h38 => ?_)
            · skip
              refine lv_if_eq (tgt := 58) hx hb dX7_enter_41 (by decide) (fun h41 => ?_) (fun h41 => ?_)
              · exact absurd h41 (by decide)
              · skip
                refine o_aload_n hx hb dX7_enter_44 hl rfl ?_
                refine o_iload_n hx hb dX7_enter_45 hl rfl ?_
                refine o_aload_n hx hb dX7_enter_46 hl rfl ?_
                refine g_get hC hG us_X7 rfl 6 (by decide) fl_X7_32 V_model rfl dX7_enter_47 ?_
                refine o_iload_n hx hb dX7_enter_50 hl rfl ?_
                refine g_iald hC hG V_m6 _ rfl (by omega) (by omega) dX7_enter_51 ?_
                refine k_X7_isFor hC hS hG ⟨by omega, (hKI a2 (by omega)).elim Or.inl (fun ⟨q, hq, h⟩ => Or.inr ⟨q, by omega, h⟩)⟩ ml_X7_142 ⟨Nat.le_of_ble_eq_true rfl, Nat.le_of_ble_eq_true rfl⟩ hl.1 (Nat.le_of_ble_eq_true rfl) dX7_enter_52 ⟨Nat.le_of_ble_eq_true rfl, Nat.le_of_ble_eq_true rfl⟩ (fun h52 => ?_) (fun h52 => ?_)
                · skip
                  refine lv_if_ne (tgt := 62) hx hb dX7_enter_55 (by decide) (fun h55 => ?_) (fun h55 => ?_)
                  · skip
                    refine lv_iconst (v := 0) hx hb dX7_enter_62 (by decide) ?_
                    refine lv_iconst (v := 2) hx hb dX7_enter_63 (by decide) ?_
                    refine k_X7_isThrown hC hS hG (by first | exact Or.inl rfl | exact Or.inr rfl) ml_X7_94 ⟨Nat.le_of_ble_eq_true rfl, Nat.le_of_ble_eq_true rfl⟩ hl.1 (Nat.le_of_ble_eq_true rfl) dX7_enter_64 ⟨Nat.le_of_ble_eq_true rfl, Nat.le_of_ble_eq_true rfl⟩ (fun h64_0 H locs hG hS => ?_) (fun h64_0 H locs hG hS => ?_)
                    · skip
                      exact absurd h64_0 (by decide)
                    · skip
                      refine lv_if_eq (tgt := 72) hx hb dX7_enter_67 (by decide) (fun h67 => ?_) (fun h67 => ?_)
                      · skip
                        refine o_aload_n hx hb dX7_enter_72 hl rfl ?_
                        refine g_get hC hG us_X7 rfl 17 (by decide) fl_X7_65 V_model rfl dX7_enter_73 ?_
                        refine o_iload_n hx hb dX7_enter_76 hl rfl ?_
                        refine g_aald hC hG 7 rfl rfl V_o17 _ rfl (by omega) (by omega) dX7_enter_77 ?_
                        refine o_iload_n hx hb dX7_enter_78 hl rfl ?_
                        refine o_aload_n hx hb dX7_enter_79 hl rfl ?_
                        refine g_get hC hG us_X7 rfl 6 (by decide) fl_X7_32 V_model rfl dX7_enter_80 ?_
                        refine o_iload_n hx hb dX7_enter_83 hl rfl ?_
                        refine g_iald hC hG V_m6 _ rfl (by omega) (by omega) dX7_enter_84 ?_
                        refine g_iast hC hG hS (V_r17 (by omega)) _ rfl (by omega) (by omega) (P_r17 (by omega)) dX7_enter_85 (fun H locs hG hS => ?_)
                        refine lv_iconst (v := 0) hx hb dX7_enter_86 (by decide) ?_
                        refine o_istore_n hx hb dX7_enter_87 hl (by decide) rfl (fun ls hl => ?_)
                        refine o_aload_n hx hb dX7_enter_88 hl rfl ?_
                        refine g_get hC hG us_X7 rfl 17 (by decide) fl_X7_65 V_model rfl dX7_enter_89 ?_
                        refine o_iload_n hx hb dX7_enter_92 hl rfl ?_
                        refine g_aald hC hG 7 rfl rfl V_o17 _ rfl (by omega) (by omega) dX7_enter_93 ?_
                        refine o_astore hx hb dX7_enter_94 hl (by decide) rfl (fun ls hl => ?_)
                        refine o_aload hx hb dX7_enter_96 hl rfl ?_
                        refine g_alen hC hG 0 rfl (V_r17 (by omega)) (v := nI 16) rfl dX7_enter_98 ?_
                        refine o_istore hx hb dX7_enter_99 hl (by decide) rfl (fun ls hl => ?_)
                        refine lv_iconst (v := 0) hx hb dX7_enter_101 (by decide) ?_
                        refine o_istore hx hb dX7_enter_102 hl (by decide) rfl (fun ls hl => ?_)
                        have loop104 : ∀ (q9 : Nat) (w : Nat), w ≤ 16 ∧ 16 < w + q9 → ∀ ls : Array Slot, lo ls 8 [some (.ref (ad 13 0 0)), some (.int (nI a1)), some (.int (nI a2)), some (.int (cnt (entP (enS T a1 a2) a1) w)), some (.ref (ad 15 17 a1)), some (.int (nI 16)), some (.int (nI w)), none] → W p l e ({ frames := 3, cells := 0, slots := 0, locals := 65 } : Room) s m [.ref (ad 13 0 0), .int (nI a1), .int (nI a2)].toArray below meth c H locs 0 0 (MQ below (oI B (fun r H => (cd_enter T k (nI a1) (nI a2) = 0 ∧ r = (cnt (entP (enS T (ci (nI a1)) (ci (nI a2))) (ci (nI a1))) 16) ∧ GW D B ad (Vw cy de ad S n (enS T (ci (nI a1)) (ci (nI a2))) (k) 0 X) H) ∨ (∃ (t9 : Nat), cd_enter T k (nI a1) (nI a2) = t9 ∧ ¬ t9 = 0 ∧ GW D B ad (Vw cy de ad S n T k (nI t9) X) H))) [.ref (ad 13 0 0), .int (nI a1), .int (nI a2)].toArray s 0 0 (AB B)) (F0 m 104 ls []) := by
                          intro q9
                          induction q9 with
                          | zero => intro w hq9; exact absurd hq9 (by omega)
                          | succ q9 ih104 =>
                            intro w hq9   ls hl
                            refine o_iload hx hb dX7_enter_104 hl rfl ?_
                            refine o_iload hx hb dX7_enter_106 hl rfl ?_
                            refine n_icmp_ge (tgt := 138) hx hb w 16 rfl rfl (by omega) (by omega) dX7_enter_108 (by decide) (fun h108 => ?_) (fun h108 => ?_)
                            · skip
                              refine o_iload_n hx hb dX7_enter_138 hl rfl ?_
                              exact R_I hC hS hr hlk rfl (Or.inl ⟨(by simp only [cd_enter, za1, za2]; exact (cif_t ⟨ix_nI ha1, ix_nI ha2⟩).trans (cif_t ⟨h21, h33, h38, hMK a2 (by omega) h38, h52⟩)), (by rw [za1, za2, show (16 : Nat) = w by omega]), (by rw [za1, za2]; exact hG)⟩) (Nat.le_of_ble_eq_true rfl) (Nat.le_of_ble_eq_true rfl) dX7_enter_139
                            · skip
                              refine o_aload hx hb dX7_enter_111 hl rfl ?_
                              refine o_iload hx hb dX7_enter_113 hl rfl ?_
                              refine g_iald hC hG (V_r17 (by omega)) _ rfl (by omega) (by omega) dX7_enter_115 ?_
                              refine o_istore hx hb dX7_enter_116 hl (by decide) rfl (fun ls hl => ?_)
                              refine o_iload_n hx hb dX7_enter_118 hl rfl ?_
                              refine o_iload hx hb dX7_enter_119 hl rfl ?_
                              refine lv_iconst (v := (-1)) hx hb dX7_enter_121 (by decide) ?_
                              refine lv_icmp_ne (tgt := 129) hx hb dX7_enter_122 (by decide) (fun h122 => ?_) (fun h122 => ?_)
                              · skip
                                refine lv_iconst (v := 1) hx hb dX7_enter_129 (by decide) ?_
                                refine lv_iadd hx hb dX7_enter_130 ?_
                                refine o_istore_n hx hb dX7_enter_131 hl (by decide) rfl (fun ls hl => ?_)
                                try rw [Int32.add_zero] at hl
                                refine o_iinc1 hx hb dX7_enter_132 hl rfl (by decide) rfl (fun ls hl => ?_)
                                refine lv_goto (tgt := 104) hx hb dX7_enter_135 (by decide) ?_
                                exact ih104 (w + 1) (by omega) ls (by first | (rw [cnt_t (P := entP (enS T a1 a2) a1) h122]; exact lo_none (i := 7) hl) | (rw [cnt_f (P := entP (enS T a1 a2) a1) (fun z => z h122)]; exact lo_none (i := 7) hl))
                              · skip
                                refine lv_iconst (v := 0) hx hb dX7_enter_125 (by decide) ?_
                                refine lv_goto (tgt := 130) hx hb dX7_enter_126 (by decide) ?_
                                refine lv_iadd hx hb dX7_enter_130 ?_
                                refine o_istore_n hx hb dX7_enter_131 hl (by decide) rfl (fun ls hl => ?_)
                                try rw [Int32.add_zero] at hl
                                refine o_iinc1 hx hb dX7_enter_132 hl rfl (by decide) rfl (fun ls hl => ?_)
                                refine lv_goto (tgt := 104) hx hb dX7_enter_135 (by decide) ?_
                                exact ih104 (w + 1) (by omega) ls (by first | (rw [cnt_t (P := entP (enS T a1 a2) a1) h122]; exact lo_none (i := 7) hl) | (rw [cnt_f (P := entP (enS T a1 a2) a1) (fun z => z h122)]; exact lo_none (i := 7) hl))
                        exact loop104 17 0 (by omega) ls hl
                      · exact absurd h67 (by decide)
                  · exact absurd h55 (by decide)
                · skip
                  refine lv_if_ne (tgt := 62) hx hb dX7_enter_55 (by decide) (fun h55 => ?_) (fun h55 => ?_)
                  · exact absurd h55 (by decide)
                  · skip
                    refine lv_iconst (v := 1) hx hb dX7_enter_58 (by decide) ?_
                    refine lv_goto (tgt := 63) hx hb dX7_enter_59 (by decide) ?_
                    refine lv_iconst (v := 2) hx hb dX7_enter_63 (by decide) ?_
                    refine k_X7_isThrown hC hS hG (by first | exact Or.inl rfl | exact Or.inr rfl) ml_X7_94 ⟨Nat.le_of_ble_eq_true rfl, Nat.le_of_ble_eq_true rfl⟩ hl.1 (Nat.le_of_ble_eq_true rfl) dX7_enter_64 ⟨Nat.le_of_ble_eq_true rfl, Nat.le_of_ble_eq_true rfl⟩ (fun h64_0 H locs hG hS => ?_) (fun h64_0 H locs hG hS => ?_)
                    · skip
                      refine lv_if_eq (tgt := 72) hx hb dX7_enter_67 (by decide) (fun h67 => ?_) (fun h67 => ?_)
                      · exact absurd h67 (by decide)
                      · skip
                        refine lv_iconst (v := 0) hx hb dX7_enter_70 (by decide) ?_
                        exact R_I hC hS hr hlk rfl (by first | exact Or.inr ⟨2, (by simp only [cd_enter, za1, za2]; exact (cif_t ⟨ix_nI ha1, ix_nI ha2⟩).trans (cif_f (fun z => by first | exact h21 z.1 | exact h33 z.2.1 | exact h38 z.2.2.1 | exact h52 z.2.2.2.2))), (by decide), hG⟩ | exact Or.inr ⟨1, (by simp only [cd_enter]; exact cif_f h4), (by decide), hG⟩) (Nat.le_of_ble_eq_true rfl) (Nat.le_of_ble_eq_true rfl) dX7_enter_71
                    · skip
                      exact absurd h64_0 (by decide)
            · skip
              refine lv_if_eq (tgt := 58) hx hb dX7_enter_41 (by decide) (fun h41 => ?_) (fun h41 => ?_)
              · skip
                refine lv_iconst (v := 1) hx hb dX7_enter_58 (by decide) ?_
                refine lv_goto (tgt := 63) hx hb dX7_enter_59 (by decide) ?_
                refine lv_iconst (v := 2) hx hb dX7_enter_63 (by decide) ?_
                refine k_X7_isThrown hC hS hG (by first | exact Or.inl rfl | exact Or.inr rfl) ml_X7_94 ⟨Nat.le_of_ble_eq_true rfl, Nat.le_of_ble_eq_true rfl⟩ hl.1 (Nat.le_of_ble_eq_true rfl) dX7_enter_64 ⟨Nat.le_of_ble_eq_true rfl, Nat.le_of_ble_eq_true rfl⟩ (fun h64_0 H locs hG hS => ?_) (fun h64_0 H locs hG hS => ?_)
                · skip
                  refine lv_if_eq (tgt := 72) hx hb dX7_enter_67 (by decide) (fun h67 => ?_) (fun h67 => ?_)
                  · exact absurd h67 (by decide)
                  · skip
                    refine lv_iconst (v := 0) hx hb dX7_enter_70 (by decide) ?_
                    exact R_I hC hS hr hlk rfl (by first | exact Or.inr ⟨2, (by simp only [cd_enter, za1, za2]; exact (cif_t ⟨ix_nI ha1, ix_nI ha2⟩).trans (cif_f (fun z => by first | exact h21 z.1 | exact h33 z.2.1 | exact h38 z.2.2.1 | exact h52 z.2.2.2.2))), (by decide), hG⟩ | exact Or.inr ⟨1, (by simp only [cd_enter]; exact cif_f h4), (by decide), hG⟩) (Nat.le_of_ble_eq_true rfl) (Nat.le_of_ble_eq_true rfl) dX7_enter_71
                · skip
                  exact absurd h64_0 (by decide)
              · exact absurd h41 (by decide)
theorem k_X7_enter {p : Program} {l : Launch} {e : Env} {R : Room} {s : State} {m : MethodId} {args : Array Value} {below : List Frame} {meth : Method} {c : Code} {H : Heap} {locs : List Loc} {cells slots : Nat} {Q : State → Prop} {cc : ByteArray} {pc nL : Nat} {ls : Array Slot} {rest : List Value} {own : String} {D : va_G} {cy : Nat → ClassId} {sa : Nat → Nat} {de B : Nat} {ad : Ad} {S : St} {n : Nat → Nat} {T : St} {k : Nat → Nat} {th : Int32} {X : Rl} {x y : Int32}  (hC : Cx p m c cc nL s args own D cy sa de B) (hS : va_S (AB B) s.heap H locs) (hG : GW D B ad (Vw cy de ad S n T k th X) H) (h0 : Inv T k)  {idx : Nat} (wl : Cond.methodLink own idx yX7_enter ∈ G0) (hR : 3 + 1 ≤ R.frames ∧ 8 + (8 + 11) + 65 ≤ R.locals) (hsz : ls.size = nL) (hst : (rest.map fun v => v.category).sum ≤ 8) (hdg : decode cc pc = .ok (.invokevirtual idx, 3)) (hcs : cells + 0 ≤ R.cells ∧ slots + 0 ≤ R.slots) (k0 : (cd_enter T k x y = 0) → ∀ (H1 : Heap) (locs1 : List Loc), GW D B ad (Vw cy de ad S n (enS T (ci x) (ci y)) (k) 0 X) H1 → va_S (AB B) s.heap H1 locs1 → W p l e R s m args below meth c H1 locs1 cells slots Q (F0 m (pc + 3) ls (.int (cnt (entP (enS T (ci x) (ci y)) (ci x)) 16) :: rest))) (k1 : ∀ (r9 : Int32), ∀ (t9 : Nat), (cd_enter T k x y = t9) → (¬ t9 = 0) → ∀ (H1 : Heap) (locs1 : List Loc), GW D B ad (Vw cy de ad S n T k (nI t9) X) H1 → va_S (AB B) s.heap H1 locs1 → W p l e R s m args below meth c H1 locs1 cells slots Q (F0 m (pc + 3) ls (.int r9 :: rest))) : W p l e R s m args below meth c H locs cells slots Q (F0 m pc ls (.int y :: .int x :: .ref (ad 13 0 0) :: rest)) :=
  va_calli (rV hC hS hG h0 (As := [.int x, .int y]) (c_X7_enter l) ⟨rfl, rfl⟩ wl im_X7_enter sl_X7_X7_enter in_X7 cd_X7_enter (n := 2) (by decide +kernel) hR (recv hC hG (q := (RX7, TX7, 26)) rfl V_model) rfl hsz hst rfl hdg hcs) hS (fun _ _ h => h) (fun _ h => h) (fun r u t H1 locs1 ht _ hr hB _ _ hS1 => by
      subst hr
      have hB9 := hB; try dsimp only at hB9
      rw [ht] at hB9
      rcases hB9 with ⟨q0, rfl, hG1⟩ | ⟨t9, q0, q1, hG1⟩
      · exact k0 q0 _ _ hG1 hS1
      · exact k1 r t9 q0 q1 _ _ hG1 hS1)
