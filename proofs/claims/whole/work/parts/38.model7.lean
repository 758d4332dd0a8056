set_option maxHeartbeats 4000000 in
set_option maxRecDepth 100000 in
theorem c_X7_floor (l : Launch) {D : va_G} {cy : Nat → ClassId} {sa : Nat → Nat} {de B : Nat} {ad : Ad} {S : St} {n : Nat → Nat} {T : St} {k : Nat → Nat} {th : Int32} {X : Rl} {x y : Int32}  : Met l yX7_floor (Cond.code yX7_floor cX7_floor 5 (Option.some Jvm.ClassFile.FieldType.int) :: G0) ({ frames := 2, cells := 0, slots := 0, locals := 46 } : Room) (va_Pc [.ref (ad 13 0 0), .int x, .int y] (PW D cy sa de B ad (Vw cy de ad S n T k th X) (Inv T k))) (oI B (fun r H => (cd_floor T k x y = 0 ∧ r = (ptF T y (k 0)) ∧ GW D B ad (Vw cy de ad S n (puF T x y (k 0)) (k) 0 X) H) ∨ (∃ (t9 : Nat), cd_floor T k x y = t9 ∧ ¬ t9 = 0 ∧ GW D B ad (Vw cy de ad S n T k (nI t9) X) H))) 0 0 (AB B) := by
  refine E_met (own := RX7) rfl rfl (Nat.le_of_ble_eq_true rfl) ?_
  intro p e s m below meth c hC hr hlk hnm hG h0 ls hl
  have hx := hC.x
  have hb := hC.b
  have hS : va_S (AB B) s.heap s.heap [] := va_S.rf
  have hl : lo ls 5 [some (.ref (ad 13 0 0)), some (.int x), some (.int y), none, none] := lo_of hl
  have hI := h0
  obtain ⟨hCI, hD0, hD1, hD2, hB01, hF30, hK8, hMK, hU1, hU2, hS10, hEO, hCF, hFT, hME, hYR, hEK, hLA⟩ := h0
  obtain ⟨hW, hNE, hCH, hBL⟩ := hCI
  have hW9 := hW
  obtain ⟨hB0, hB1, hB2, hB3, hB4, hB5, hB6, hB7, hKI, hEI, hKY⟩ := hW9
  have hMB : MB k := ⟨hB0, hB1, hB2, hB3⟩
  have hKYm : KYm T k := hKY
  refine o_aload_n hx hb dX7_floor_0 hl rfl ?_
  refine o_iload_n hx hb dX7_floor_1 hl rfl ?_
  refine k_X7_isNoLand hC hS hG trivial ml_X7_90 ⟨Nat.le_of_ble_eq_true rfl, Nat.le_of_ble_eq_true rfl⟩ hl.1 (Nat.le_of_ble_eq_true rfl) dX7_floor_2 ⟨Nat.le_of_ble_eq_true rfl, Nat.le_of_ble_eq_true rfl⟩ (fun h2 => ?_) (fun h2 => ?_)
  · skip
    refine lv_iconst (v := 1) hx hb dX7_floor_5 (by decide) ?_
    refine k_X7_isThrown hC hS hG (by first | exact Or.inl rfl | exact Or.inr rfl) ml_X7_94 ⟨Nat.le_of_ble_eq_true rfl, Nat.le_of_ble_eq_true rfl⟩ hl.1 (Nat.le_of_ble_eq_true rfl) dX7_floor_6 ⟨Nat.le_of_ble_eq_true rfl, Nat.le_of_ble_eq_true rfl⟩ (fun h6_0 H locs hG hS => ?_) (fun h6_0 H locs hG hS => ?_)
    · skip
      refine lv_if_eq (tgt := 14) hx hb dX7_floor_9 (by decide) (fun h9 => ?_) (fun h9 => ?_)
      · exact absurd h9 (by decide)
      · skip
        refine lv_iconst (v := 0) hx hb dX7_floor_12 (by decide) ?_
        exact R_I hC hS hr hlk rfl (Or.inr ⟨1, (by simp only [cd_floor]; exact cif_f h2), (by decide), hG⟩) (Nat.le_of_ble_eq_true rfl) (Nat.le_of_ble_eq_true rfl) dX7_floor_13
    · skip
      exact absurd h6_0 (by decide)
  · skip
    refine lv_iconst (v := 1) hx hb dX7_floor_5 (by decide) ?_
    refine k_X7_isThrown hC hS hG (by first | exact Or.inl rfl | exact Or.inr rfl) ml_X7_94 ⟨Nat.le_of_ble_eq_true rfl, Nat.le_of_ble_eq_true rfl⟩ hl.1 (Nat.le_of_ble_eq_true rfl) dX7_floor_6 ⟨Nat.le_of_ble_eq_true rfl, Nat.le_of_ble_eq_true rfl⟩ (fun h6_0 H locs hG hS => ?_) (fun h6_0 H locs hG hS => ?_)
    · skip
      exact absurd h6_0 (by decide)
    · skip
      refine lv_if_eq (tgt := 14) hx hb dX7_floor_9 (by decide) (fun h9 => ?_) (fun h9 => ?_)
      · skip
        refine o_iload_n hx hb dX7_floor_14 hl rfl ?_
        refine lv_iconst (v := 0) hx hb dX7_floor_15 (by decide) ?_
        refine lv_iconst (v := 1) hx hb dX7_floor_16 (by decide) ?_
        refine o_aload_n hx hb dX7_floor_17 hl rfl ?_
        refine g_get hC hG us_X7 rfl 20 (by decide) fl_X7_80 V_model rfl dX7_floor_18 ?_
        refine lv_ishl hx hb dX7_floor_21 ?_
        refine lv_iconst (v := 1) hx hb dX7_floor_22 (by decide) ?_
        refine lv_isub hx hb dX7_floor_23 ?_
        refine k_X7_isIn hC hS hG trivial ml_X7_83 ⟨Nat.le_of_ble_eq_true rfl, Nat.le_of_ble_eq_true rfl⟩ hl.1 (Nat.le_of_ble_eq_true rfl) dX7_floor_24 ⟨Nat.le_of_ble_eq_true rfl, Nat.le_of_ble_eq_true rfl⟩ (fun h24 => ?_) (fun h24 => ?_)
        · skip
          refine lv_if_eq (tgt := 42) hx hb dX7_floor_27 (by decide) (fun h27 => ?_) (fun h27 => ?_)
          · exact absurd h27 (by decide)
          · skip
            refine o_iload_n hx hb dX7_floor_30 hl rfl ?_
            refine k_J6_bitCount_0f7a4 hC hS hG trivial ml_X7_152 ⟨Nat.le_of_ble_eq_true rfl, Nat.le_of_ble_eq_true rfl⟩ hl.1 (Nat.le_of_ble_eq_true rfl) dX7_floor_31 ⟨Nat.le_of_ble_eq_true rfl, Nat.le_of_ble_eq_true rfl⟩ ?_
            refine lv_iconst (v := 4) hx hb dX7_floor_34 (by decide) ?_
            refine lv_icmp_gt (tgt := 42) hx hb dX7_floor_35 (by decide) (fun h35 => ?_) (fun h35 => ?_)
            · skip
              refine lv_iconst (v := 0) hx hb dX7_floor_42 (by decide) ?_
              refine o_istore_n hx hb dX7_floor_43 hl (by decide) rfl (fun ls hl => ?_)
              refine lv_iconst (v := 0) hx hb dX7_floor_44 (by decide) ?_
              refine o_istore hx hb dX7_floor_45 hl (by decide) rfl (fun ls hl => ?_)
              have loop47 : ∀ (q9 : Nat) (w : Nat), w ≤ k 0 ∧ k 0 < w + q9 → ∀ ls : Array Slot, lo ls 5 [some (.ref (ad 13 0 0)), some (.int x), some (.int y), some (.int (flR T y x 0 w)), some (.int (nI w))] → W p l e ({ frames := 2, cells := 0, slots := 0, locals := 46 } : Room) s m [.ref (ad 13 0 0), .int x, .int y].toArray below meth c H locs 0 0 (MQ below (oI B (fun r H => (cd_floor T k x y = 0 ∧ r = (ptF T y (k 0)) ∧ GW D B ad (Vw cy de ad S n (puF T x y (k 0)) (k) 0 X) H) ∨ (∃ (t9 : Nat), cd_floor T k x y = t9 ∧ ¬ t9 = 0 ∧ GW D B ad (Vw cy de ad S n T k (nI t9) X) H))) [.ref (ad 13 0 0), .int x, .int y].toArray s 0 0 (AB B)) (F0 m 47 ls []) := by
                intro q9
                induction q9 with
                | zero => intro w hq9; exact absurd hq9 (by omega)
                | succ q9 ih47 =>
                  intro w hq9   ls hl
                  refine o_iload hx hb dX7_floor_47 hl rfl ?_
                  refine o_aload_n hx hb dX7_floor_49 hl rfl ?_
                  refine g_get hC hG us_X7 rfl 20 (by decide) fl_X7_80 V_model rfl dX7_floor_50 ?_
                  refine n_icmp_ge (tgt := 90) hx hb w (k 0) rfl rfl (by omega) (by omega) dX7_floor_53 (by decide) (fun h53 => ?_) (fun h53 => ?_)
                  · skip
                    rw [flR_0] at hl
                    refine o_aload_n hx hb dX7_floor_90 hl rfl ?_
                    refine o_iload_n hx hb dX7_floor_91 hl rfl ?_
                    refine lv_if_ne (tgt := 99) hx hb dX7_floor_92 (by decide) (fun h92 => ?_) (fun h92 => ?_)
                    · exact absurd h92 (by decide)
                    · skip
                      refine lv_iconst (v := 1) hx hb dX7_floor_95 (by decide) ?_
                      refine lv_goto (tgt := 100) hx hb dX7_floor_96 (by decide) ?_
                      refine lv_iconst (v := 2) hx hb dX7_floor_100 (by decide) ?_
                      refine k_X7_isThrown hC hS hG (by first | exact Or.inl rfl | exact Or.inr rfl) ml_X7_94 ⟨Nat.le_of_ble_eq_true rfl, Nat.le_of_ble_eq_true rfl⟩ hl.1 (Nat.le_of_ble_eq_true rfl) dX7_floor_101 ⟨Nat.le_of_ble_eq_true rfl, Nat.le_of_ble_eq_true rfl⟩ (fun h101_0 H locs hG hS => ?_) (fun h101_0 H locs hG hS => ?_)
                      · skip
                        refine lv_if_ne (tgt := 120) hx hb dX7_floor_104 (by decide) (fun h104 => ?_) (fun h104 => ?_)
                        · skip
                          refine lv_iconst (v := 0) hx hb dX7_floor_120 (by decide) ?_
                          refine lv_goto (tgt := 130) hx hb dX7_floor_121 (by decide) ?_
                          exact R_I hC hS hr hlk rfl (by first | exact Or.inr ⟨2, (by simp only [cd_floor]; exact (cif_t (Classical.not_not.mp h2)).trans (cif_f (fun z => by first | exact h24 ((in_pow (by omega)).mpr z.1) | exact absurd h35 (Int32.not_lt.mpr z.2.1) | exact (hfl.resolve_left (fun t => absurd (t.1.symm.trans h92) (by decide))).2 z.2.2))), (by decide), hG⟩ | exact Or.inr ⟨3, (by simp only [cd_floor]; exact (cif_t (Classical.not_not.mp h2)).trans ((cif_t ⟨(in_pow (by omega)).mp h24, Int32.not_lt.mp h35, (hfl.resolve_right (fun t => h92 t.1)).2⟩).trans (cif_f h110))), (by decide), hG⟩ | exact Or.inl ⟨(by simp only [cd_floor]; exact (cif_t (Classical.not_not.mp h2)).trans ((cif_t ⟨(in_pow (by omega)).mp h24, Int32.not_lt.mp h35, (hfl.resolve_right (fun t => h92 t.1)).2⟩).trans (cif_t (Classical.not_not.mp h110)))), (by rfl), (by exact hG)⟩) (Nat.le_of_ble_eq_true rfl) (Nat.le_of_ble_eq_true rfl) dX7_floor_130
                        · exact absurd h104 (by decide)
                      · skip
                        exact absurd h101_0 (by decide)
                  · skip
                    refine o_iload_n hx hb dX7_floor_56 hl rfl ?_
                    refine o_iload_n hx hb dX7_floor_57 hl rfl ?_
                    refine o_iload hx hb dX7_floor_58 hl rfl ?_
                    refine lv_ishr hx hb dX7_floor_60 ?_
                    refine lv_iconst (v := 1) hx hb dX7_floor_61 (by decide) ?_
                    refine lv_iand hx hb dX7_floor_62 ?_
                    refine lv_if_eq (tgt := 77) hx hb dX7_floor_63 (by decide) (fun h63 => ?_) (fun h63 => ?_)
                    · skip
                      refine lv_iconst (v := 1) hx hb dX7_floor_77 (by decide) ?_
                      refine lv_goto (tgt := 82) hx hb dX7_floor_78 (by decide) ?_
                      refine lv_iand hx hb dX7_floor_82 ?_
                      refine o_istore_n hx hb dX7_floor_83 hl (by decide) rfl (fun ls hl => ?_)
                      refine o_iinc1 hx hb dX7_floor_84 hl rfl (by decide) rfl (fun ls hl => ?_)
                      refine lv_goto (tgt := 47) hx hb dX7_floor_87 (by decide) ?_
                      exact ih47 (w + 1) (by omega) ls (by rw [show flR T y x 0 (w + 1) = flR T y x 0 w &&& cif (bitP y (nI w) → T 5 w 0 = x) 1 0 from rfl]; first | (rw [cif_t (by first | exact fun z => absurd ((bit_shr (by omega)).mpr z) (b_low0.mp h63) | exact fun _ => h74)]; exact hl) | (rw [cif_f (fun z => h74 (z ((bit_shr (by omega)).mp (Classical.byContradiction (fun t => h63 (b_low0.mpr t))))))]; exact hl))
                    · skip
                      refine o_aload_n hx hb dX7_floor_66 hl rfl ?_
                      refine g_get hC hG us_X7 rfl 0 (by decide) fl_X7_9 V_model rfl dX7_floor_67 ?_
                      refine o_iload hx hb dX7_floor_70 hl rfl ?_
                      refine g_iald hC hG V_m0 _ rfl (by omega) (by omega) dX7_floor_72 ?_
                      refine o_iload_n hx hb dX7_floor_73 hl rfl ?_
                      refine lv_icmp_ne (tgt := 81) hx hb dX7_floor_74 (by decide) (fun h74 => ?_) (fun h74 => ?_)
                      · skip
                        refine lv_iconst (v := 0) hx hb dX7_floor_81 (by decide) ?_
                        refine lv_iand hx hb dX7_floor_82 ?_
                        refine o_istore_n hx hb dX7_floor_83 hl (by decide) rfl (fun ls hl => ?_)
                        refine o_iinc1 hx hb dX7_floor_84 hl rfl (by decide) rfl (fun ls hl => ?_)
                        refine lv_goto (tgt := 47) hx hb dX7_floor_87 (by decide) ?_
                        exact ih47 (w + 1) (by omega) ls (by rw [show flR T y x 0 (w + 1) = flR T y x 0 w &&& cif (bitP y (nI w) → T 5 w 0 = x) 1 0 from rfl]; first | (rw [cif_t (by first | exact fun z => absurd ((bit_shr (by omega)).mpr z) (b_low0.mp h63) | exact fun _ => h74)]; exact hl) | (rw [cif_f (fun z => h74 (z ((bit_shr (by omega)).mp (Classical.byContradiction (fun t => h63 (b_low0.mpr t))))))]; exact hl))
                      · skip
                        refine lv_iconst (v := 1) hx hb dX7_floor_77 (by decide) ?_
                        refine lv_goto (tgt := 82) hx hb dX7_floor_78 (by decide) ?_
                        refine lv_iand hx hb dX7_floor_82 ?_
                        refine o_istore_n hx hb dX7_floor_83 hl (by decide) rfl (fun ls hl => ?_)
                        refine o_iinc1 hx hb dX7_floor_84 hl rfl (by decide) rfl (fun ls hl => ?_)
                        refine lv_goto (tgt := 47) hx hb dX7_floor_87 (by decide) ?_
                        exact ih47 (w + 1) (by omega) ls (by rw [show flR T y x 0 (w + 1) = flR T y x 0 w &&& cif (bitP y (nI w) → T 5 w 0 = x) 1 0 from rfl]; first | (rw [cif_t (by first | exact fun z => absurd ((bit_shr (by omega)).mpr z) (b_low0.mp h63) | exact fun _ => h74)]; exact hl) | (rw [cif_f (fun z => h74 (z ((bit_shr (by omega)).mp (Classical.byContradiction (fun t => h63 (b_low0.mpr t))))))]; exact hl))
              exact loop47 (k 0 + 1) 0 (by omega) ls hl
            · skip
              refine lv_iconst (v := 1) hx hb dX7_floor_38 (by decide) ?_
              refine lv_goto (tgt := 43) hx hb dX7_floor_39 (by decide) ?_
              refine o_istore_n hx hb dX7_floor_43 hl (by decide) rfl (fun ls hl => ?_)
              refine lv_iconst (v := 0) hx hb dX7_floor_44 (by decide) ?_
              refine o_istore hx hb dX7_floor_45 hl (by decide) rfl (fun ls hl => ?_)
              have loop47 : ∀ (q9 : Nat) (w : Nat), w ≤ k 0 ∧ k 0 < w + q9 → ∀ ls : Array Slot, lo ls 5 [some (.ref (ad 13 0 0)), some (.int x), some (.int y), some (.int (flR T y x 1 w)), some (.int (nI w))] → W p l e ({ frames := 2, cells := 0, slots := 0, locals := 46 } : Room) s m [.ref (ad 13 0 0), .int x, .int y].toArray below meth c H locs 0 0 (MQ below (oI B (fun r H => (cd_floor T k x y = 0 ∧ r = (ptF T y (k 0)) ∧ GW D B ad (Vw cy de ad S n (puF T x y (k 0)) (k) 0 X) H) ∨ (∃ (t9 : Nat), cd_floor T k x y = t9 ∧ ¬ t9 = 0 ∧ GW D B ad (Vw cy de ad S n T k (nI t9) X) H))) [.ref (ad 13 0 0), .int x, .int y].toArray s 0 0 (AB B)) (F0 m 47 ls []) := by
                intro q9
                induction q9 with
                | zero => intro w hq9; exact absurd hq9 (by omega)
                | succ q9 ih47 =>
                  intro w hq9   ls hl
                  refine o_iload hx hb dX7_floor_47 hl rfl ?_
                  refine o_aload_n hx hb dX7_floor_49 hl rfl ?_
                  refine g_get hC hG us_X7 rfl 20 (by decide) fl_X7_80 V_model rfl dX7_floor_50 ?_
                  refine n_icmp_ge (tgt := 90) hx hb w (k 0) rfl rfl (by omega) (by omega) dX7_floor_53 (by decide) (fun h53 => ?_) (fun h53 => ?_)
                  · skip
                    have hfl := flR_1 (T := T) (y := y) (l := x) w
                    rw [show w = k 0 by omega] at hfl hl
                    refine o_aload_n hx hb dX7_floor_90 hl rfl ?_
                    refine o_iload_n hx hb dX7_floor_91 hl rfl ?_
                    refine lv_if_ne (tgt := 99) hx hb dX7_floor_92 (by decide) (fun h92 => ?_) (fun h92 => ?_)
                    · skip
                      refine lv_iconst (v := 0) hx hb dX7_floor_99 (by decide) ?_
                      refine lv_iconst (v := 2) hx hb dX7_floor_100 (by decide) ?_
                      refine k_X7_isThrown hC hS hG (by first | exact Or.inl rfl | exact Or.inr rfl) ml_X7_94 ⟨Nat.le_of_ble_eq_true rfl, Nat.le_of_ble_eq_true rfl⟩ hl.1 (Nat.le_of_ble_eq_true rfl) dX7_floor_101 ⟨Nat.le_of_ble_eq_true rfl, Nat.le_of_ble_eq_true rfl⟩ (fun h101_0 H locs hG hS => ?_) (fun h101_0 H locs hG hS => ?_)
                      · skip
                        exact absurd h101_0 (by decide)
                      · skip
                        refine lv_if_ne (tgt := 120) hx hb dX7_floor_104 (by decide) (fun h104 => ?_) (fun h104 => ?_)
                        · exact absurd h104 (by decide)
                        · skip
                          refine o_aload_n hx hb dX7_floor_107 hl rfl ?_
                          refine o_aload_n hx hb dX7_floor_108 hl rfl ?_
                          refine o_iload_n hx hb dX7_floor_109 hl rfl ?_
                          refine k_X7_isTooMuch hC hS hG hMB ml_X7_175 ⟨Nat.le_of_ble_eq_true rfl, Nat.le_of_ble_eq_true rfl⟩ hl.1 (Nat.le_of_ble_eq_true rfl) dX7_floor_110 ⟨Nat.le_of_ble_eq_true rfl, Nat.le_of_ble_eq_true rfl⟩ (fun h110 => ?_) (fun h110 => ?_)
                          · skip
                            refine lv_iconst (v := 3) hx hb dX7_floor_113 (by decide) ?_
                            refine k_X7_isThrown hC hS hG (by first | exact Or.inl rfl | exact Or.inr rfl) ml_X7_94 ⟨Nat.le_of_ble_eq_true rfl, Nat.le_of_ble_eq_true rfl⟩ hl.1 (Nat.le_of_ble_eq_true rfl) dX7_floor_114 ⟨Nat.le_of_ble_eq_true rfl, Nat.le_of_ble_eq_true rfl⟩ (fun h114_0 H locs hG hS => ?_) (fun h114_0 H locs hG hS => ?_)
                            · skip
                              refine lv_if_eq (tgt := 124) hx hb dX7_floor_117 (by decide) (fun h117 => ?_) (fun h117 => ?_)
                              · exact absurd h117 (by decide)
                              · skip
                                refine lv_iconst (v := 0) hx hb dX7_floor_120 (by decide) ?_
                                refine lv_goto (tgt := 130) hx hb dX7_floor_121 (by decide) ?_
                                exact R_I hC hS hr hlk rfl (by first | exact Or.inr ⟨2, (by simp only [cd_floor]; exact (cif_t (Classical.not_not.mp h2)).trans (cif_f (fun z => by first | exact h24 ((in_pow (by omega)).mpr z.1) | exact absurd h35 (Int32.not_lt.mpr z.2.1) | exact (hfl.resolve_left (fun t => absurd (t.1.symm.trans h92) (by decide))).2 z.2.2))), (by decide), hG⟩ | exact Or.inr ⟨3, (by simp only [cd_floor]; exact (cif_t (Classical.not_not.mp h2)).trans ((cif_t ⟨(in_pow (by omega)).mp h24, Int32.not_lt.mp h35, (hfl.resolve_right (fun t => h92 t.1)).2⟩).trans (cif_f h110))), (by decide), hG⟩ | exact Or.inl ⟨(by simp only [cd_floor]; exact (cif_t (Classical.not_not.mp h2)).trans ((cif_t ⟨(in_pow (by omega)).mp h24, Int32.not_lt.mp h35, (hfl.resolve_right (fun t => h92 t.1)).2⟩).trans (cif_t (Classical.not_not.mp h110)))), (by rfl), (by exact hG)⟩) (Nat.le_of_ble_eq_true rfl) (Nat.le_of_ble_eq_true rfl) dX7_floor_130
                            · skip
                              exact absurd h114_0 (by decide)
                          · skip
                            refine lv_iconst (v := 3) hx hb dX7_floor_113 (by decide) ?_
                            refine k_X7_isThrown hC hS hG (by first | exact Or.inl rfl | exact Or.inr rfl) ml_X7_94 ⟨Nat.le_of_ble_eq_true rfl, Nat.le_of_ble_eq_true rfl⟩ hl.1 (Nat.le_of_ble_eq_true rfl) dX7_floor_114 ⟨Nat.le_of_ble_eq_true rfl, Nat.le_of_ble_eq_true rfl⟩ (fun h114_0 H locs hG hS => ?_) (fun h114_0 H locs hG hS => ?_)
                            · skip
                              exact absurd h114_0 (by decide)
                            · skip
                              refine lv_if_eq (tgt := 124) hx hb dX7_floor_117 (by decide) (fun h117 => ?_) (fun h117 => ?_)
                              · skip
                                refine o_aload_n hx hb dX7_floor_124 hl rfl ?_
                                refine o_iload_n hx hb dX7_floor_125 hl rfl ?_
                                refine o_iload_n hx hb dX7_floor_126 hl rfl ?_
                                refine k_X7_puts hC hS hG ⟨hMB, fun i => (hB01 i).2.1⟩ ml_X7_178 ⟨Nat.le_of_ble_eq_true rfl, Nat.le_of_ble_eq_true rfl⟩ hl.1 (Nat.le_of_ble_eq_true rfl) dX7_floor_127 ⟨Nat.le_of_ble_eq_true rfl, Nat.le_of_ble_eq_true rfl⟩ (fun H locs hG hS => ?_)
                                exact R_I hC hS hr hlk rfl (by first | exact Or.inr ⟨2, (by simp only [cd_floor]; exact (cif_t (Classical.not_not.mp h2)).trans (cif_f (fun z => by first | exact h24 ((in_pow (by omega)).mpr z.1) | exact absurd h35 (Int32.not_lt.mpr z.2.1) | exact (hfl.resolve_left (fun t => absurd (t.1.symm.trans h92) (by decide))).2 z.2.2))), (by decide), hG⟩ | exact Or.inr ⟨3, (by simp only [cd_floor]; exact (cif_t (Classical.not_not.mp h2)).trans ((cif_t ⟨(in_pow (by omega)).mp h24, Int32.not_lt.mp h35, (hfl.resolve_right (fun t => h92 t.1)).2⟩).trans (cif_f h110))), (by decide), hG⟩ | exact Or.inl ⟨(by simp only [cd_floor]; exact (cif_t (Classical.not_not.mp h2)).trans ((cif_t ⟨(in_pow (by omega)).mp h24, Int32.not_lt.mp h35, (hfl.resolve_right (fun t => h92 t.1)).2⟩).trans (cif_t (Classical.not_not.mp h110)))), (by rfl), (by exact hG)⟩) (Nat.le_of_ble_eq_true rfl) (Nat.le_of_ble_eq_true rfl) dX7_floor_130
                              · exact absurd h117 (by decide)
                    · skip
                      refine lv_iconst (v := 1) hx hb dX7_floor_95 (by decide) ?_
                      refine lv_goto (tgt := 100) hx hb dX7_floor_96 (by decide) ?_
                      refine lv_iconst (v := 2) hx hb dX7_floor_100 (by decide) ?_
                      refine k_X7_isThrown hC hS hG (by first | exact Or.inl rfl | exact Or.inr rfl) ml_X7_94 ⟨Nat.le_of_ble_eq_true rfl, Nat.le_of_ble_eq_true rfl⟩ hl.1 (Nat.le_of_ble_eq_true rfl) dX7_floor_101 ⟨Nat.le_of_ble_eq_true rfl, Nat.le_of_ble_eq_true rfl⟩ (fun h101_0 H locs hG hS => ?_) (fun h101_0 H locs hG hS => ?_)
                      · skip
                        refine lv_if_ne (tgt := 120) hx hb dX7_floor_104 (by decide) (fun h104 => ?_) (fun h104 => ?_)
                        · skip
                          refine lv_iconst (v := 0) hx hb dX7_floor_120 (by decide) ?_
                          refine lv_goto (tgt := 130) hx hb dX7_floor_121 (by decide) ?_
                          exact R_I hC hS hr hlk rfl (by first | exact Or.inr ⟨2, (by simp only [cd_floor]; exact (cif_t (Classical.not_not.mp h2)).trans (cif_f (fun z => by first | exact h24 ((in_pow (by omega)).mpr z.1) | exact absurd h35 (Int32.not_lt.mpr z.2.1) | exact (hfl.resolve_left (fun t => absurd (t.1.symm.trans h92) (by decide))).2 z.2.2))), (by decide), hG⟩ | exact Or.inr ⟨3, (by simp only [cd_floor]; exact (cif_t (Classical.not_not.mp h2)).trans ((cif_t ⟨(in_pow (by omega)).mp h24, Int32.not_lt.mp h35, (hfl.resolve_right (fun t => h92 t.1)).2⟩).trans (cif_f h110))), (by decide), hG⟩ | exact Or.inl ⟨(by simp only [cd_floor]; exact (cif_t (Classical.not_not.mp h2)).trans ((cif_t ⟨(in_pow (by omega)).mp h24, Int32.not_lt.mp h35, (hfl.resolve_right (fun t => h92 t.1)).2⟩).trans (cif_t (Classical.not_not.mp h110)))), (by rfl), (by exact hG)⟩) (Nat.le_of_ble_eq_true rfl) (Nat.le_of_ble_eq_true rfl) dX7_floor_130
                        · exact absurd h104 (by decide)
                      · skip
                        exact absurd h101_0 (by decide)
                  · skip
                    refine o_iload_n hx hb dX7_floor_56 hl rfl ?_
                    refine o_iload_n hx hb dX7_floor_57 hl rfl ?_
                    refine o_iload hx hb dX7_floor_58 hl rfl ?_
                    refine lv_ishr hx hb dX7_floor_60 ?_
                    refine lv_iconst (v := 1) hx hb dX7_floor_61 (by decide) ?_
                    refine lv_iand hx hb dX7_floor_62 ?_
                    refine lv_if_eq (tgt := 77) hx hb dX7_floor_63 (by decide) (fun h63 => ?_) (fun h63 => ?_)
                    · skip
                      refine lv_iconst (v := 1) hx hb dX7_floor_77 (by decide) ?_
                      refine lv_goto (tgt := 82) hx hb dX7_floor_78 (by decide) ?_
                      refine lv_iand hx hb dX7_floor_82 ?_
                      refine o_istore_n hx hb dX7_floor_83 hl (by decide) rfl (fun ls hl => ?_)
                      refine o_iinc1 hx hb dX7_floor_84 hl rfl (by decide) rfl (fun ls hl => ?_)
                      refine lv_goto (tgt := 47) hx hb dX7_floor_87 (by decide) ?_
                      exact ih47 (w + 1) (by omega) ls (by rw [show flR T y x 1 (w + 1) = flR T y x 1 w &&& cif (bitP y (nI w) → T 5 w 0 = x) 1 0 from rfl]; first | (rw [cif_t (by first | exact fun z => absurd ((bit_shr (by omega)).mpr z) (b_low0.mp h63) | exact fun _ => h74)]; exact hl) | (rw [cif_f (fun z => h74 (z ((bit_shr (by omega)).mp (Classical.byContradiction (fun t => h63 (b_low0.mpr t))))))]; exact hl))
                    · skip
                      refine o_aload_n hx hb dX7_floor_66 hl rfl ?_
                      refine g_get hC hG us_X7 rfl 0 (by decide) fl_X7_9 V_model rfl dX7_floor_67 ?_
                      refine o_iload hx hb dX7_floor_70 hl rfl ?_
                      refine g_iald hC hG V_m0 _ rfl (by omega) (by omega) dX7_floor_72 ?_
                      refine o_iload_n hx hb dX7_floor_73 hl rfl ?_
                      refine lv_icmp_ne (tgt := 81) hx hb dX7_floor_74 (by decide) (fun h74 => ?_) (fun h74 => ?_)
                      · skip
                        refine lv_iconst (v := 0) hx hb dX7_floor_81 (by decide) ?_
                        refine lv_iand hx hb dX7_floor_82 ?_
                        refine o_istore_n hx hb dX7_floor_83 hl (by decide) rfl (fun ls hl => ?_)
                        refine o_iinc1 hx hb dX7_floor_84 hl rfl (by decide) rfl (fun ls hl => ?_)
                        refine lv_goto (tgt := 47) hx hb dX7_floor_87 (by decide) ?_
                        exact ih47 (w + 1) (by omega) ls (by rw [show flR T y x 1 (w + 1) = flR T y x 1 w &&& cif (bitP y (nI w) → T 5 w 0 = x) 1 0 from rfl]; first | (rw [cif_t (by first | exact fun z => absurd ((bit_shr (by omega)).mpr z) (b_low0.mp h63) | exact fun _ => h74)]; exact hl) | (rw [cif_f (fun z => h74 (z ((bit_shr (by omega)).mp (Classical.byContradiction (fun t => h63 (b_low0.mpr t))))))]; exact hl))
                      · skip
                        refine lv_iconst (v := 1) hx hb dX7_floor_77 (by decide) ?_
                        refine lv_goto (tgt := 82) hx hb dX7_floor_78 (by decide) ?_
                        refine lv_iand hx hb dX7_floor_82 ?_
                        refine o_istore_n hx hb dX7_floor_83 hl (by decide) rfl (fun ls hl => ?_)
                        refine o_iinc1 hx hb dX7_floor_84 hl rfl (by decide) rfl (fun ls hl => ?_)
                        refine lv_goto (tgt := 47) hx hb dX7_floor_87 (by decide) ?_
                        exact ih47 (w + 1) (by omega) ls (by rw [show flR T y x 1 (w + 1) = flR T y x 1 w &&& cif (bitP y (nI w) → T 5 w 0 = x) 1 0 from rfl]; first | (rw [cif_t (by first | exact fun z => absurd ((bit_shr (by omega)).mpr z) (b_low0.mp h63) | exact fun _ => h74)]; exact hl) | (rw [cif_f (fun z => h74 (z ((bit_shr (by omega)).mp (Classical.byContradiction (fun t => h63 (b_low0.mpr t))))))]; exact hl))
              exact loop47 (k 0 + 1) 0 (by omega) ls hl
        · skip
          refine lv_if_eq (tgt := 42) hx hb dX7_floor_27 (by decide) (fun h27 => ?_) (fun h27 => ?_)
          · skip
            refine lv_iconst (v := 0) hx hb dX7_floor_42 (by decide) ?_
            refine o_istore_n hx hb dX7_floor_43 hl (by decide) rfl (fun ls hl => ?_)
            refine lv_iconst (v := 0) hx hb dX7_floor_44 (by decide) ?_
            refine o_istore hx hb dX7_floor_45 hl (by decide) rfl (fun ls hl => ?_)
            have loop47 : ∀ (q9 : Nat) (w : Nat), w ≤ k 0 ∧ k 0 < w + q9 → ∀ ls : Array Slot, lo ls 5 [some (.ref (ad 13 0 0)), some (.int x), some (.int y), some (.int (flR T y x 0 w)), some (.int (nI w))] → W p l e ({ frames := 2, cells := 0, slots := 0, locals := 46 } : Room) s m [.ref (ad 13 0 0), .int x, .int y].toArray below meth c H locs 0 0 (MQ below (oI B (fun r H => (cd_floor T k x y = 0 ∧ r = (ptF T y (k 0)) ∧ GW D B ad (Vw cy de ad S n (puF T x y (k 0)) (k) 0 X) H) ∨ (∃ (t9 : Nat), cd_floor T k x y = t9 ∧ ¬ t9 = 0 ∧ GW D B ad (Vw cy de ad S n T k (nI t9) X) H))) [.ref (ad 13 0 0), .int x, .int y].toArray s 0 0 (AB B)) (F0 m 47 ls []) := by
              intro q9
              induction q9 with
              | zero => intro w hq9; exact absurd hq9 (by omega)
              | succ q9 ih47 =>
                intro w hq9   ls hl
                refine o_iload hx hb dX7_floor_47 hl rfl ?_
                refine o_aload_n hx hb dX7_floor_49 hl rfl ?_
                refine g_get hC hG us_X7 rfl 20 (by decide) fl_X7_80 V_model rfl dX7_floor_50 ?_
                refine n_icmp_ge (tgt := 90) hx hb w (k 0) rfl rfl (by omega) (by omega) dX7_floor_53 (by decide) (fun h53 => ?_) (fun h53 => ?_)
                · skip
                  rw [flR_0] at hl
                  refine o_aload_n hx hb dX7_floor_90 hl rfl ?_
                  refine o_iload_n hx hb dX7_floor_91 hl rfl ?_
                  refine lv_if_ne (tgt := 99) hx hb dX7_floor_92 (by decide) (fun h92 => ?_) (fun h92 => ?_)
                  · exact absurd h92 (by decide)
                  · skip
                    refine lv_iconst (v := 1) hx hb dX7_floor_95 (by decide) ?_
                    refine lv_goto (tgt := 100) hx hb dX7_floor_96 (by decide) ?_
                    refine lv_iconst (v := 2) hx hb dX7_floor_100 (by decide) ?_
                    refine k_X7_isThrown hC hS hG (by first | exact Or.inl rfl | exact Or.inr rfl) ml_X7_94 ⟨Nat.le_of_ble_eq_true rfl, Nat.le_of_ble_eq_true rfl⟩ hl.1 (Nat.le_of_ble_eq_true rfl) dX7_floor_101 ⟨Nat.le_of_ble_eq_true rfl, Nat.le_of_ble_eq_true rfl⟩ (fun h101_0 H locs hG hS => ?_) (fun h101_0 H locs hG hS => ?_)
                    · skip
                      refine lv_if_ne (tgt := 120) hx hb dX7_floor_104 (by decide) (fun h104 => ?_) (fun h104 => ?_)
                      · skip
                        refine lv_iconst (v := 0) hx hb dX7_floor_120 (by decide) ?_
                        refine lv_goto (tgt := 130) hx hb dX7_floor_121 (by decide) ?_
                        exact R_I hC hS hr hlk rfl (by first | exact Or.inr ⟨2, (by simp only [cd_floor]; exact (cif_t (Classical.not_not.mp h2)).trans (cif_f (fun z => by first | exact h24 ((in_pow (by omega)).mpr z.1) | exact absurd h35 (Int32.not_lt.mpr z.2.1) | exact (hfl.resolve_left (fun t => absurd (t.1.symm.trans h92) (by decide))).2 z.2.2))), (by decide), hG⟩ | exact Or.inr ⟨3, (by simp only [cd_floor]; exact (cif_t (Classical.not_not.mp h2)).trans ((cif_t ⟨(in_pow (by omega)).mp h24, Int32.not_lt.mp h35, (hfl.resolve_right (fun t => h92 t.1)).2⟩).trans (cif_f h110))), (by decide), hG⟩ | exact Or.inl ⟨(by simp only [cd_floor]; exact (cif_t (Classical.not_not.mp h2)).trans ((cif_t ⟨(in_pow (by omega)).mp h24, Int32.not_lt.mp h35, (hfl.resolve_right (fun t => h92 t.1)).2⟩).trans (cif_t (Classical.not_not.mp h110)))), (by rfl), (by exact hG)⟩) (Nat.le_of_ble_eq_true rfl) (Nat.le_of_ble_eq_true rfl) dX7_floor_130
                      · exact absurd h104 (by decide)
                    · skip
                      exact absurd h101_0 (by decide)
                · skip
                  refine o_iload_n hx hb dX7_floor_56 hl rfl ?_
                  refine o_iload_n hx hb dX7_floor_57 hl rfl ?_
                  refine o_iload hx hb dX7_floor_58 hl rfl ?_
                  refine lv_ishr hx hb dX7_floor_60 ?_
                  refine lv_iconst (v := 1) hx hb dX7_floor_61 (by decide) ?_
                  refine lv_iand hx hb dX7_floor_62 ?_
                  refine lv_if_eq (tgt := 77) hx hb dX7_floor_63 (by decide) (fun h63 => ?_) (fun h63 => ?_)
                  · skip
                    refine lv_iconst (v := 1) hx hb dX7_floor_77 (by decide) ?_
                    refine lv_goto (tgt := 82) hx hb dX7_floor_78 (by decide) ?_
                    refine lv_iand hx hb dX7_floor_82 ?_
                    refine o_istore_n hx hb dX7_floor_83 hl (by decide) rfl (fun ls hl => ?_)
                    refine o_iinc1 hx hb dX7_floor_84 hl rfl (by decide) rfl (fun ls hl => ?_)
                    refine lv_goto (tgt := 47) hx hb dX7_floor_87 (by decide) ?_
                    exact ih47 (w + 1) (by omega) ls (by rw [show flR T y x 0 (w + 1) = flR T y x 0 w &&& cif (bitP y (nI w) → T 5 w 0 = x) 1 0 from rfl]; first | (rw [cif_t (by first | exact fun z => absurd ((bit_shr (by omega)).mpr z) (b_low0.mp h63) | exact fun _ => h74)]; exact hl) | (rw [cif_f (fun z => h74 (z ((bit_shr (by omega)).mp (Classical.byContradiction (fun t => h63 (b_low0.mpr t))))))]; exact hl))
                  · skip
                    refine o_aload_n hx hb dX7_floor_66 hl rfl ?_
                    refine g_get hC hG us_X7 rfl 0 (by decide) fl_X7_9 V_model rfl dX7_floor_67 ?_
                    refine o_iload hx hb dX7_floor_70 hl rfl ?_
                    refine g_iald hC hG V_m0 _ rfl (by omega) (by omega) dX7_floor_72 ?_
                    refine o_iload_n hx hb dX7_floor_73 hl rfl ?_
                    refine lv_icmp_ne (tgt := 81) hx hb dX7_floor_74 (by decide) (fun h74 => ?_) (fun h74 => ?_)
                    · skip
                      refine lv_iconst (v := 0) hx hb dX7_floor_81 (by decide) ?_
                      refine lv_iand hx hb dX7_floor_82 ?_
                      refine o_istore_n hx hb dX7_floor_83 hl (by decide) rfl (fun ls hl => ?_)
                      refine o_iinc1 hx hb dX7_floor_84 hl rfl (by decide) rfl (fun ls hl => ?_)
                      refine lv_goto (tgt := 47) hx hb dX7_floor_87 (by decide) ?_
                      exact ih47 (w + 1) (by omega) ls (by rw [show flR T y x 0 (w + 1) = flR T y x 0 w &&& cif (bitP y (nI w) → T 5 w 0 = x) 1 0 from rfl]; first | (rw [cif_t (by first | exact fun z => absurd ((bit_shr (by omega)).mpr z) (b_low0.mp h63) | exact fun _ => h74)]; exact hl) | (rw [cif_f (fun z => h74 (z ((bit_shr (by omega)).mp (Classical.byContradiction (fun t => h63 (b_low0.mpr t))))))]; exact hl))
                    · skip
                      refine lv_iconst (v := 1) hx hb dX7_floor_77 (by decide) ?_
                      refine lv_goto (tgt := 82) hx hb dX7_floor_78 (by decide) ?_
                      refine lv_iand hx hb dX7_floor_82 ?_
                      refine o_istore_n hx hb dX7_floor_83 hl (by decide) rfl (fun ls hl => ?_)
                      refine o_iinc1 hx hb dX7_floor_84 hl rfl (by decide) rfl (fun ls hl => ?_)
                      refine lv_goto (tgt := 47) hx hb dX7_floor_87 (by decide) ?_
                      exact ih47 (w + 1) (by omega) ls (by rw [show flR T y x 0 (w + 1) = flR T y x 0 w &&& cif (bitP y (nI w) → T 5 w 0 = x) 1 0 from rfl]; first | (rw [cif_t (by first | exact fun z => absurd ((bit_shr (by omega)).mpr z) (b_low0.mp h63) | exact fun _ => h74)]; exact hl) | (rw [cif_f (fun z => h74 (z ((bit_shr (by omega)).mp (Classical.byContradiction (fun t => h63 (b_low0.mpr t))))))]; exact hl))
            exact loop47 (k 0 + 1) 0 (by omega) ls hl
          · exact absurd h27 (by decide)
      · exact absurd h9 (by decide)
theorem k_X7_floor {p : Program} {l : Launch} {e : Env} {R : Room} {s : State} {m : MethodId} {args : Array Value} {below : List Frame} {meth : Method} {c : Code} {H : Heap} {locs : List Loc} {cells slots : Nat} {Q : State → Prop} {cc : ByteArray} {pc nL : Nat} {ls : Array Slot} {rest : List Value} {own : String} {D : va_G} {cy : Nat → ClassId} {sa : Nat → Nat} {de B : Nat} {ad : Ad} {S : St} {n : Nat → Nat} {T : St} {k : Nat → Nat} {th : Int32} {X : Rl} {x y : Int32}  (hC : Cx p m c cc nL s args own D cy sa de B) (hS : va_S (AB B) s.heap H locs) (hG : GW D B ad (Vw cy de ad S n T k th X) H) (h0 : Inv T k)  {idx : Nat} (wl : Cond.methodLink own idx yX7_floor ∈ G0) (hR : 2 + 1 ≤ R.frames ∧ 8 + (5 + 11) + 46 ≤ R.locals) (hsz : ls.size = nL) (hst : (rest.map fun v => v.category).sum ≤ 8) (hdg : decode cc pc = .ok (.invokevirtual idx, 3)) (hcs : cells + 0 ≤ R.cells ∧ slots + 0 ≤ R.slots) (k0 : (cd_floor T k x y = 0) → ∀ (H1 : Heap) (locs1 : List Loc), GW D B ad (Vw cy de ad S n (puF T x y (k 0)) (k) 0 X) H1 → va_S (AB B) s.heap H1 locs1 → W p l e R s m args below meth c H1 locs1 cells slots Q (F0 m (pc + 3) ls (.int (ptF T y (k 0)) :: rest))) (k1 : ∀ (r9 : Int32), ∀ (t9 : Nat), (cd_floor T k x y = t9) → (¬ t9 = 0) → ∀ (H1 : Heap) (locs1 : List Loc), GW D B ad (Vw cy de ad S n T k (nI t9) X) H1 → va_S (AB B) s.heap H1 locs1 → W p l e R s m args below meth c H1 locs1 cells slots Q (F0 m (pc + 3) ls (.int r9 :: rest))) : W p l e R s m args below meth c H locs cells slots Q (F0 m pc ls (.int y :: .int x :: .ref (ad 13 0 0) :: rest)) :=
  va_calli (rV hC hS hG h0 (As := [.int x, .int y]) (c_X7_floor l) ⟨rfl, rfl⟩ wl im_X7_floor sl_X7_X7_floor in_X7 cd_X7_floor (n := 2) (by decide +kernel) hR (recv hC hG (q := (RX7, TX7, 26)) rfl V_model) rfl hsz hst rfl hdg hcs) hS (fun _ _ h => h) (fun _ h => h) (fun r u t H1 locs1 ht _ hr hB _ _ hS1 => by
      subst hr
      have hB9 := hB; try dsimp only at hB9
      rw [ht] at hB9
      rcases hB9 with ⟨q0, rfl, hG1⟩ | ⟨t9, q0, q1, hG1⟩
      · exact k0 q0 _ _ hG1 hS1
      · exact k1 r t9 q0 q1 _ _ hG1 hS1)
set_option maxHeartbeats 4000000 in
set_option maxRecDepth 100000 in
theorem c_X7_swap (l : Launch) {D : va_G} {cy : Nat → ClassId} {sa : Nat → Nat} {de B : Nat} {ad : Ad} {S : St} {n : Nat → Nat} {T : St} {k : Nat → Nat} {th : Int32} {X : Rl} {x y z : Int32}  : Met l yX7_swap (Cond.code yX7_swap cX7_swap 7 (Option.some Jvm.ClassFile.FieldType.int) :: G0) ({ frames := 2, cells := 0, slots := 0, locals := 46 } : Room) (va_Pc [.ref (ad 13 0 0), .int x, .int y, .int z] (PW D cy sa de B ad (Vw cy de ad S n T k th X) (Inv T k))) (oI B (fun r H => (cd_swap T k x y z = 0 ∧ r = (swp T k x (ci y) (ci z)) ∧ GW D B ad (Vw cy de ad S n (up_swap T y z) (k) 0 X) H) ∨ (∃ (t9 : Nat), cd_swap T k x y z = t9 ∧ ¬ t9 = 0 ∧ GW D B ad (Vw cy de ad S n T k (nI t9) X) H))) 0 0 (AB B) := by
  refine E_met (own := RX7) rfl rfl (Nat.le_of_ble_eq_true rfl) ?_
  intro p e s m below meth c hC hr hlk hnm hG h0 ls hl
  have hx := hC.x
  have hb := hC.b
  have hS : va_S (AB B) s.heap s.heap [] := va_S.rf
  have hl : lo ls 7 [some (.ref (ad 13 0 0)), some (.int x), some (.int y), some (.int z), none, none, none] := lo_of hl
  have hI := h0
  obtain ⟨hCI, hD0, hD1, hD2, hB01, hF30, hK8, hMK, hU1, hU2, hS10, hEO, hCF, hFT, hME, hYR, hEK, hLA⟩ := h0
  obtain ⟨hW, hNE, hCH, hBL⟩ := hCI
  have hW9 := hW
  obtain ⟨hB0, hB1, hB2, hB3, hB4, hB5, hB6, hB7, hKI, hEI, hKY⟩ := hW9
  have hMB : MB k := ⟨hB0, hB1, hB2, hB3⟩
  have hKYm : KYm T k := hKY
  refine o_aload_n hx hb dX7_swap_0 hl rfl ?_
  refine o_iload_n hx hb dX7_swap_1 hl rfl ?_
  refine k_X7_isNoLand hC hS hG trivial ml_X7_90 ⟨Nat.le_of_ble_eq_true rfl, Nat.le_of_ble_eq_true rfl⟩ hl.1 (Nat.le_of_ble_eq_true rfl) dX7_swap_2 ⟨Nat.le_of_ble_eq_true rfl, Nat.le_of_ble_eq_true rfl⟩ (fun h2 => ?_) (fun h2 => ?_)
  · skip
    refine lv_if_ne (tgt := 24) hx hb dX7_swap_5 (by decide) (fun h5 => ?_) (fun h5 => ?_)
    · skip
      refine lv_iconst (v := 1) hx hb dX7_swap_24 (by decide) ?_
      refine lv_goto (tgt := 29) hx hb dX7_swap_25 (by decide) ?_
      refine lv_iconst (v := 1) hx hb dX7_swap_29 (by decide) ?_
      refine k_X7_isThrown hC hS hG (by first | exact Or.inl rfl | exact Or.inr rfl) ml_X7_94 ⟨Nat.le_of_ble_eq_true rfl, Nat.le_of_ble_eq_true rfl⟩ hl.1 (Nat.le_of_ble_eq_true rfl) dX7_swap_30 ⟨Nat.le_of_ble_eq_true rfl, Nat.le_of_ble_eq_true rfl⟩ (fun h30_0 H locs hG hS => ?_) (fun h30_0 H locs hG hS => ?_)
      · skip
        refine lv_if_eq (tgt := 38) hx hb dX7_swap_33 (by decide) (fun h33 => ?_) (fun h33 => ?_)
        · exact absurd h33 (by decide)
        · skip
          refine lv_iconst (v := 0) hx hb dX7_swap_36 (by decide) ?_
          exact R_I hC hS hr hlk rfl (Or.inr ⟨1, (by simp only [cd_swap]; exact cif_f (fun v => by first | exact h2 v.1 | exact h10 v.2.1 | exact h18 v.2.2)), (by decide), hG⟩) (Nat.le_of_ble_eq_true rfl) (Nat.le_of_ble_eq_true rfl) dX7_swap_37
      · skip
        exact absurd h30_0 (by decide)
    · exact absurd h5 (by decide)
  · skip
    refine lv_if_ne (tgt := 24) hx hb dX7_swap_5 (by decide) (fun h5 => ?_) (fun h5 => ?_)
    · exact absurd h5 (by decide)
    · skip
      refine o_aload_n hx hb dX7_swap_8 hl rfl ?_
      refine o_iload_n hx hb dX7_swap_9 hl rfl ?_
      refine k_X7_isNoAthlete hC hS hG hMB ml_X7_98 ⟨Nat.le_of_ble_eq_true rfl, Nat.le_of_ble_eq_true rfl⟩ hl.1 (Nat.le_of_ble_eq_true rfl) dX7_swap_10 ⟨Nat.le_of_ble_eq_true rfl, Nat.le_of_ble_eq_true rfl⟩ (fun h10 => ?_) (fun h10 => ?_)
      · skip
        refine lv_if_ne (tgt := 24) hx hb dX7_swap_13 (by decide) (fun h13 => ?_) (fun h13 => ?_)
        · skip
          refine lv_iconst (v := 1) hx hb dX7_swap_24 (by decide) ?_
          refine lv_goto (tgt := 29) hx hb dX7_swap_25 (by decide) ?_
          refine lv_iconst (v := 1) hx hb dX7_swap_29 (by decide) ?_
          refine k_X7_isThrown hC hS hG (by first | exact Or.inl rfl | exact Or.inr rfl) ml_X7_94 ⟨Nat.le_of_ble_eq_true rfl, Nat.le_of_ble_eq_true rfl⟩ hl.1 (Nat.le_of_ble_eq_true rfl) dX7_swap_30 ⟨Nat.le_of_ble_eq_true rfl, Nat.le_of_ble_eq_true rfl⟩ (fun h30_0 H locs hG hS => ?_) (fun h30_0 H locs hG hS => ?_)
          · skip
            refine lv_if_eq (tgt := 38) hx hb dX7_swap_33 (by decide) (fun h33 => ?_) (fun h33 => ?_)
            · exact absurd h33 (by decide)
            · skip
              refine lv_iconst (v := 0) hx hb dX7_swap_36 (by decide) ?_
              exact R_I hC hS hr hlk rfl (Or.inr ⟨1, (by simp only [cd_swap]; exact cif_f (fun v => by first | exact h2 v.1 | exact h10 v.2.1 | exact h18 v.2.2)), (by decide), hG⟩) (Nat.le_of_ble_eq_true rfl) (Nat.le_of_ble_eq_true rfl) dX7_swap_37
          · skip
            exact absurd h30_0 (by decide)
        · exact absurd h13 (by decide)
      · skip
        refine lv_if_ne (tgt := 24) hx hb dX7_swap_13 (by decide) (fun h13 => ?_) (fun h13 => ?_)
        · exact absurd h13 (by decide)
        · skip
          refine o_aload_n hx hb dX7_swap_16 hl rfl ?_
          refine o_iload_n hx hb dX7_swap_17 hl rfl ?_
          refine k_X7_isNoAthlete hC hS hG hMB ml_X7_98 ⟨Nat.le_of_ble_eq_true rfl, Nat.le_of_ble_eq_true rfl⟩ hl.1 (Nat.le_of_ble_eq_true rfl) dX7_swap_18 ⟨Nat.le_of_ble_eq_true rfl, Nat.le_of_ble_eq_true rfl⟩ (fun h18 => ?_) (fun h18 => ?_)
          · skip
            refine lv_if_eq (tgt := 28) hx hb dX7_swap_21 (by decide) (fun h21 => ?_) (fun h21 => ?_)
            · exact absurd h21 (by decide)
            · skip
              refine lv_iconst (v := 1) hx hb dX7_swap_24 (by decide) ?_
              refine lv_goto (tgt := 29) hx hb dX7_swap_25 (by decide) ?_
              refine lv_iconst (v := 1) hx hb dX7_swap_29 (by decide) ?_
              refine k_X7_isThrown hC hS hG (by first | exact Or.inl rfl | exact Or.inr rfl) ml_X7_94 ⟨Nat.le_of_ble_eq_true rfl, Nat.le_of_ble_eq_true rfl⟩ hl.1 (Nat.le_of_ble_eq_true rfl) dX7_swap_30 ⟨Nat.le_of_ble_eq_true rfl, Nat.le_of_ble_eq_true rfl⟩ (fun h30_0 H locs hG hS => ?_) (fun h30_0 H locs hG hS => ?_)
              · skip
                refine lv_if_eq (tgt := 38) hx hb dX7_swap_33 (by decide) (fun h33 => ?_) (fun h33 => ?_)
                · exact absurd h33 (by decide)
                · skip
                  refine lv_iconst (v := 0) hx hb dX7_swap_36 (by decide) ?_
                  exact R_I hC hS hr hlk rfl (Or.inr ⟨1, (by simp only [cd_swap]; exact cif_f (fun v => by first | exact h2 v.1 | exact h10 v.2.1 | exact h18 v.2.2)), (by decide), hG⟩) (Nat.le_of_ble_eq_true rfl) (Nat.le_of_ble_eq_true rfl) dX7_swap_37
              · skip
                exact absurd h30_0 (by decide)
          · skip
            refine lv_if_eq (tgt := 28) hx hb dX7_swap_21 (by decide) (fun h21 => ?_) (fun h21 => ?_)
            · skip
              refine lv_iconst (v := 0) hx hb dX7_swap_28 (by decide) ?_
              refine lv_iconst (v := 1) hx hb dX7_swap_29 (by decide) ?_
              refine k_X7_isThrown hC hS hG (by first | exact Or.inl rfl | exact Or.inr rfl) ml_X7_94 ⟨Nat.le_of_ble_eq_true rfl, Nat.le_of_ble_eq_true rfl⟩ hl.1 (Nat.le_of_ble_eq_true rfl) dX7_swap_30 ⟨Nat.le_of_ble_eq_true rfl, Nat.le_of_ble_eq_true rfl⟩ (fun h30_0 H locs hG hS => ?_) (fun h30_0 H locs hG hS => ?_)
              · skip
                exact absurd h30_0 (by decide)
              · skip
                refine lv_if_eq (tgt := 38) hx hb dX7_swap_33 (by decide) (fun h33 => ?_) (fun h33 => ?_)
                · skip
                  obtain ⟨a10, ha10, hxa10⟩ := Classical.not_not.mp h10
                  subst hxa10
                  have za10 : ci (nI a10) = a10 := nI_clamp (by omega)
                  obtain ⟨a18, ha18, hxa18⟩ := Classical.not_not.mp h18
                  subst hxa18
                  have za18 : ci (nI a18) = a18 := nI_clamp (by omega)
                  have ho := (bit_shr (x := biF T x (k 0)) (q := a10) (by omega)).trans ((bit_iff (by omega)).trans (biF_bt (by omega) (k 0) (by omega)))
                  have hi := (bit_shr (x := biF T x (k 0)) (q := a18) (by omega)).trans ((bit_iff (by omega)).trans (biF_bt (by omega) (k 0) (by omega)))
                  refine o_aload_n hx hb dX7_swap_38 hl rfl ?_
                  refine o_iload_n hx hb dX7_swap_39 hl rfl ?_
                  refine k_X7_floorOf hC hS hG hMB ml_X7_181 ⟨Nat.le_of_ble_eq_true rfl, Nat.le_of_ble_eq_true rfl⟩ hl.1 (Nat.le_of_ble_eq_true rfl) dX7_swap_40 ⟨Nat.le_of_ble_eq_true rfl, Nat.le_of_ble_eq_true rfl⟩ ?_
                  refine o_istore hx hb dX7_swap_43 hl (by decide) rfl (fun ls hl => ?_)
                  refine o_iload hx hb dX7_swap_45 hl rfl ?_
                  refine o_iload_n hx hb dX7_swap_47 hl rfl ?_
                  refine lv_ishr hx hb dX7_swap_48 ?_
                  refine lv_iconst (v := 1) hx hb dX7_swap_49 (by decide) ?_
                  refine lv_iand hx hb dX7_swap_50 ?_
                  refine lv_iconst (v := 1) hx hb dX7_swap_51 (by decide) ?_
                  refine lv_icmp_ne (tgt := 78) hx hb dX7_swap_52 (by decide) (fun h52 => ?_) (fun h52 => ?_)
                  · skip
                    refine lv_iconst (v := 0) hx hb dX7_swap_78 (by decide) ?_
                    refine o_istore hx hb dX7_swap_79 hl (by decide) rfl (fun ls hl => ?_)
                    refine o_iload hx hb dX7_swap_81 hl rfl ?_
                    refine lv_iconst (v := 1) hx hb dX7_swap_83 (by decide) ?_
                    refine o_iload_n hx hb dX7_swap_84 hl rfl ?_
                    refine lv_ishl hx hb dX7_swap_85 ?_
                    refine lv_iconst (v := (-1)) hx hb dX7_swap_86 (by decide) ?_
                    refine lv_ixor hx hb dX7_swap_87 ?_
                    refine lv_iand hx hb dX7_swap_88 ?_
                    refine lv_iconst (v := 1) hx hb dX7_swap_89 (by decide) ?_
                    refine o_iload_n hx hb dX7_swap_90 hl rfl ?_
                    refine lv_ishl hx hb dX7_swap_91 ?_
                    refine lv_ior hx hb dX7_swap_92 ?_
                    refine o_istore hx hb dX7_swap_93 hl (by decide) rfl (fun ls hl => ?_)
                    refine o_aload_n hx hb dX7_swap_95 hl rfl ?_
                    refine o_iload hx hb dX7_swap_96 hl rfl ?_
                    refine lv_if_ne (tgt := 105) hx hb dX7_swap_98 (by decide) (fun h98 => ?_) (fun h98 => ?_)
                    · exact absurd h98 (by decide)
                    · skip
                      refine lv_iconst (v := 1) hx hb dX7_swap_101 (by decide) ?_
                      refine lv_goto (tgt := 106) hx hb dX7_swap_102 (by decide) ?_
                      refine lv_iconst (v := 2) hx hb dX7_swap_106 (by decide) ?_
                      refine k_X7_isThrown hC hS hG (by first | exact Or.inl rfl | exact Or.inr rfl) ml_X7_94 ⟨Nat.le_of_ble_eq_true rfl, Nat.le_of_ble_eq_true rfl⟩ hl.1 (Nat.le_of_ble_eq_true rfl) dX7_swap_107 ⟨Nat.le_of_ble_eq_true rfl, Nat.le_of_ble_eq_true rfl⟩ (fun h107_0 H locs hG hS => ?_) (fun h107_0 H locs hG hS => ?_)
                      · skip
                        refine lv_if_ne (tgt := 127) hx hb dX7_swap_110 (by decide) (fun h110 => ?_) (fun h110 => ?_)
                        · skip
                          refine lv_iconst (v := 0) hx hb dX7_swap_127 (by decide) ?_
                          refine lv_goto (tgt := 138) hx hb dX7_swap_128 (by decide) ?_
                          exact R_I hC hS hr hlk rfl (by first | exact Or.inr ⟨2, (by simp only [cd_swap, za10, za18]; exact (cif_t ⟨Classical.not_not.mp h2, ix_nI ha10, ix_nI ha18⟩).trans (cif_f (fun v => by first | exact h52 (ho.mpr ⟨ha10, v.1⟩) | exact h61 (b_low0.mpr (fun t => (hi.mp t).2.2 v.2.2)) | exact h71 v.2.1))), (by decide), hG⟩ | exact Or.inr ⟨3, (by simp only [cd_swap, za10, za18]; exact (cif_t ⟨Classical.not_not.mp h2, ix_nI ha10, ix_nI ha18⟩).trans ((cif_t ⟨⟨ho3.2.1, ho3.2.2⟩, h71, hi3⟩).trans (cif_f (fun v => h117 (TM.mpr v))))), (by decide), hG⟩ | exact Or.inl ⟨(by simp only [cd_swap, za10, za18]; exact (cif_t ⟨Classical.not_not.mp h2, ix_nI ha10, ix_nI ha18⟩).trans ((cif_t ⟨⟨ho3.2.1, ho3.2.2⟩, h71, hi3⟩).trans (cif_t (TM.mp (Classical.not_not.mp h117))))), (by rw [za10, za18]; exact PT), (by simp only [up_swap, za10, za18]; rw [← PU]; exact hG)⟩) (Nat.le_of_ble_eq_true rfl) (Nat.le_of_ble_eq_true rfl) dX7_swap_138
                        · exact absurd h110 (by decide)
                      · skip
                        exact absurd h107_0 (by decide)
                  · skip
                    refine o_iload hx hb dX7_swap_55 hl rfl ?_
                    refine o_iload_n hx hb dX7_swap_57 hl rfl ?_
                    refine lv_ishr hx hb dX7_swap_58 ?_
                    refine lv_iconst (v := 1) hx hb dX7_swap_59 (by decide) ?_
                    refine lv_iand hx hb dX7_swap_60 ?_
                    refine lv_if_ne (tgt := 78) hx hb dX7_swap_61 (by decide) (fun h61 => ?_) (fun h61 => ?_)
                    · skip
                      refine lv_iconst (v := 0) hx hb dX7_swap_78 (by decide) ?_
                      refine o_istore hx hb dX7_swap_79 hl (by decide) rfl (fun ls hl => ?_)
                      refine o_iload hx hb dX7_swap_81 hl rfl ?_
                      refine lv_iconst (v := 1) hx hb dX7_swap_83 (by decide) ?_
                      refine o_iload_n hx hb dX7_swap_84 hl rfl ?_
                      refine lv_ishl hx hb dX7_swap_85 ?_
                      refine lv_iconst (v := (-1)) hx hb dX7_swap_86 (by decide) ?_
                      refine lv_ixor hx hb dX7_swap_87 ?_
                      refine lv_iand hx hb dX7_swap_88 ?_
                      refine lv_iconst (v := 1) hx hb dX7_swap_89 (by decide) ?_
                      refine o_iload_n hx hb dX7_swap_90 hl rfl ?_
                      refine lv_ishl hx hb dX7_swap_91 ?_
                      refine lv_ior hx hb dX7_swap_92 ?_
                      refine o_istore hx hb dX7_swap_93 hl (by decide) rfl (fun ls hl => ?_)
                      refine o_aload_n hx hb dX7_swap_95 hl rfl ?_
                      refine o_iload hx hb dX7_swap_96 hl rfl ?_
                      refine lv_if_ne (tgt := 105) hx hb dX7_swap_98 (by decide) (fun h98 => ?_) (fun h98 => ?_)
                      · exact absurd h98 (by decide)
                      · skip
                        refine lv_iconst (v := 1) hx hb dX7_swap_101 (by decide) ?_
                        refine lv_goto (tgt := 106) hx hb dX7_swap_102 (by decide) ?_
                        refine lv_iconst (v := 2) hx hb dX7_swap_106 (by decide) ?_
                        refine k_X7_isThrown hC hS hG (by first | exact Or.inl rfl | exact Or.inr rfl) ml_X7_94 ⟨Nat.le_of_ble_eq_true rfl, Nat.le_of_ble_eq_true rfl⟩ hl.1 (Nat.le_of_ble_eq_true rfl) dX7_swap_107 ⟨Nat.le_of_ble_eq_true rfl, Nat.le_of_ble_eq_true rfl⟩ (fun h107_0 H locs hG hS => ?_) (fun h107_0 H locs hG hS => ?_)
                        · skip
                          refine lv_if_ne (tgt := 127) hx hb dX7_swap_110 (by decide) (fun h110 => ?_) (fun h110 => ?_)
                          · skip
                            refine lv_iconst (v := 0) hx hb dX7_swap_127 (by decide) ?_
                            refine lv_goto (tgt := 138) hx hb dX7_swap_128 (by decide) ?_
                            exact R_I hC hS hr hlk rfl (by first | exact Or.inr ⟨2, (by simp only [cd_swap, za10, za18]; exact (cif_t ⟨Classical.not_not.mp h2, ix_nI ha10, ix_nI ha18⟩).trans (cif_f (fun v => by first | exact h52 (ho.mpr ⟨ha10, v.1⟩) | exact h61 (b_low0.mpr (fun t => (hi.mp t).2.2 v.2.2)) | exact h71 v.2.1))), (by decide), hG⟩ | exact Or.inr ⟨3, (by simp only [cd_swap, za10, za18]; exact (cif_t ⟨Classical.not_not.mp h2, ix_nI ha10, ix_nI ha18⟩).trans ((cif_t ⟨⟨ho3.2.1, ho3.2.2⟩, h71, hi3⟩).trans (cif_f (fun v => h117 (TM.mpr v))))), (by decide), hG⟩ | exact Or.inl ⟨(by simp only [cd_swap, za10, za18]; exact (cif_t ⟨Classical.not_not.mp h2, ix_nI ha10, ix_nI ha18⟩).trans ((cif_t ⟨⟨ho3.2.1, ho3.2.2⟩, h71, hi3⟩).trans (cif_t (TM.mp (Classical.not_not.mp h117))))), (by rw [za10, za18]; exact PT), (by simp only [up_swap, za10, za18]; rw [← PU]; exact hG)⟩) (Nat.le_of_ble_eq_true rfl) (Nat.le_of_ble_eq_true rfl) dX7_swap_138
                          · exact absurd h110 (by decide)
                        · skip
                          exact absurd h107_0 (by decide)
                    · skip
                      refine o_aload_n hx hb dX7_swap_64 hl rfl ?_
                      refine g_get hC hG us_X7 rfl 0 (by decide) fl_X7_9 V_model rfl dX7_swap_65 ?_
                      refine o_iload_n hx hb dX7_swap_68 hl rfl ?_
                      refine g_iald hC hG V_m0 _ rfl (by omega) (by omega) dX7_swap_69 ?_
                      refine o_iload_n hx hb dX7_swap_70 hl rfl ?_
                      refine lv_icmp_ne (tgt := 78) hx hb dX7_swap_71 (by decide) (fun h71 => ?_) (fun h71 => ?_)
                      · skip
                        refine lv_iconst (v := 0) hx hb dX7_swap_78 (by decide) ?_
                        refine o_istore hx hb dX7_swap_79 hl (by decide) rfl (fun ls hl => ?_)
                        refine o_iload hx hb dX7_swap_81 hl rfl ?_
                        refine lv_iconst (v := 1) hx hb dX7_swap_83 (by decide) ?_
                        refine o_iload_n hx hb dX7_swap_84 hl rfl ?_
                        refine lv_ishl hx hb dX7_swap_85 ?_
                        refine lv_iconst (v := (-1)) hx hb dX7_swap_86 (by decide) ?_
                        refine lv_ixor hx hb dX7_swap_87 ?_
                        refine lv_iand hx hb dX7_swap_88 ?_
                        refine lv_iconst (v := 1) hx hb dX7_swap_89 (by decide) ?_
                        refine o_iload_n hx hb dX7_swap_90 hl rfl ?_
                        refine lv_ishl hx hb dX7_swap_91 ?_
                        refine lv_ior hx hb dX7_swap_92 ?_
                        refine o_istore hx hb dX7_swap_93 hl (by decide) rfl (fun ls hl => ?_)
                        refine o_aload_n hx hb dX7_swap_95 hl rfl ?_
                        refine o_iload hx hb dX7_swap_96 hl rfl ?_
                        refine lv_if_ne (tgt := 105) hx hb dX7_swap_98 (by decide) (fun h98 => ?_) (fun h98 => ?_)
                        · exact absurd h98 (by decide)
                        · skip
                          refine lv_iconst (v := 1) hx hb dX7_swap_101 (by decide) ?_
                          refine lv_goto (tgt := 106) hx hb dX7_swap_102 (by decide) ?_
                          refine lv_iconst (v := 2) hx hb dX7_swap_106 (by decide) ?_
                          refine k_X7_isThrown hC hS hG (by first | exact Or.inl rfl | exact Or.inr rfl) ml_X7_94 ⟨Nat.le_of_ble_eq_true rfl, Nat.le_of_ble_eq_true rfl⟩ hl.1 (Nat.le_of_ble_eq_true rfl) dX7_swap_107 ⟨Nat.le_of_ble_eq_true rfl, Nat.le_of_ble_eq_true rfl⟩ (fun h107_0 H locs hG hS => ?_) (fun h107_0 H locs hG hS => ?_)
                          · skip
                            refine lv_if_ne (tgt := 127) hx hb dX7_swap_110 (by decide) (fun h110 => ?_) (fun h110 => ?_)
                            · skip
                              refine lv_iconst (v := 0) hx hb dX7_swap_127 (by decide) ?_
                              refine lv_goto (tgt := 138) hx hb dX7_swap_128 (by decide) ?_
                              exact R_I hC hS hr hlk rfl (by first | exact Or.inr ⟨2, (by simp only [cd_swap, za10, za18]; exact (cif_t ⟨Classical.not_not.mp h2, ix_nI ha10, ix_nI ha18⟩).trans (cif_f (fun v => by first | exact h52 (ho.mpr ⟨ha10, v.1⟩) | exact h61 (b_low0.mpr (fun t => (hi.mp t).2.2 v.2.2)) | exact h71 v.2.1))), (by decide), hG⟩ | exact Or.inr ⟨3, (by simp only [cd_swap, za10, za18]; exact (cif_t ⟨Classical.not_not.mp h2, ix_nI ha10, ix_nI ha18⟩).trans ((cif_t ⟨⟨ho3.2.1, ho3.2.2⟩, h71, hi3⟩).trans (cif_f (fun v => h117 (TM.mpr v))))), (by decide), hG⟩ | exact Or.inl ⟨(by simp only [cd_swap, za10, za18]; exact (cif_t ⟨Classical.not_not.mp h2, ix_nI ha10, ix_nI ha18⟩).trans ((cif_t ⟨⟨ho3.2.1, ho3.2.2⟩, h71, hi3⟩).trans (cif_t (TM.mp (Classical.not_not.mp h117))))), (by rw [za10, za18]; exact PT), (by simp only [up_swap, za10, za18]; rw [← PU]; exact hG)⟩) (Nat.le_of_ble_eq_true rfl) (Nat.le_of_ble_eq_true rfl) dX7_swap_138
                            · exact absurd h110 (by decide)
                          · skip
                            exact absurd h107_0 (by decide)
                      · skip
                        refine lv_iconst (v := 1) hx hb dX7_swap_74 (by decide) ?_
                        refine lv_goto (tgt := 79) hx hb dX7_swap_75 (by decide) ?_
                        refine o_istore hx hb dX7_swap_79 hl (by decide) rfl (fun ls hl => ?_)
                        refine o_iload hx hb dX7_swap_81 hl rfl ?_
                        refine lv_iconst (v := 1) hx hb dX7_swap_83 (by decide) ?_
                        refine o_iload_n hx hb dX7_swap_84 hl rfl ?_
                        refine lv_ishl hx hb dX7_swap_85 ?_
                        refine lv_iconst (v := (-1)) hx hb dX7_swap_86 (by decide) ?_
                        refine lv_ixor hx hb dX7_swap_87 ?_
                        refine lv_iand hx hb dX7_swap_88 ?_
                        refine lv_iconst (v := 1) hx hb dX7_swap_89 (by decide) ?_
                        refine o_iload_n hx hb dX7_swap_90 hl rfl ?_
                        refine lv_ishl hx hb dX7_swap_91 ?_
                        refine lv_ior hx hb dX7_swap_92 ?_
                        refine o_istore hx hb dX7_swap_93 hl (by decide) rfl (fun ls hl => ?_)
                        refine o_aload_n hx hb dX7_swap_95 hl rfl ?_
                        refine o_iload hx hb dX7_swap_96 hl rfl ?_
                        refine lv_if_ne (tgt := 105) hx hb dX7_swap_98 (by decide) (fun h98 => ?_) (fun h98 => ?_)
                        · skip
                          refine lv_iconst (v := 0) hx hb dX7_swap_105 (by decide) ?_
                          refine lv_iconst (v := 2) hx hb dX7_swap_106 (by decide) ?_
                          refine k_X7_isThrown hC hS hG (by first | exact Or.inl rfl | exact Or.inr rfl) ml_X7_94 ⟨Nat.le_of_ble_eq_true rfl, Nat.le_of_ble_eq_true rfl⟩ hl.1 (Nat.le_of_ble_eq_true rfl) dX7_swap_107 ⟨Nat.le_of_ble_eq_true rfl, Nat.le_of_ble_eq_true rfl⟩ (fun h107_0 H locs hG hS => ?_) (fun h107_0 H locs hG hS => ?_)
                          · skip
                            exact absurd h107_0 (by decide)
                          · skip
                            refine lv_if_ne (tgt := 127) hx hb dX7_swap_110 (by decide) (fun h110 => ?_) (fun h110 => ?_)
                            · exact absurd h110 (by decide)
                            · skip
                              have hoi : ¬ a10 = a18 := fun z => (b_low0.mp h61) (by rw [← z]; exact h52)
                              have hsb : ∀ a, a < 16 → (bitP (swB (biF T x (k 0)) a10 a18) (nI a) ↔ (bitP (biF T x (k 0)) (nI a) ∧ ¬ a = a10) ∨ a = a18) := fun a ha => by rw [bit_iff (by omega), bit_iff (by omega), swB_bt (by omega) (by omega) (by omega)]
                              have hob : bitP (biF T x (k 0)) (nI a10) := (bit_shr (by omega)).mp h52
                              have hib : ¬ bitP (biF T x (k 0)) (nI a18) := fun z => (b_low0.mp h61) ((bit_shr (by omega)).mpr z)
                              have ho3 := ho.mp h52
                              have hi3 : T 11 a18 0 = 0 := Classical.byContradiction (fun z => (b_low0.mp h61) (hi.mpr ⟨ha18, h71, z⟩))
                              have PT : ptF T (swB (biF T x (k 0)) a10 a18) (k 0) = swp T k x a10 a18 := by
                                rw [ptF_sw hoi hsb hob hib (k 0) (by omega), cif_t ha10, cif_t ha18]; rfl
                              have TM : tmP T k (swB (biF T x (k 0)) a10 a18) (k 0) ↔ (¬ T 10 a18 0 = -1 ∧ swp T k x a10 a18 ≤ 12) := by
                                unfold tmP
                                rw [PT]
                                exact ⟨fun v => ⟨v.1 a18 ha18 ((hsb a18 (by omega)).mpr (Or.inr rfl)), v.2⟩, fun v => ⟨fun a ha hba => ((hsb a (by omega)).mp hba).elim (fun t => hS10 a ha ((biF_bt (by omega) (k 0) (by omega)).mp ((bit_iff (by omega)).mp t.1)).2.2) (fun t => by rw [t]; exact v.1), v.2⟩⟩
                              have PU : puF T x (swB (biF T x (k 0)) a10 a18) (k 0) = up3 (up3 T 11 a10 0 0) 11 a18 0 1 := puF_sw hB0 ha10 ha18 hoi (fun a => (hB01 a).2.1) ho3.2.1 h71 hsb
                              refine o_aload_n hx hb dX7_swap_113 hl rfl ?_
                              refine o_aload_n hx hb dX7_swap_114 hl rfl ?_
                              refine o_iload hx hb dX7_swap_115 hl rfl ?_
                              refine k_X7_isTooMuch hC hS hG hMB ml_X7_175 ⟨Nat.le_of_ble_eq_true rfl, Nat.le_of_ble_eq_true rfl⟩ hl.1 (Nat.le_of_ble_eq_true rfl) dX7_swap_117 ⟨Nat.le_of_ble_eq_true rfl, Nat.le_of_ble_eq_true rfl⟩ (fun h117 => ?_) (fun h117 => ?_)
                              · skip
                                refine lv_iconst (v := 3) hx hb dX7_swap_120 (by decide) ?_
                                refine k_X7_isThrown hC hS hG (by first | exact Or.inl rfl | exact Or.inr rfl) ml_X7_94 ⟨Nat.le_of_ble_eq_true rfl, Nat.le_of_ble_eq_true rfl⟩ hl.1 (Nat.le_of_ble_eq_true rfl) dX7_swap_121 ⟨Nat.le_of_ble_eq_true rfl, Nat.le_of_ble_eq_true rfl⟩ (fun h121_0 H locs hG hS => ?_) (fun h121_0 H locs hG hS => ?_)
                                · skip
                                  refine lv_if_eq (tgt := 131) hx hb dX7_swap_124 (by decide) (fun h124 => ?_) (fun h124 => ?_)
                                  · exact absurd h124 (by decide)
                                  · skip
                                    refine lv_iconst (v := 0) hx hb dX7_swap_127 (by decide) ?_
                                    refine lv_goto (tgt := 138) hx hb dX7_swap_128 (by decide) ?_
                                    exact R_I hC hS hr hlk rfl (by first | exact Or.inr ⟨2, (by simp only [cd_swap, za10, za18]; exact (cif_t ⟨Classical.not_not.mp h2, ix_nI ha10, ix_nI ha18⟩).trans (cif_f (fun v => by first | exact h52 (ho.mpr ⟨ha10, v.1⟩) | exact h61 (b_low0.mpr (fun t => (hi.mp t).2.2 v.2.2)) | exact h71 v.2.1))), (by decide), hG⟩ | exact Or.inr ⟨3, (by simp only [cd_swap, za10, za18]; exact (cif_t ⟨Classical.not_not.mp h2, ix_nI ha10, ix_nI ha18⟩).trans ((cif_t ⟨⟨ho3.2.1, ho3.2.2⟩, h71, hi3⟩).trans (cif_f (fun v => h117 (TM.mpr v))))), (by decide), hG⟩ | exact Or.inl ⟨(by simp only [cd_swap, za10, za18]; exact (cif_t ⟨Classical.not_not.mp h2, ix_nI ha10, ix_nI ha18⟩).trans ((cif_t ⟨⟨ho3.2.1, ho3.2.2⟩, h71, hi3⟩).trans (cif_t (TM.mp (Classical.not_not.mp h117))))), (by rw [za10, za18]; exact PT), (by simp only [up_swap, za10, za18]; rw [← PU]; exact hG)⟩) (Nat.le_of_ble_eq_true rfl) (Nat.le_of_ble_eq_true rfl) dX7_swap_138
                                · skip
                                  exact absurd h121_0 (by decide)
                              · skip
                                refine lv_iconst (v := 3) hx hb dX7_swap_120 (by decide) ?_
                                refine k_X7_isThrown hC hS hG (by first | exact Or.inl rfl | exact Or.inr rfl) ml_X7_94 ⟨Nat.le_of_ble_eq_true rfl, Nat.le_of_ble_eq_true rfl⟩ hl.1 (Nat.le_of_ble_eq_true rfl) dX7_swap_121 ⟨Nat.le_of_ble_eq_true rfl, Nat.le_of_ble_eq_true rfl⟩ (fun h121_0 H locs hG hS => ?_) (fun h121_0 H locs hG hS => ?_)
                                · skip
                                  exact absurd h121_0 (by decide)
                                · skip
                                  refine lv_if_eq (tgt := 131) hx hb dX7_swap_124 (by decide) (fun h124 => ?_) (fun h124 => ?_)
                                  · skip
                                    refine o_aload_n hx hb dX7_swap_131 hl rfl ?_
                                    refine o_iload_n hx hb dX7_swap_132 hl rfl ?_
                                    refine o_iload hx hb dX7_swap_133 hl rfl ?_
                                    refine k_X7_puts hC hS hG ⟨hMB, fun i => (hB01 i).2.1⟩ ml_X7_178 ⟨Nat.le_of_ble_eq_true rfl, Nat.le_of_ble_eq_true rfl⟩ hl.1 (Nat.le_of_ble_eq_true rfl) dX7_swap_135 ⟨Nat.le_of_ble_eq_true rfl, Nat.le_of_ble_eq_true rfl⟩ (fun H locs hG hS => ?_)
                                    exact R_I hC hS hr hlk rfl (by first | exact Or.inr ⟨2, (by simp only [cd_swap, za10, za18]; exact (cif_t ⟨Classical.not_not.mp h2, ix_nI ha10, ix_nI ha18⟩).trans (cif_f (fun v => by first | exact h52 (ho.mpr ⟨ha10, v.1⟩) | exact h61 (b_low0.mpr (fun t => (hi.mp t).2.2 v.2.2)) | exact h71 v.2.1))), (by decide), hG⟩ | exact Or.inr ⟨3, (by simp only [cd_swap, za10, za18]; exact (cif_t ⟨Classical.not_not.mp h2, ix_nI ha10, ix_nI ha18⟩).trans ((cif_t ⟨⟨ho3.2.1, ho3.2.2⟩, h71, hi3⟩).trans (cif_f (fun v => h117 (TM.mpr v))))), (by decide), hG⟩ | exact Or.inl ⟨(by simp only [cd_swap, za10, za18]; exact (cif_t ⟨Classical.not_not.mp h2, ix_nI ha10, ix_nI ha18⟩).trans ((cif_t ⟨⟨ho3.2.1, ho3.2.2⟩, h71, hi3⟩).trans (cif_t (TM.mp (Classical.not_not.mp h117))))), (by rw [za10, za18]; exact PT), (by simp only [up_swap, za10, za18]; rw [← PU]; exact hG)⟩) (Nat.le_of_ble_eq_true rfl) (Nat.le_of_ble_eq_true rfl) dX7_swap_138
                                  · exact absurd h124 (by decide)
                        · exact absurd h98 (by decide)
                · exact absurd h33 (by decide)
            · exact absurd h21 (by decide)
theorem k_X7_swap {p : Program} {l : Launch} {e : Env} {R : Room} {s : State} {m : MethodId} {args : Array Value} {below : List Frame} {meth : Method} {c : Code} {H : Heap} {locs : List Loc} {cells slots : Nat} {Q : State → Prop} {cc : ByteArray} {pc nL : Nat} {ls : Array Slot} {rest : List Value} {own : String} {D : va_G} {cy : Nat → ClassId} {sa : Nat → Nat} {de B : Nat} {ad : Ad} {S : St} {n : Nat → Nat} {T : St} {k : Nat → Nat} {th : Int32} {X : Rl} {x y z : Int32}  (hC : Cx p m c cc nL s args own D cy sa de B) (hS : va_S (AB B) s.heap H locs) (hG : GW D B ad (Vw cy de ad S n T k th X) H) (h0 : Inv T k)  {idx : Nat} (wl : Cond.methodLink own idx yX7_swap ∈ G0) (hR : 2 + 1 ≤ R.frames ∧ 8 + (7 + 11) + 46 ≤ R.locals) (hsz : ls.size = nL) (hst : (rest.map fun v => v.category).sum ≤ 8) (hdg : decode cc pc = .ok (.invokevirtual idx, 3)) (hcs : cells + 0 ≤ R.cells ∧ slots + 0 ≤ R.slots) (k0 : (cd_swap T k x y z = 0) → ∀ (H1 : Heap) (locs1 : List Loc), GW D B ad (Vw cy de ad S n (up_swap T y z) (k) 0 X) H1 → va_S (AB B) s.heap H1 locs1 → W p l e R s m args below meth c H1 locs1 cells slots Q (F0 m (pc + 3) ls (.int (swp T k x (ci y) (ci z)) :: rest))) (k1 : ∀ (r9 : Int32), ∀ (t9 : Nat), (cd_swap T k x y z = t9) → (¬ t9 = 0) → ∀ (H1 : Heap) (locs1 : List Loc), GW D B ad (Vw cy de ad S n T k (nI t9) X) H1 → va_S (AB B) s.heap H1 locs1 → W p l e R s m args below meth c H1 locs1 cells slots Q (F0 m (pc + 3) ls (.int r9 :: rest))) : W p l e R s m args below meth c H locs cells slots Q (F0 m pc ls (.int z :: .int y :: .int x :: .ref (ad 13 0 0) :: rest)) :=
  va_calli (rV hC hS hG h0 (As := [.int x, .int y, .int z]) (c_X7_swap l) ⟨rfl, rfl⟩ wl im_X7_swap sl_X7_X7_swap in_X7 cd_X7_swap (n := 3) (by decide +kernel) hR (recv hC hG (q := (RX7, TX7, 26)) rfl V_model) rfl hsz hst rfl hdg hcs) hS (fun _ _ h => h) (fun _ h => h) (fun r u t H1 locs1 ht _ hr hB _ _ hS1 => by
      subst hr
      have hB9 := hB; try dsimp only at hB9
      rw [ht] at hB9
      rcases hB9 with ⟨q0, rfl, hG1⟩ | ⟨t9, q0, q1, hG1⟩
      · exact k0 q0 _ _ hG1 hS1
      · exact k1 r t9 q0 q1 _ _ hG1 hS1)
set_option maxHeartbeats 4000000 in
set_option maxRecDepth 100000 in
theorem c_X7_checksum (l : Launch) {D : va_G} {cy : Nat → ClassId} {sa : Nat → Nat} {de B : Nat} {ad : Ad} {S : St} {n : Nat → Nat} {T : St} {k : Nat → Nat} {th : Int32} {X : Rl}   : Met l yX7_checksum (Cond.code yX7_checksum cX7_checksum 7 (Option.some Jvm.ClassFile.FieldType.long) :: G0) ({ frames := 0, cells := 0, slots := 0, locals := 0 } : Room) (va_Pc [.ref (ad 13 0 0)] (PW D cy sa de B ad (Vw cy de ad S n T k th X) (Inv T k))) (oL B (fun r H => (r = vl_checksum T k ∧ GW D B ad (Vw cy de ad S n T k 0 X) H))) 0 0 (AB B) := by
  refine E_met (own := RX7) rfl rfl (Nat.le_of_ble_eq_true rfl) ?_
  intro p e s m below meth c hC hr hlk hnm hG h0 ls hl
  have hx := hC.x
  have hb := hC.b
  have hS : va_S (AB B) s.heap s.heap [] := va_S.rf
  have hl : lo ls 7 [some (.ref (ad 13 0 0)), none, none, none, none, none, none] := lo_of hl
  have hI := h0
  obtain ⟨hCI, hD0, hD1, hD2, hB01, hF30, hK8, hMK, hU1, hU2, hS10, hEO, hCF, hFT, hME, hYR, hEK, hLA⟩ := h0
  obtain ⟨hW, hNE, hCH, hBL⟩ := hCI
  have hW9 := hW
  obtain ⟨hB0, hB1, hB2, hB3, hB4, hB5, hB6, hB7, hKI, hEI, hKY⟩ := hW9
  have hMB : MB k := ⟨hB0, hB1, hB2, hB3⟩
  have hKYm : KYm T k := hKY
  refine o_aload_n hx hb dX7_checksum_0 hl rfl ?_
  refine lv_iconst (v := 0) hx hb dX7_checksum_1 (by decide) ?_
  refine g_put hC hG hS us_X7 tyX7_ok nmX7 rfl 25 (by decide) fl_X7_76 rfl V_model rfl rfl (Nat.le_of_ble_eq_true rfl) P_thrown dX7_checksum_2 (fun H locs hG hS => ?_)
  refine lv_ldc2 hx hb hC.o (hC.t _ ct_X7_184) dX7_checksum_5 ?_
  refine o_lstore_n hx hb dX7_checksum_8 hl (by decide) rfl (fun ls hl => ?_)
  refine lv_iconst (v := 0) hx hb dX7_checksum_9 (by decide) ?_
  refine o_istore_n hx hb dX7_checksum_10 hl (by decide) rfl (fun ls hl => ?_)
  have loop11 : ∀ (q9 : Nat) (y : Nat), y ≤ k 0 ∧ k 0 < y + q9 → ∀ ls : Array Slot, lo ls 7 [some (.ref (ad 13 0 0)), some (.long (ck1 T y)), none, some (.int (nI y)), none, none, none] → W p l e ({ frames := 0, cells := 0, slots := 0, locals := 0 } : Room) s m [.ref (ad 13 0 0)].toArray below meth c H locs 0 0 (MQ below (oL B (fun r H => (r = vl_checksum T k ∧ GW D B ad (Vw cy de ad S n T k 0 X) H))) [.ref (ad 13 0 0)].toArray s 0 0 (AB B)) (F0 m 11 ls []) := by
    intro q9
    induction q9 with
    | zero => intro y hq9; exact absurd hq9 (by omega)
    | succ q9 ih11 =>
      intro y hq9   ls hl
      refine o_iload_n hx hb dX7_checksum_11 hl rfl ?_
      refine o_aload_n hx hb dX7_checksum_12 hl rfl ?_
      refine g_get hC hG us_X7 rfl 20 (by decide) fl_X7_80 V_model rfl dX7_checksum_13 ?_
      refine n_icmp_ge (tgt := 53) hx hb y (k 0) rfl rfl (by omega) (by omega) dX7_checksum_16 (by decide) (fun h16 => ?_) (fun h16 => ?_)
      · skip
        refine lv_iconst (v := 0) hx hb dX7_checksum_53 (by decide) ?_
        refine o_istore_n hx hb dX7_checksum_54 hl (by decide) rfl (fun ls hl => ?_)
        have loop55 : ∀ (q9 : Nat) (w : Nat), w ≤ k 3 ∧ k 3 < w + q9 → ∀ ls : Array Slot, lo ls 7 [some (.ref (ad 13 0 0)), some (.long (ck2 T (ck1 T (k 0)) w)), none, some (.int (nI w)), none, none, none] → W p l e ({ frames := 0, cells := 0, slots := 0, locals := 0 } : Room) s m [.ref (ad 13 0 0)].toArray below meth c H locs 0 0 (MQ below (oL B (fun r H => (r = vl_checksum T k ∧ GW D B ad (Vw cy de ad S n T k 0 X) H))) [.ref (ad 13 0 0)].toArray s 0 0 (AB B)) (F0 m 55 ls []) := by
          intro q9
          induction q9 with
          | zero => intro w hq9; exact absurd hq9 (by omega)
          | succ q9 ih55 =>
            intro w hq9   ls hl
            refine o_iload_n hx hb dX7_checksum_55 hl rfl ?_
            refine o_aload_n hx hb dX7_checksum_56 hl rfl ?_
            refine g_get hC hG us_X7 rfl 23 (by decide) fl_X7_119 V_model rfl dX7_checksum_57 ?_
            refine n_icmp_ge (tgt := 142) hx hb w (k 3) rfl rfl (by omega) (by omega) dX7_checksum_60 (by decide) (fun h60 => ?_) (fun h60 => ?_)
            · skip
              refine o_aload_n hx hb dX7_checksum_142 hl rfl ?_
              refine g_get hC hG us_X7 rfl 12 (by decide) fl_X7_50 V_model rfl dX7_checksum_143 ?_
              refine o_astore_n hx hb dX7_checksum_146 hl (by decide) rfl (fun ls hl => ?_)
              refine o_aload_n hx hb dX7_checksum_147 hl rfl ?_
              refine g_alen hC hG 0 rfl V_m12 (v := nI 6) rfl dX7_checksum_148 ?_
              refine o_istore hx hb dX7_checksum_149 hl (by decide) rfl (fun ls hl => ?_)
              refine lv_iconst (v := 0) hx hb dX7_checksum_151 (by decide) ?_
              refine o_istore hx hb dX7_checksum_152 hl (by decide) rfl (fun ls hl => ?_)
              have loop154 : ∀ (q9 : Nat) (u : Nat), u ≤ 6 ∧ 6 < u + q9 → ∀ ls : Array Slot, lo ls 7 [some (.ref (ad 13 0 0)), some (.long (ck3 T (ck2 T (ck1 T (k 0)) (k 3)) u)), none, some (.ref (ad 14 12 0)), some (.int (nI 6)), some (.int (nI u)), none] → W p l e ({ frames := 0, cells := 0, slots := 0, locals := 0 } : Room) s m [.ref (ad 13 0 0)].toArray below meth c H locs 0 0 (MQ below (oL B (fun r H => (r = vl_checksum T k ∧ GW D B ad (Vw cy de ad S n T k 0 X) H))) [.ref (ad 13 0 0)].toArray s 0 0 (AB B)) (F0 m 154 ls []) := by
                intro q9
                induction q9 with
                | zero => intro u hq9; exact absurd hq9 (by omega)
                | succ q9 ih154 =>
                  intro u hq9   ls hl
                  refine o_iload hx hb dX7_checksum_154 hl rfl ?_
                  refine o_iload hx hb dX7_checksum_156 hl rfl ?_
                  refine n_icmp_ge (tgt := 183) hx hb u 6 rfl rfl (by omega) (by omega) dX7_checksum_158 (by decide) (fun h158 => ?_) (fun h158 => ?_)
                  · skip
                    refine o_lload_n hx hb dX7_checksum_183 hl rfl ?_
                    exact R_L hC hS hr hlk (⟨(by unfold vl_checksum; rw [show (6 : Nat) = u by omega]), hG⟩) (Nat.le_of_ble_eq_true rfl) (Nat.le_of_ble_eq_true rfl) dX7_checksum_184
                  · skip
                    refine o_aload_n hx hb dX7_checksum_161 hl rfl ?_
                    refine o_iload hx hb dX7_checksum_162 hl rfl ?_
                    refine g_iald hC hG V_m12 _ rfl (by omega) (by omega) dX7_checksum_164 ?_
                    refine o_istore hx hb dX7_checksum_165 hl (by decide) rfl (fun ls hl => ?_)
                    refine lv_ldc2 hx hb hC.o (hC.t _ ct_X7_186) dX7_checksum_167 ?_
                    refine o_lload_n hx hb dX7_checksum_170 hl rfl ?_
                    refine lv_lmul hx hb dX7_checksum_171 ?_
                    refine o_iload hx hb dX7_checksum_172 hl rfl ?_
                    refine lv_i2l hx hb dX7_checksum_174 rfl ?_
                    refine lv_ladd hx hb dX7_checksum_175 ?_
                    refine o_lstore_n hx hb dX7_checksum_176 hl (by decide) rfl (fun ls hl => ?_)
                    refine o_iinc1 hx hb dX7_checksum_177 hl rfl (by decide) rfl (fun ls hl => ?_)
                    refine lv_goto (tgt := 154) hx hb dX7_checksum_180 (by decide) ?_
                    exact ih154 (u + 1) (by omega) ls (lo_none (i := 6) hl)
              exact loop154 7 0 (by omega) ls (by rw [show k 3 = w by omega]; exact hl)
            · skip
              refine lv_iconst (v := 0) hx hb dX7_checksum_63 (by decide) ?_
              refine o_istore hx hb dX7_checksum_64 hl (by decide) rfl (fun ls hl => ?_)
              have loop66 : ∀ (q9 : Nat) (v : Nat), v ≤ k 0 ∧ k 0 < v + q9 → ∀ ls : Array Slot, lo ls 7 [some (.ref (ad 13 0 0)), some (.long (sumT T w (ck2 T (ck1 T (k 0)) w) v)), none, some (.int (nI w)), some (.int (nI v)), none, none] → W p l e ({ frames := 0, cells := 0, slots := 0, locals := 0 } : Room) s m [.ref (ad 13 0 0)].toArray below meth c H locs 0 0 (MQ below (oL B (fun r H => (r = vl_checksum T k ∧ GW D B ad (Vw cy de ad S n T k 0 X) H))) [.ref (ad 13 0 0)].toArray s 0 0 (AB B)) (F0 m 66 ls []) := by
                intro q9
                induction q9 with
                | zero => intro v hq9; exact absurd hq9 (by omega)
                | succ q9 ih66 =>
                  intro v hq9   ls hl
                  refine o_iload hx hb dX7_checksum_66 hl rfl ?_
                  refine o_aload_n hx hb dX7_checksum_68 hl rfl ?_
                  refine g_get hC hG us_X7 rfl 20 (by decide) fl_X7_80 V_model rfl dX7_checksum_69 ?_
                  refine n_icmp_ge (tgt := 136) hx hb v (k 0) rfl rfl (by omega) (by omega) dX7_checksum_72 (by decide) (fun h72 => ?_) (fun h72 => ?_)
                  · skip
                    have hv9 : v = k 0 := by omega
                    subst hv9
                    refine o_iinc1 hx hb dX7_checksum_136 hl rfl (by decide) rfl (fun ls hl => ?_)
                    refine lv_goto (tgt := 55) hx hb dX7_checksum_139 (by decide) ?_
                    exact ih55 (w + 1) (by omega) ls (by rw [show ck2 T (ck1 T (k 0)) (w + 1) = sumT T w (ck2 T (ck1 T (k 0)) w) 16 from rfl, sumT_16 hW]; exact lo_none (i := 4) hl)
                  · skip
                    refine o_aload_n hx hb dX7_checksum_75 hl rfl ?_
                    refine g_get hC hG us_X7 rfl 19 (by decide) fl_X7_73 V_model rfl dX7_checksum_76 ?_
                    refine o_iload_n hx hb dX7_checksum_79 hl rfl ?_
                    refine g_aald hC hG 7 rfl rfl V_o19 _ rfl (by omega) (by omega) dX7_checksum_80 ?_
                    refine o_iload hx hb dX7_checksum_81 hl rfl ?_
                    refine g_iald hC hG (V_r19 (by omega)) _ rfl (by omega) (by omega) dX7_checksum_83 ?_
                    refine lv_iconst (v := (-1)) hx hb dX7_checksum_84 (by decide) ?_
                    refine lv_icmp_ne (tgt := 92) hx hb dX7_checksum_85 (by decide) (fun h85 => ?_) (fun h85 => ?_)
                    · skip
                      refine o_aload_n hx hb dX7_checksum_92 hl rfl ?_
                      refine g_get hC hG us_X7 rfl 19 (by decide) fl_X7_73 V_model rfl dX7_checksum_93 ?_
                      refine o_iload_n hx hb dX7_checksum_96 hl rfl ?_
                      refine g_aald hC hG 7 rfl rfl V_o19 _ rfl (by omega) (by omega) dX7_checksum_97 ?_
                      refine o_iload hx hb dX7_checksum_98 hl rfl ?_
                      refine g_iald hC hG (V_r19 (by omega)) _ rfl (by omega) (by omega) dX7_checksum_100 ?_
                      refine lv_i2l hx hb dX7_checksum_101 rfl ?_
                      refine o_lstore hx hb dX7_checksum_102 hl (by decide) rfl (fun ls hl => ?_)
                      refine o_aload_n hx hb dX7_checksum_104 hl rfl ?_
                      refine g_get hC hG us_X7 rfl 17 (by decide) fl_X7_65 V_model rfl dX7_checksum_105 ?_
                      refine o_iload_n hx hb dX7_checksum_108 hl rfl ?_
                      refine g_aald hC hG 7 rfl rfl V_o17 _ rfl (by omega) (by omega) dX7_checksum_109 ?_
                      refine o_iload hx hb dX7_checksum_110 hl rfl ?_
                      refine g_iald hC hG (V_r17 (by omega)) _ rfl (by omega) (by omega) dX7_checksum_112 ?_
                      refine lv_iconst (v := (-1)) hx hb dX7_checksum_113 (by decide) ?_
                      refine lv_icmp_ne (tgt := 121) hx hb dX7_checksum_114 (by decide) (fun h114 => ?_) (fun h114 => ?_)
                      · skip
                        refine lv_ldc2 hx hb hC.o (hC.t _ ct_X7_186) dX7_checksum_121 ?_
                        refine o_lload_n hx hb dX7_checksum_124 hl rfl ?_
                        refine lv_lmul hx hb dX7_checksum_125 ?_
                        refine o_lload hx hb dX7_checksum_126 hl rfl ?_
                        refine lv_ladd hx hb dX7_checksum_128 ?_
                        refine o_lstore_n hx hb dX7_checksum_129 hl (by decide) rfl (fun ls hl => ?_)
                        refine o_iinc1 hx hb dX7_checksum_130 hl rfl (by decide) rfl (fun ls hl => ?_)
                        refine lv_goto (tgt := 66) hx hb dX7_checksum_133 (by decide) ?_
                        exact ih66 (v + 1) (by omega) ls (by first | (rw [sumT_n h114]; exact lo_none (i := 5) hl) | (rw [sumT_t h114 h85]; exact lo_none (i := 5) hl) | (rw [sumT_f h114 (fun z => z h85)]; exact lo_none (i := 5) hl))
                      · skip
                        refine o_lload_n hx hb dX7_checksum_117 hl rfl ?_
                        refine lv_goto (tgt := 129) hx hb dX7_checksum_118 (by decide) ?_
                        refine o_lstore_n hx hb dX7_checksum_129 hl (by decide) rfl (fun ls hl => ?_)
                        refine o_iinc1 hx hb dX7_checksum_130 hl rfl (by decide) rfl (fun ls hl => ?_)
                        refine lv_goto (tgt := 66) hx hb dX7_checksum_133 (by decide) ?_
                        exact ih66 (v + 1) (by omega) ls (by first | (rw [sumT_n h114]; exact lo_none (i := 5) hl) | (rw [sumT_t h114 h85]; exact lo_none (i := 5) hl) | (rw [sumT_f h114 (fun z => z h85)]; exact lo_none (i := 5) hl))
                    · skip
                      refine lv_lconst hx hb dX7_checksum_88 rfl ?_
                      refine lv_goto (tgt := 102) hx hb dX7_checksum_89 (by decide) ?_
                      refine o_lstore hx hb dX7_checksum_102 hl (by decide) rfl (fun ls hl => ?_)
                      refine o_aload_n hx hb dX7_checksum_104 hl rfl ?_
                      refine g_get hC hG us_X7 rfl 17 (by decide) fl_X7_65 V_model rfl dX7_checksum_105 ?_
                      refine o_iload_n hx hb dX7_checksum_108 hl rfl ?_
                      refine g_aald hC hG 7 rfl rfl V_o17 _ rfl (by omega) (by omega) dX7_checksum_109 ?_
                      refine o_iload hx hb dX7_checksum_110 hl rfl ?_
                      refine g_iald hC hG (V_r17 (by omega)) _ rfl (by omega) (by omega) dX7_checksum_112 ?_
                      refine lv_iconst (v := (-1)) hx hb dX7_checksum_113 (by decide) ?_
                      refine lv_icmp_ne (tgt := 121) hx hb dX7_checksum_114 (by decide) (fun h114 => ?_) (fun h114 => ?_)
                      · skip
                        refine lv_ldc2 hx hb hC.o (hC.t _ ct_X7_186) dX7_checksum_121 ?_
                        refine o_lload_n hx hb dX7_checksum_124 hl rfl ?_
                        refine lv_lmul hx hb dX7_checksum_125 ?_
                        refine o_lload hx hb dX7_checksum_126 hl rfl ?_
                        refine lv_ladd hx hb dX7_checksum_128 ?_
                        refine o_lstore_n hx hb dX7_checksum_129 hl (by decide) rfl (fun ls hl => ?_)
                        refine o_iinc1 hx hb dX7_checksum_130 hl rfl (by decide) rfl (fun ls hl => ?_)
                        refine lv_goto (tgt := 66) hx hb dX7_checksum_133 (by decide) ?_
                        exact ih66 (v + 1) (by omega) ls (by first | (rw [sumT_n h114]; exact lo_none (i := 5) hl) | (rw [sumT_t h114 h85]; exact lo_none (i := 5) hl) | (rw [sumT_f h114 (fun z => z h85)]; exact lo_none (i := 5) hl))
                      · skip
                        refine o_lload_n hx hb dX7_checksum_117 hl rfl ?_
                        refine lv_goto (tgt := 129) hx hb dX7_checksum_118 (by decide) ?_
                        refine o_lstore_n hx hb dX7_checksum_129 hl (by decide) rfl (fun ls hl => ?_)
                        refine o_iinc1 hx hb dX7_checksum_130 hl rfl (by decide) rfl (fun ls hl => ?_)
                        refine lv_goto (tgt := 66) hx hb dX7_checksum_133 (by decide) ?_
                        exact ih66 (v + 1) (by omega) ls (by first | (rw [sumT_n h114]; exact lo_none (i := 5) hl) | (rw [sumT_t h114 h85]; exact lo_none (i := 5) hl) | (rw [sumT_f h114 (fun z => z h85)]; exact lo_none (i := 5) hl))
              exact loop66 (k 0 + 1) 0 (by omega) ls hl
        exact loop55 (k 3 + 1) 0 (by omega) ls (by rw [show k 0 = y by omega]; exact hl)
      · skip
        refine lv_ldc2 hx hb hC.o (hC.t _ ct_X7_186) dX7_checksum_19 ?_
        refine o_lload_n hx hb dX7_checksum_22 hl rfl ?_
        refine lv_lmul hx hb dX7_checksum_23 ?_
        refine o_aload_n hx hb dX7_checksum_24 hl rfl ?_
        refine g_get hC hG us_X7 rfl 6 (by decide) fl_X7_32 V_model rfl dX7_checksum_25 ?_
        refine o_iload_n hx hb dX7_checksum_28 hl rfl ?_
        refine g_iald hC hG V_m6 _ rfl (by omega) (by omega) dX7_checksum_29 ?_
        refine lv_i2l hx hb dX7_checksum_30 rfl ?_
        refine lv_ladd hx hb dX7_checksum_31 ?_
        refine o_lstore_n hx hb dX7_checksum_32 hl (by decide) rfl (fun ls hl => ?_)
        refine lv_ldc2 hx hb hC.o (hC.t _ ct_X7_186) dX7_checksum_33 ?_
        refine o_lload_n hx hb dX7_checksum_36 hl rfl ?_
        refine lv_lmul hx hb dX7_checksum_37 ?_
        refine o_aload_n hx hb dX7_checksum_38 hl rfl ?_
        refine g_get hC hG us_X7 rfl 5 (by decide) fl_X7_28 V_model rfl dX7_checksum_39 ?_
        refine o_iload_n hx hb dX7_checksum_42 hl rfl ?_
        refine g_cald hC hG V_m5 _ rfl (by omega) (by omega) dX7_checksum_43 ?_
        refine lv_i2l hx hb dX7_checksum_44 rfl ?_
        refine lv_ladd hx hb dX7_checksum_45 ?_
        refine o_lstore_n hx hb dX7_checksum_46 hl (by decide) rfl (fun ls hl => ?_)
        refine o_iinc1 hx hb dX7_checksum_47 hl rfl (by decide) rfl (fun ls hl => ?_)
        refine lv_goto (tgt := 11) hx hb dX7_checksum_50 (by decide) ?_
        exact ih11 (y + 1) (by omega) ls hl
  exact loop11 (k 0 + 1) 0 (by omega) ls hl
theorem k_X7_checksum {p : Program} {l : Launch} {e : Env} {R : Room} {s : State} {m : MethodId} {args : Array Value} {below : List Frame} {meth : Method} {c : Code} {H : Heap} {locs : List Loc} {cells slots : Nat} {Q : State → Prop} {cc : ByteArray} {pc nL : Nat} {ls : Array Slot} {rest : List Value} {own : String} {D : va_G} {cy : Nat → ClassId} {sa : Nat → Nat} {de B : Nat} {ad : Ad} {S : St} {n : Nat → Nat} {T : St} {k : Nat → Nat} {th : Int32} {X : Rl}   (hC : Cx p m c cc nL s args own D cy sa de B) (hS : va_S (AB B) s.heap H locs) (hG : GW D B ad (Vw cy de ad S n T k th X) H) (h0 : Inv T k)  {idx : Nat} (wl : Cond.methodLink own idx yX7_checksum ∈ G0) (hR : 0 + 1 ≤ R.frames ∧ 8 + (7 + 11) + 0 ≤ R.locals) (hsz : ls.size = nL) (hst : (rest.map fun v => v.category).sum ≤ 8) (hdg : decode cc pc = .ok (.invokevirtual idx, 3)) (hcs : cells + 0 ≤ R.cells ∧ slots + 0 ≤ R.slots) (k0 : ∀ (H1 : Heap) (locs1 : List Loc), GW D B ad (Vw cy de ad S n T k 0 X) H1 → va_S (AB B) s.heap H1 locs1 → W p l e R s m args below meth c H1 locs1 cells slots Q (F0 m (pc + 3) ls (.long (vl_checksum T k) :: rest))) : W p l e R s m args below meth c H locs cells slots Q (F0 m pc ls (.ref (ad 13 0 0) :: rest)) :=
  va_calll (rV hC hS hG h0 (As := []) (c_X7_checksum l) ⟨rfl, rfl⟩ wl im_X7_checksum sl_X7_X7_checksum in_X7 cd_X7_checksum (n := 0) (by decide +kernel) hR (recv hC hG (q := (RX7, TX7, 26)) rfl V_model) rfl hsz hst rfl hdg hcs) hS (fun _ _ h => h) (fun _ h => h) (fun r u t H1 locs1 ht _ hr hB _ _ hS1 => by
      subst hr
      have hB9 := hB; try dsimp only at hB9
      rw [ht] at hB9
      rcases hB9 with ⟨rfl, hG1⟩
      · exact k0 _ _ hG1 hS1)
set_option maxHeartbeats 4000000 in
set_option maxRecDepth 100000 in
theorem c_X7_meanLack (l : Launch) {D : va_G} {cy : Nat → ClassId} {sa : Nat → Nat} {de B : Nat} {ad : Ad} {S : St} {n : Nat → Nat} {T : St} {k : Nat → Nat} {th : Int32} {X : Rl} {x : Int32}  : Met l yX7_meanLack (Cond.code yX7_meanLack cX7_meanLack 7 (Option.some Jvm.ClassFile.FieldType.double) :: G0) ({ frames := 2, cells := 0, slots := 0, locals := 43 } : Room) (va_Pc [.ref (ad 13 0 0), .int x] (PW D cy sa de B ad (Vw cy de ad S n T k th X) (Inv T k))) (oD B (fun r H => (cd_ath k x = 0 ∧ r = (vl_mean T (ci x)) ∧ GW D B ad (Vw cy de ad S n T k 0 X) H) ∨ (∃ (t9 : Nat), cd_ath k x = t9 ∧ ¬ t9 = 0 ∧ GW D B ad (Vw cy de ad S n T k (nI t9) X) H))) 0 0 (AB B) := by
  refine E_met (own := RX7) rfl rfl (Nat.le_of_ble_eq_true rfl) ?_
  intro p e s m below meth c hC hr hlk hnm hG h0 ls hl
  have hx := hC.x
  have hb := hC.b
  have hS : va_S (AB B) s.heap s.heap [] := va_S.rf
  have hl : lo ls 7 [some (.ref (ad 13 0 0)), some (.int x), none, none, none, none, none] := lo_of hl
  have hI := h0
  obtain ⟨hCI, hD0, hD1, hD2, hB01, hF30, hK8, hMK, hU1, hU2, hS10, hEO, hCF, hFT, hME, hYR, hEK, hLA⟩ := h0
  obtain ⟨hW, hNE, hCH, hBL⟩ := hCI
  have hW9 := hW
  obtain ⟨hB0, hB1, hB2, hB3, hB4, hB5, hB6, hB7, hKI, hEI, hKY⟩ := hW9
  have hMB : MB k := ⟨hB0, hB1, hB2, hB3⟩
  have hKYm : KYm T k := hKY
  refine o_aload_n hx hb dX7_meanLack_0 hl rfl ?_
  refine o_aload_n hx hb dX7_meanLack_1 hl rfl ?_
  refine o_iload_n hx hb dX7_meanLack_2 hl rfl ?_
  refine k_X7_isNoAthlete hC hS hG hMB ml_X7_98 ⟨Nat.le_of_ble_eq_true rfl, Nat.le_of_ble_eq_true rfl⟩ hl.1 (Nat.le_of_ble_eq_true rfl) dX7_meanLack_3 ⟨Nat.le_of_ble_eq_true rfl, Nat.le_of_ble_eq_true rfl⟩ (fun h3 => ?_) (fun h3 => ?_)
  · skip
    refine lv_iconst (v := 1) hx hb dX7_meanLack_6 (by decide) ?_
    refine k_X7_isThrown hC hS hG (by first | exact Or.inl rfl | exact Or.inr rfl) ml_X7_94 ⟨Nat.le_of_ble_eq_true rfl, Nat.le_of_ble_eq_true rfl⟩ hl.1 (Nat.le_of_ble_eq_true rfl) dX7_meanLack_7 ⟨Nat.le_of_ble_eq_true rfl, Nat.le_of_ble_eq_true rfl⟩ (fun h7_0 H locs hG hS => ?_) (fun h7_0 H locs hG hS => ?_)
    · skip
      refine lv_if_eq (tgt := 15) hx hb dX7_meanLack_10 (by decide) (fun h10 => ?_) (fun h10 => ?_)
      · exact absurd h10 (by decide)
      · skip
        refine lv_dconst0 hx hb dX7_meanLack_13 ?_
        exact R_D hC hS hr hlk (Or.inr ⟨1, (by simp only [cd_ath]; exact cif_f h3), (by decide), hG⟩) (Nat.le_of_ble_eq_true rfl) (Nat.le_of_ble_eq_true rfl) dX7_meanLack_14
    · skip
      exact absurd h7_0 (by decide)
  · skip
    refine lv_iconst (v := 1) hx hb dX7_meanLack_6 (by decide) ?_
    refine k_X7_isThrown hC hS hG (by first | exact Or.inl rfl | exact Or.inr rfl) ml_X7_94 ⟨Nat.le_of_ble_eq_true rfl, Nat.le_of_ble_eq_true rfl⟩ hl.1 (Nat.le_of_ble_eq_true rfl) dX7_meanLack_7 ⟨Nat.le_of_ble_eq_true rfl, Nat.le_of_ble_eq_true rfl⟩ (fun h7_0 H locs hG hS => ?_) (fun h7_0 H locs hG hS => ?_)
    · skip
      exact absurd h7_0 (by decide)
    · skip
      refine lv_if_eq (tgt := 15) hx hb dX7_meanLack_10 (by decide) (fun h10 => ?_) (fun h10 => ?_)
      · skip
        obtain ⟨a3, ha3, hxa3⟩ := Classical.not_not.mp h3
        subst hxa3
        have za3 : ci (nI a3) = a3 := nI_clamp (by omega)
        refine lv_iconst (v := 0) hx hb dX7_meanLack_15 (by decide) ?_
        refine o_istore_n hx hb dX7_meanLack_16 hl (by decide) rfl (fun ls hl => ?_)
        refine o_aload_n hx hb dX7_meanLack_17 hl rfl ?_
        refine g_get hC hG us_X7 rfl 1 (by decide) fl_X7_15 V_model rfl dX7_meanLack_18 ?_
        refine o_iload_n hx hb dX7_meanLack_21 hl rfl ?_
        refine g_aald hC hG 7 rfl rfl V_o1 _ rfl (by omega) (by omega) dX7_meanLack_22 ?_
        refine o_astore_n hx hb dX7_meanLack_23 hl (by decide) rfl (fun ls hl => ?_)
        refine o_aload_n hx hb dX7_meanLack_24 hl rfl ?_
        refine g_alen hC hG 0 rfl (V_r1 (by omega)) (v := nI 5) rfl dX7_meanLack_25 ?_
        refine o_istore hx hb dX7_meanLack_26 hl (by decide) rfl (fun ls hl => ?_)
        refine lv_iconst (v := 0) hx hb dX7_meanLack_28 (by decide) ?_
        refine o_istore hx hb dX7_meanLack_29 hl (by decide) rfl (fun ls hl => ?_)
        have loop31 : ∀ (q9 : Nat) (y : Nat), y ≤ 5 ∧ 5 < y + q9 → ∀ ls : Array Slot, lo ls 7 [some (.ref (ad 13 0 0)), some (.int (nI a3)), some (.int (sumLk (T 6 a3) y)), some (.ref (ad 15 1 a3)), some (.int (nI 5)), some (.int (nI y)), none] → W p l e ({ frames := 2, cells := 0, slots := 0, locals := 43 } : Room) s m [.ref (ad 13 0 0), .int (nI a3)].toArray below meth c H locs 0 0 (MQ below (oD B (fun r H => (cd_ath k (nI a3) = 0 ∧ r = (vl_mean T (ci (nI a3))) ∧ GW D B ad (Vw cy de ad S n T k 0 X) H) ∨ (∃ (t9 : Nat), cd_ath k (nI a3) = t9 ∧ ¬ t9 = 0 ∧ GW D B ad (Vw cy de ad S n T k (nI t9) X) H))) [.ref (ad 13 0 0), .int (nI a3)].toArray s 0 0 (AB B)) (F0 m 31 ls []) := by
          intro q9
          induction q9 with
          | zero => intro y hq9; exact absurd hq9 (by omega)
          | succ q9 ih31 =>
            intro y hq9   ls hl
            refine o_iload hx hb dX7_meanLack_31 hl rfl ?_
            refine o_iload hx hb dX7_meanLack_33 hl rfl ?_
            refine n_icmp_ge (tgt := 58) hx hb y 5 rfl rfl (by omega) (by omega) dX7_meanLack_35 (by decide) (fun h35 => ?_) (fun h35 => ?_)
            · skip
              rw [show y = 5 by omega] at hl
              refine o_iload_n hx hb dX7_meanLack_58 hl rfl ?_
              refine lv_i2d hx hb dX7_meanLack_59 ?_
              refine lv_ldc2d hx hb hC.o (hC.t _ ct_X7_188) dX7_meanLack_60 ?_
              refine lv_ddiv hx hb dX7_meanLack_63 (mean_ok (f := T 6 a3) (fun y hy => (hME a3 y ha3 hy).1)) ?_
              exact R_D hC hS hr hlk (Or.inl ⟨(by simp only [cd_ath]; exact cif_t (ix_nI ha3)), (by rw [za3]; rfl), (by exact hG)⟩) (Nat.le_of_ble_eq_true rfl) (Nat.le_of_ble_eq_true rfl) dX7_meanLack_64
            · skip
              refine o_aload_n hx hb dX7_meanLack_38 hl rfl ?_
              refine o_iload hx hb dX7_meanLack_39 hl rfl ?_
              refine g_iald hC hG (V_r1 (by omega)) _ rfl (by omega) (by omega) dX7_meanLack_41 ?_
              refine o_istore hx hb dX7_meanLack_42 hl (by decide) rfl (fun ls hl => ?_)
              refine o_iload_n hx hb dX7_meanLack_44 hl rfl ?_
              refine lv_bipush (v := 100) hx hb dX7_meanLack_45 (by decide) ?_
              refine o_iload hx hb dX7_meanLack_47 hl rfl ?_
              refine lv_isub hx hb dX7_meanLack_49 ?_
              refine lv_iadd hx hb dX7_meanLack_50 ?_
              refine o_istore_n hx hb dX7_meanLack_51 hl (by decide) rfl (fun ls hl => ?_)
              refine o_iinc1 hx hb dX7_meanLack_52 hl rfl (by decide) rfl (fun ls hl => ?_)
              refine lv_goto (tgt := 31) hx hb dX7_meanLack_55 (by decide) ?_
              exact ih31 (y + 1) (by omega) ls (lo_none (i := 6) hl)
        exact loop31 6 0 (by omega) ls hl
      · exact absurd h10 (by decide)
theorem k_X7_meanLack {p : Program} {l : Launch} {e : Env} {R : Room} {s : State} {m : MethodId} {args : Array Value} {below : List Frame} {meth : Method} {c : Code} {H : Heap} {locs : List Loc} {cells slots : Nat} {Q : State → Prop} {cc : ByteArray} {pc nL : Nat} {ls : Array Slot} {rest : List Value} {own : String} {D : va_G} {cy : Nat → ClassId} {sa : Nat → Nat} {de B : Nat} {ad : Ad} {S : St} {n : Nat → Nat} {T : St} {k : Nat → Nat} {th : Int32} {X : Rl} {x : Int32}  (hC : Cx p m c cc nL s args own D cy sa de B) (hS : va_S (AB B) s.heap H locs) (hG : GW D B ad (Vw cy de ad S n T k th X) H) (h0 : Inv T k)  {idx : Nat} (wl : Cond.methodLink own idx yX7_meanLack ∈ G0) (hR : 2 + 1 ≤ R.frames ∧ 8 + (7 + 11) + 43 ≤ R.locals) (hsz : ls.size = nL) (hst : (rest.map fun v => v.category).sum ≤ 8) (hdg : decode cc pc = .ok (.invokevirtual idx, 3)) (hcs : cells + 0 ≤ R.cells ∧ slots + 0 ≤ R.slots) (k0 : (cd_ath k x = 0) → ∀ (H1 : Heap) (locs1 : List Loc), GW D B ad (Vw cy de ad S n T k 0 X) H1 → va_S (AB B) s.heap H1 locs1 → W p l e R s m args below meth c H1 locs1 cells slots Q (F0 m (pc + 3) ls (.double (vl_mean T (ci x)) :: rest))) (k1 : ∀ (r9 : UInt64), ∀ (t9 : Nat), (cd_ath k x = t9) → (¬ t9 = 0) → ∀ (H1 : Heap) (locs1 : List Loc), GW D B ad (Vw cy de ad S n T k (nI t9) X) H1 → va_S (AB B) s.heap H1 locs1 → W p l e R s m args below meth c H1 locs1 cells slots Q (F0 m (pc + 3) ls (.double (r9) :: rest))) : W p l e R s m args below meth c H locs cells slots Q (F0 m pc ls (.int x :: .ref (ad 13 0 0) :: rest)) :=
  va_calld (rV hC hS hG h0 (As := [.int x]) (c_X7_meanLack l) ⟨rfl, rfl⟩ wl im_X7_meanLack sl_X7_X7_meanLack in_X7 cd_X7_meanLack (n := 1) (by decide +kernel) hR (recv hC hG (q := (RX7, TX7, 26)) rfl V_model) rfl hsz hst rfl hdg hcs) hS (fun _ _ h => h) (fun _ h => h) (fun r u t H1 locs1 ht _ hr hB _ _ hS1 => by
      subst hr
      have hB9 := hB; try dsimp only at hB9
      rw [ht] at hB9
      rcases hB9 with ⟨q0, rfl, hG1⟩ | ⟨t9, q0, q1, hG1⟩
      · exact k0 q0 _ _ hG1 hS1
      · exact k1 r t9 q0 q1 _ _ hG1 hS1)
set_option maxHeartbeats 4000000 in
set_option maxRecDepth 100000 in
theorem c_X7_fallenShare (l : Launch) {D : va_G} {cy : Nat → ClassId} {sa : Nat → Nat} {de B : Nat} {ad : Ad} {S : St} {n : Nat → Nat} {T : St} {k : Nat → Nat} {th : Int32} {X : Rl}   : Met l yX7_fallenShare (Cond.code yX7_fallenShare cX7_fallenShare 5 (Option.some Jvm.ClassFile.FieldType.float) :: G0) ({ frames := 1, cells := 0, slots := 0, locals := 22 } : Room) (va_Pc [.ref (ad 13 0 0)] (PW D cy sa de B ad (Vw cy de ad S n T k th X) (Inv T k))) (oF B (fun r H => (cd_share T k = 0 ∧ r = (vl_share T k) ∧ GW D B ad (Vw cy de ad S n T k 0 X) H) ∨ (∃ (t9 : Nat), cd_share T k = t9 ∧ ¬ t9 = 0 ∧ GW D B ad (Vw cy de ad S n T k (nI t9) X) H))) 0 0 (AB B) := by
  refine E_met (own := RX7) rfl rfl (Nat.le_of_ble_eq_true rfl) ?_
  intro p e s m below meth c hC hr hlk hnm hG h0 ls hl
  have hx := hC.x
  have hb := hC.b
  have hS : va_S (AB B) s.heap s.heap [] := va_S.rf
  have hl : lo ls 5 [some (.ref (ad 13 0 0)), none, none, none, none] := lo_of hl
  have hI := h0
  obtain ⟨hCI, hD0, hD1, hD2, hB01, hF30, hK8, hMK, hU1, hU2, hS10, hEO, hCF, hFT, hME, hYR, hEK, hLA⟩ := h0
  obtain ⟨hW, hNE, hCH, hBL⟩ := hCI
  have hW9 := hW
  obtain ⟨hB0, hB1, hB2, hB3, hB4, hB5, hB6, hB7, hKI, hEI, hKY⟩ := hW9
  have hMB : MB k := ⟨hB0, hB1, hB2, hB3⟩
  have hKYm : KYm T k := hKY
  refine lv_iconst (v := 0) hx hb dX7_fallenShare_0 (by decide) ?_
  refine o_istore_n hx hb dX7_fallenShare_1 hl (by decide) rfl (fun ls hl => ?_)
  refine lv_iconst (v := 0) hx hb dX7_fallenShare_2 (by decide) ?_
  refine o_istore_n hx hb dX7_fallenShare_3 hl (by decide) rfl (fun ls hl => ?_)
  refine lv_iconst (v := 0) hx hb dX7_fallenShare_4 (by decide) ?_
  refine o_istore_n hx hb dX7_fallenShare_5 hl (by decide) rfl (fun ls hl => ?_)
  have loop6 : ∀ (q9 : Nat) (w : Nat), w ≤ k 3 ∧ k 3 < w + q9 → ∀ ls : Array Slot, lo ls 5 [some (.ref (ad 13 0 0)), some (.int (alF T w)), some (.int (flF T w)), some (.int (nI w)), none] → W p l e ({ frames := 1, cells := 0, slots := 0, locals := 22 } : Room) s m [.ref (ad 13 0 0)].toArray below meth c s.heap [] 0 0 (MQ below (oF B (fun r H => (cd_share T k = 0 ∧ r = (vl_share T k) ∧ GW D B ad (Vw cy de ad S n T k 0 X) H) ∨ (∃ (t9 : Nat), cd_share T k = t9 ∧ ¬ t9 = 0 ∧ GW D B ad (Vw cy de ad S n T k (nI t9) X) H))) [.ref (ad 13 0 0)].toArray s 0 0 (AB B)) (F0 m 6 ls []) := by
    intro q9
    induction q9 with
    | zero => intro w hq9; exact absurd hq9 (by omega)
    | succ q9 ih6 =>
      intro w hq9   ls hl
      refine o_iload_n hx hb dX7_fallenShare_6 hl rfl ?_
      refine o_aload_n hx hb dX7_fallenShare_7 hl rfl ?_
      refine g_get hC hG us_X7 rfl 23 (by decide) fl_X7_119 V_model rfl dX7_fallenShare_8 ?_
      refine n_icmp_ge (tgt := 79) hx hb w (k 3) rfl rfl (by omega) (by omega) dX7_fallenShare_11 (by decide) (fun h11 => ?_) (fun h11 => ?_)
      · skip
        rw [show w = k 3 by omega] at hl
        refine o_aload_n hx hb dX7_fallenShare_79 hl rfl ?_
        refine o_iload_n hx hb dX7_fallenShare_80 hl rfl ?_
        refine lv_if_ne (tgt := 88) hx hb dX7_fallenShare_81 (by decide) (fun h81 => ?_) (fun h81 => ?_)
        · skip
          refine lv_iconst (v := 0) hx hb dX7_fallenShare_88 (by decide) ?_
          refine lv_iconst (v := 1) hx hb dX7_fallenShare_89 (by decide) ?_
          refine k_X7_isThrown hC hS hG (by first | exact Or.inl rfl | exact Or.inr rfl) ml_X7_94 ⟨Nat.le_of_ble_eq_true rfl, Nat.le_of_ble_eq_true rfl⟩ hl.1 (Nat.le_of_ble_eq_true rfl) dX7_fallenShare_90 ⟨Nat.le_of_ble_eq_true rfl, Nat.le_of_ble_eq_true rfl⟩ (fun h90_0 H locs hG hS => ?_) (fun h90_0 H locs hG hS => ?_)
          · skip
            exact absurd h90_0 (by decide)
          · skip
            refine lv_if_eq (tgt := 100) hx hb dX7_fallenShare_93 (by decide) (fun h93 => ?_) (fun h93 => ?_)
            · skip
              refine o_iload_n hx hb dX7_fallenShare_100 hl rfl ?_
              refine lv_i2f hx hb dX7_fallenShare_101 ?_
              refine o_iload_n hx hb dX7_fallenShare_102 hl rfl ?_
              refine lv_i2f hx hb dX7_fallenShare_103 ?_
              refine lv_fdiv hx hb dX7_fallenShare_104 (share_ok hNE (by omega) h81) ?_
              exact R_F hC hS hr hlk (by first | exact Or.inr ⟨1, (by simp only [cd_share]; exact cif_t h81), (by decide), hG⟩ | exact Or.inl ⟨(by simp only [cd_share]; exact cif_f h81), (by rfl), (by exact hG)⟩) (Nat.le_of_ble_eq_true rfl) (Nat.le_of_ble_eq_true rfl) dX7_fallenShare_105
            · exact absurd h93 (by decide)
        · skip
          refine lv_iconst (v := 1) hx hb dX7_fallenShare_84 (by decide) ?_
          refine lv_goto (tgt := 89) hx hb dX7_fallenShare_85 (by decide) ?_
          refine lv_iconst (v := 1) hx hb dX7_fallenShare_89 (by decide) ?_
          refine k_X7_isThrown hC hS hG (by first | exact Or.inl rfl | exact Or.inr rfl) ml_X7_94 ⟨Nat.le_of_ble_eq_true rfl, Nat.le_of_ble_eq_true rfl⟩ hl.1 (Nat.le_of_ble_eq_true rfl) dX7_fallenShare_90 ⟨Nat.le_of_ble_eq_true rfl, Nat.le_of_ble_eq_true rfl⟩ (fun h90_0 H locs hG hS => ?_) (fun h90_0 H locs hG hS => ?_)
          · skip
            refine lv_if_eq (tgt := 100) hx hb dX7_fallenShare_93 (by decide) (fun h93 => ?_) (fun h93 => ?_)
            · exact absurd h93 (by decide)
            · skip
              refine lv_fconst0 hx hb dX7_fallenShare_96 ?_
              refine lv_goto (tgt := 105) hx hb dX7_fallenShare_97 (by decide) ?_
              exact R_F hC hS hr hlk (by first | exact Or.inr ⟨1, (by simp only [cd_share]; exact cif_t h81), (by decide), hG⟩ | exact Or.inl ⟨(by simp only [cd_share]; exact cif_f h81), (by rfl), (by exact hG)⟩) (Nat.le_of_ble_eq_true rfl) (Nat.le_of_ble_eq_true rfl) dX7_fallenShare_105
          · skip
            exact absurd h90_0 (by decide)
      · skip
        refine lv_iconst (v := 0) hx hb dX7_fallenShare_14 (by decide) ?_
        refine o_istore hx hb dX7_fallenShare_15 hl (by decide) rfl (fun ls hl => ?_)
        have loop17 : ∀ (q9 : Nat) (v : Nat), v ≤ k 0 ∧ k 0 < v + q9 → ∀ ls : Array Slot, lo ls 5 [some (.ref (ad 13 0 0)), some (.int (alF T w + cnt (entP T w) v)), some (.int (flF T w + cnt (felP T w) v)), some (.int (nI w)), some (.int (nI v))] → W p l e ({ frames := 1, cells := 0, slots := 0, locals := 22 } : Room) s m [.ref (ad 13 0 0)].toArray below meth c s.heap [] 0 0 (MQ below (oF B (fun r H => (cd_share T k = 0 ∧ r = (vl_share T k) ∧ GW D B ad (Vw cy de ad S n T k 0 X) H) ∨ (∃ (t9 : Nat), cd_share T k = t9 ∧ ¬ t9 = 0 ∧ GW D B ad (Vw cy de ad S n T k (nI t9) X) H))) [.ref (ad 13 0 0)].toArray s 0 0 (AB B)) (F0 m 17 ls []) := by
          intro q9
          induction q9 with
          | zero => intro v hq9; exact absurd hq9 (by omega)
          | succ q9 ih17 =>
            intro v hq9   ls hl
            refine o_iload hx hb dX7_fallenShare_17 hl rfl ?_
            refine o_aload_n hx hb dX7_fallenShare_19 hl rfl ?_
            refine g_get hC hG us_X7 rfl 20 (by decide) fl_X7_80 V_model rfl dX7_fallenShare_20 ?_
            refine n_icmp_ge (tgt := 73) hx hb v (k 0) rfl rfl (by omega) (by omega) dX7_fallenShare_23 (by decide) (fun h23 => ?_) (fun h23 => ?_)
            · skip
              refine o_iinc1 hx hb dX7_fallenShare_73 hl rfl (by decide) rfl (fun ls hl => ?_)
              refine lv_goto (tgt := 6) hx hb dX7_fallenShare_76 (by decide) ?_
              exact ih6 (w + 1) (by omega) ls (by rw [show alF T (w + 1) = alF T w + cnt (entP T w) 16 from rfl, show flF T (w + 1) = flF T w + cnt (felP T w) 16 from rfl, en_16 hW, fe_16 hW hNE, show k 0 = v by omega]; exact lo_none (i := 4) hl)
            · skip
              refine o_iload_n hx hb dX7_fallenShare_26 hl rfl ?_
              refine o_aload_n hx hb dX7_fallenShare_27 hl rfl ?_
              refine g_get hC hG us_X7 rfl 17 (by decide) fl_X7_65 V_model rfl dX7_fallenShare_28 ?_
              refine o_iload_n hx hb dX7_fallenShare_31 hl rfl ?_
              refine g_aald hC hG 7 rfl rfl V_o17 _ rfl (by omega) (by omega) dX7_fallenShare_32 ?_
              refine o_iload hx hb dX7_fallenShare_33 hl rfl ?_
              refine g_iald hC hG (V_r17 (by omega)) _ rfl (by omega) (by omega) dX7_fallenShare_35 ?_
              refine lv_iconst (v := (-1)) hx hb dX7_fallenShare_36 (by decide) ?_
              refine lv_icmp_ne (tgt := 44) hx hb dX7_fallenShare_37 (by decide) (fun h37 => ?_) (fun h37 => ?_)
              · skip
                refine lv_iconst (v := 1) hx hb dX7_fallenShare_44 (by decide) ?_
                refine lv_iadd hx hb dX7_fallenShare_45 ?_
                refine o_istore_n hx hb dX7_fallenShare_46 hl (by decide) rfl (fun ls hl => ?_)
                try rw [Int32.add_zero] at hl
                refine o_iload_n hx hb dX7_fallenShare_47 hl rfl ?_
                refine o_aload_n hx hb dX7_fallenShare_48 hl rfl ?_
                refine g_get hC hG us_X7 rfl 18 (by decide) fl_X7_70 V_model rfl dX7_fallenShare_49 ?_
                refine o_iload_n hx hb dX7_fallenShare_52 hl rfl ?_
                refine g_aald hC hG 8 rfl rfl V_o18 _ rfl (by omega) (by omega) dX7_fallenShare_53 ?_
                refine o_iload hx hb dX7_fallenShare_54 hl rfl ?_
                refine g_zald hC hG (V_r18 (by omega)) _ rfl (by omega) (by omega) dX7_fallenShare_56 ?_
                refine lv_if_eq (tgt := 64) hx hb dX7_fallenShare_57 (by decide) (fun h57 => ?_) (fun h57 => ?_)
                · skip
                  refine lv_iconst (v := 0) hx hb dX7_fallenShare_64 (by decide) ?_
                  refine lv_iadd hx hb dX7_fallenShare_65 ?_
                  refine o_istore_n hx hb dX7_fallenShare_66 hl (by decide) rfl (fun ls hl => ?_)
                  try rw [Int32.add_zero] at hl
                  refine o_iinc1 hx hb dX7_fallenShare_67 hl rfl (by decide) rfl (fun ls hl => ?_)
                  refine lv_goto (tgt := 17) hx hb dX7_fallenShare_70 (by decide) ?_
                  exact ih17 (v + 1) (by omega) ls (by first | (rw [cnt_t (P := entP T w) h37, cnt_t (P := felP T w) h57, ← Int32.add_assoc, ← Int32.add_assoc]; exact hl) | (rw [cnt_t (P := entP T w) h37, cnt_f (P := felP T w) (fun z => z h57), ← Int32.add_assoc]; exact hl) | (rw [cnt_f (P := entP T w) (fun z => z h37), cnt_t (P := felP T w) h57, ← Int32.add_assoc]; exact hl) | (rw [cnt_f (P := entP T w) (fun z => z h37), cnt_f (P := felP T w) (fun z => z h57)]; exact hl))
                · skip
                  refine lv_iconst (v := 1) hx hb dX7_fallenShare_60 (by decide) ?_
                  refine lv_goto (tgt := 65) hx hb dX7_fallenShare_61 (by decide) ?_
                  refine lv_iadd hx hb dX7_fallenShare_65 ?_
                  refine o_istore_n hx hb dX7_fallenShare_66 hl (by decide) rfl (fun ls hl => ?_)
                  try rw [Int32.add_zero] at hl
                  refine o_iinc1 hx hb dX7_fallenShare_67 hl rfl (by decide) rfl (fun ls hl => ?_)
                  refine lv_goto (tgt := 17) hx hb dX7_fallenShare_70 (by decide) ?_
                  exact ih17 (v + 1) (by omega) ls (by first | (rw [cnt_t (P := entP T w) h37, cnt_t (P := felP T w) h57, ← Int32.add_assoc, ← Int32.add_assoc]; exact hl) | (rw [cnt_t (P := entP T w) h37, cnt_f (P := felP T w) (fun z => z h57), ← Int32.add_assoc]; exact hl) | (rw [cnt_f (P := entP T w) (fun z => z h37), cnt_t (P := felP T w) h57, ← Int32.add_assoc]; exact hl) | (rw [cnt_f (P := entP T w) (fun z => z h37), cnt_f (P := felP T w) (fun z => z h57)]; exact hl))
              · skip
                refine lv_iconst (v := 0) hx hb dX7_fallenShare_40 (by decide) ?_
                refine lv_goto (tgt := 45) hx hb dX7_fallenShare_41 (by decide) ?_
                refine lv_iadd hx hb dX7_fallenShare_45 ?_
                refine o_istore_n hx hb dX7_fallenShare_46 hl (by decide) rfl (fun ls hl => ?_)
                try rw [Int32.add_zero] at hl
                refine o_iload_n hx hb dX7_fallenShare_47 hl rfl ?_
                refine o_aload_n hx hb dX7_fallenShare_48 hl rfl ?_
                refine g_get hC hG us_X7 rfl 18 (by decide) fl_X7_70 V_model rfl dX7_fallenShare_49 ?_
                refine o_iload_n hx hb dX7_fallenShare_52 hl rfl ?_
                refine g_aald hC hG 8 rfl rfl V_o18 _ rfl (by omega) (by omega) dX7_fallenShare_53 ?_
                refine o_iload hx hb dX7_fallenShare_54 hl rfl ?_
                refine g_zald hC hG (V_r18 (by omega)) _ rfl (by omega) (by omega) dX7_fallenShare_56 ?_
                refine lv_if_eq (tgt := 64) hx hb dX7_fallenShare_57 (by decide) (fun h57 => ?_) (fun h57 => ?_)
                · skip
                  refine lv_iconst (v := 0) hx hb dX7_fallenShare_64 (by decide) ?_
                  refine lv_iadd hx hb dX7_fallenShare_65 ?_
                  refine o_istore_n hx hb dX7_fallenShare_66 hl (by decide) rfl (fun ls hl => ?_)
                  try rw [Int32.add_zero] at hl
                  refine o_iinc1 hx hb dX7_fallenShare_67 hl rfl (by decide) rfl (fun ls hl => ?_)
                  refine lv_goto (tgt := 17) hx hb dX7_fallenShare_70 (by decide) ?_
                  exact ih17 (v + 1) (by omega) ls (by first | (rw [cnt_t (P := entP T w) h37, cnt_t (P := felP T w) h57, ← Int32.add_assoc, ← Int32.add_assoc]; exact hl) | (rw [cnt_t (P := entP T w) h37, cnt_f (P := felP T w) (fun z => z h57), ← Int32.add_assoc]; exact hl) | (rw [cnt_f (P := entP T w) (fun z => z h37), cnt_t (P := felP T w) h57, ← Int32.add_assoc]; exact hl) | (rw [cnt_f (P := entP T w) (fun z => z h37), cnt_f (P := felP T w) (fun z => z h57)]; exact hl))
                · skip
                  refine lv_iconst (v := 1) hx hb dX7_fallenShare_60 (by decide) ?_
                  refine lv_goto (tgt := 65) hx hb dX7_fallenShare_61 (by decide) ?_
                  refine lv_iadd hx hb dX7_fallenShare_65 ?_
                  refine o_istore_n hx hb dX7_fallenShare_66 hl (by decide) rfl (fun ls hl => ?_)
                  try rw [Int32.add_zero] at hl
                  refine o_iinc1 hx hb dX7_fallenShare_67 hl rfl (by decide) rfl (fun ls hl => ?_)
                  refine lv_goto (tgt := 17) hx hb dX7_fallenShare_70 (by decide) ?_
                  exact ih17 (v + 1) (by omega) ls (by first | (rw [cnt_t (P := entP T w) h37, cnt_t (P := felP T w) h57, ← Int32.add_assoc, ← Int32.add_assoc]; exact hl) | (rw [cnt_t (P := entP T w) h37, cnt_f (P := felP T w) (fun z => z h57), ← Int32.add_assoc]; exact hl) | (rw [cnt_f (P := entP T w) (fun z => z h37), cnt_t (P := felP T w) h57, ← Int32.add_assoc]; exact hl) | (rw [cnt_f (P := entP T w) (fun z => z h37), cnt_f (P := felP T w) (fun z => z h57)]; exact hl))
        exact loop17 (k 0 + 1) 0 (by omega) ls (by rw [show alF T w + cnt (entP T w) 0 = alF T w from Int32.add_zero _, show flF T w + cnt (felP T w) 0 = flF T w from Int32.add_zero _]; exact hl)
  exact loop6 (k 3 + 1) 0 (by omega) ls hl
theorem k_X7_fallenShare {p : Program} {l : Launch} {e : Env} {R : Room} {s : State} {m : MethodId} {args : Array Value} {below : List Frame} {meth : Method} {c : Code} {H : Heap} {locs : List Loc} {cells slots : Nat} {Q : State → Prop} {cc : ByteArray} {pc nL : Nat} {ls : Array Slot} {rest : List Value} {own : String} {D : va_G} {cy : Nat → ClassId} {sa : Nat → Nat} {de B : Nat} {ad : Ad} {S : St} {n : Nat → Nat} {T : St} {k : Nat → Nat} {th : Int32} {X : Rl}   (hC : Cx p m c cc nL s args own D cy sa de B) (hS : va_S (AB B) s.heap H locs) (hG : GW D B ad (Vw cy de ad S n T k th X) H) (h0 : Inv T k)  {idx : Nat} (wl : Cond.methodLink own idx yX7_fallenShare ∈ G0) (hR : 1 + 1 ≤ R.frames ∧ 8 + (5 + 11) + 22 ≤ R.locals) (hsz : ls.size = nL) (hst : (rest.map fun v => v.category).sum ≤ 8) (hdg : decode cc pc = .ok (.invokevirtual idx, 3)) (hcs : cells + 0 ≤ R.cells ∧ slots + 0 ≤ R.slots) (k0 : (cd_share T k = 0) → ∀ (H1 : Heap) (locs1 : List Loc), GW D B ad (Vw cy de ad S n T k 0 X) H1 → va_S (AB B) s.heap H1 locs1 → W p l e R s m args below meth c H1 locs1 cells slots Q (F0 m (pc + 3) ls (.float (vl_share T k) :: rest))) (k1 : ∀ (r9 : UInt32), ∀ (t9 : Nat), (cd_share T k = t9) → (¬ t9 = 0) → ∀ (H1 : Heap) (locs1 : List Loc), GW D B ad (Vw cy de ad S n T k (nI t9) X) H1 → va_S (AB B) s.heap H1 locs1 → W p l e R s m args below meth c H1 locs1 cells slots Q (F0 m (pc + 3) ls (.float (r9) :: rest))) : W p l e R s m args below meth c H locs cells slots Q (F0 m pc ls (.ref (ad 13 0 0) :: rest)) :=
  va_callf (rV hC hS hG h0 (As := []) (c_X7_fallenShare l) ⟨rfl, rfl⟩ wl im_X7_fallenShare sl_X7_X7_fallenShare in_X7 cd_X7_fallenShare (n := 0) (by decide +kernel) hR (recv hC hG (q := (RX7, TX7, 26)) rfl V_model) rfl hsz hst rfl hdg hcs) hS (fun _ _ h => h) (fun _ h => h) (fun r u t H1 locs1 ht _ hr hB _ _ hS1 => by
      subst hr
      have hB9 := hB; try dsimp only at hB9
      rw [ht] at hB9
      rcases hB9 with ⟨q0, rfl, hG1⟩ | ⟨t9, q0, q1, hG1⟩
      · exact k0 q0 _ _ hG1 hS1
      · exact k1 r t9 q0 q1 _ _ hG1 hS1)
set_option maxHeartbeats 4000000 in
set_option maxRecDepth 100000 in
theorem c_X6_meanLack (l : Launch) (hfl : l.stackTraces = false) {D : va_G} {cy : Nat → ClassId} {sa : Nat → Nat} {de B : Nat} {ad : Ad} {S : St} {n : Nat → Nat} {T : St} {k : Nat → Nat} {th : Int32} {X : Rl} {x : Int32}  : vx_Met l yX6_meanLack (Cond.code yX6_meanLack cX6_meanLack 2 (Option.some Jvm.ClassFile.FieldType.double) :: G0) ({ frames := 7, cells := 1, slots := 6, locals := 103 } : Room) (va_Pc [.ref (ad 0 0 0), .int x] (PW D cy sa de B ad (Vw cy de ad S n T k th X) (Inv S n))) (oD B (fun r H => (cd_ath n x = 0 ∧ r = (vl_mean S (ci x)) ∧ GW D B ad (Vw cy de ad S n T k th X) H))) (oX B (fun E H => ((E = "java/lang/IndexOutOfBoundsException" ∧ cd_ath n x = 1)) ∧ GW D B ad (Vw cy de ad S n T k th X) H)) 1 6 (AB B) := by
  refine E_vx (own := RX6) rfl rfl (Nat.le_of_ble_eq_true rfl) ?_
  intro p e s m below meth c hC hr hlk hex hG h0 ls hl
  have hx := hC.x
  have hb := hC.b
  have hS : va_S (AB B) s.heap s.heap [] := va_S.rf
  have hl : lo ls 2 [some (.ref (ad 0 0 0)), some (.int x)] := lo_of hl
  have hI := h0
  obtain ⟨hCI, hD0, hD1, hD2, hB01, hF30, hK8, hMK, hU1, hU2, hS10, hEO, hCF, hFT, hME, hYR, hEK, hLA⟩ := h0
  obtain ⟨hW, hNE, hCH, hBL⟩ := hCI
  have hW9 := hW
  obtain ⟨hB0, hB1, hB2, hB3, hB4, hB5, hB6, hB7, hKI, hEI, hKY⟩ := hW9
  have hMB : MB n := ⟨hB0, hB1, hB2, hB3⟩
  have hKYm : KYm S n := hKY
  refine o_aload_n hx hb dX6_meanLack_0 hl rfl ?_
  refine o_iload_n hx hb dX6_meanLack_1 hl rfl ?_
  refine k_X6_needAthlete hfl hC hS hG hW ml_X6_53 ⟨Nat.le_of_ble_eq_true rfl, Nat.le_of_ble_eq_true rfl⟩ hl.1 (Nat.le_of_ble_eq_true rfl) dX6_meanLack_2 ⟨Nat.le_of_ble_eq_true rfl, Nat.le_of_ble_eq_true rfl⟩ hex hlk (Nat.le_of_ble_eq_true rfl) (Nat.le_of_ble_eq_true rfl) (fun E H1 hE => ⟨⟨hE.1.1, (by simp only [cd_ath]; exact cif_f hE.1.2)⟩, hE.2⟩) (fun a2 h2_0 h2_1 H locs hG hS => ?_)
  subst h2_1
  have z2 : ci (nI a2) = a2 := nI_clamp (by omega)
  refine g_get hC hG us_X0 rfl 2 (by decide) fl_X6_65 (V_ath (by omega)) rfl dX6_meanLack_5 ?_
  refine k_X5_sumOfLacks hC hS hG ⟨by omega, by omega⟩ ml_X6_393 ⟨Nat.le_of_ble_eq_true rfl, Nat.le_of_ble_eq_true rfl⟩ hl.1 (Nat.le_of_ble_eq_true rfl) dX6_meanLack_8 ⟨Nat.le_of_ble_eq_true rfl, Nat.le_of_ble_eq_true rfl⟩ ?_
  refine lv_i2d hx hb dX6_meanLack_11 ?_
  refine lv_ldc2d hx hb hC.o (hC.t _ ct_X6_396) dX6_meanLack_12 ?_
  refine lv_ddiv hx hb dX6_meanLack_15 (mean_ok (fun y hy => (hME a2 y h2_0 hy).1)) ?_
  refine vx_ret ?_
  exact R_D hC hS hr hlk (⟨(by simp only [cd_ath]; exact cif_t (ix_nI h2_0)), (by rw [z2]; rfl), (by exact hG)⟩) (Nat.le_of_ble_eq_true rfl) (Nat.le_of_ble_eq_true rfl) dX6_meanLack_16
theorem k_X6_meanLack {p : Program} {l : Launch} {e : Env} {R : Room} {s : State} {m : MethodId} {args : Array Value} {below : List Frame} {meth : Method} {c : Code} {H : Heap} {locs : List Loc} {cells slots : Nat} {cc : ByteArray} {pc nL : Nat} {ls : Array Slot} {rest : List Value} {own : String} {D : va_G} {cy : Nat → ClassId} {sa : Nat → Nat} {de B : Nat} {ad : Ad} {S : St} {n : Nat → Nat} {T : St} {k : Nat → Nat} {th : Int32} {X : Rl} {x : Int32} {mcc mss : Nat} {Qc : Array Value → State → Outcome → State → Prop} {GX : String → Heap → Prop} (hfl : l.stackTraces = false)  (hC : Cx p m c cc nL s args own D cy sa de B) (hS : va_S (AB B) s.heap H locs) (hG : GW D B ad (Vw cy de ad S n T k th X) H) (h0 : Inv S n)  {idx : Nat} (wl : Cond.methodLink own idx yX6_meanLack ∈ G0) (hR : 7 + 1 ≤ R.frames ∧ 8 + (2 + 11) + 103 ≤ R.locals) (hsz : ls.size = nL) (hst : (rest.map fun v => v.category).sum ≤ 8) (hdg : decode cc pc = .ok (.invokevirtual idx, 3)) (hcs : cells + 1 ≤ R.cells ∧ slots + 6 ≤ R.slots) (hex : ∀ x ∈ c.exceptionTable.toList, False) (hlk : meth.locks = false) (hmc : cells + 1 ≤ mcc) (hms : slots + 6 ≤ mss) (hxx : ∀ (E : String) (H1 : Heap), ((fun E H => ((E = "java/lang/IndexOutOfBoundsException" ∧ cd_ath n x = 1)) ∧ GW D B ad (Vw cy de ad S n T k th X) H)) E H1 → GX E H1) (k0 : (cd_ath n x = 0) → ∀ (H1 : Heap) (locs1 : List Loc), GW D B ad (Vw cy de ad S n T k th X) H1 → va_S (AB B) s.heap H1 locs1 → W p l e R s m args below meth c H1 locs1 (cells + 1) (slots + 6) (vx_MQ below Qc (oX B GX) args s mcc mss (AB B)) (F0 m (pc + 3) ls (.double (vl_mean S (ci x)) :: rest))) : W p l e R s m args below meth c H locs cells slots (vx_MQ below Qc (oX B GX) args s mcc mss (AB B)) (F0 m pc ls (.int x :: .ref (ad 0 0 0) :: rest)) :=
  vx_calld (xV hC hS hG h0 (As := [.int x]) (c_X6_meanLack l hfl) ⟨rfl, rfl⟩ wl im_X6_meanLack sl_X6_X6_meanLack in_X6 cd_X6_meanLack (n := 1) (by decide +kernel) hR (recv hC hG (q := (RX6, TX6, 6)) rfl V_games) rfl hsz hst rfl hdg hcs) hS (fun _ _ h => h) (fun _ h => h) (fun _ _ h => h) (fun E ce q9 u t H1 locs1 ht hv hp hB hz hq hS1 hce hcv hcl => prop_out hS1 hex hlk (hxx E H1 (by dsimp only at hB; rw [ht] at hB; exact hB)) hce hcv hcl hmc hms) (fun r u t H1 locs1 ht _ hr hB _ _ hS1 => by
      subst hr
      have hB9 := hB; try dsimp only at hB9
      rw [ht] at hB9
      rcases hB9 with ⟨q0, rfl, hG1⟩
      · exact k0 q0 _ _ hG1 hS1)
set_option maxHeartbeats 4000000 in
set_option maxRecDepth 100000 in
theorem c_X6_fallenShare (l : Launch) (hfl : l.stackTraces = false) {D : va_G} {cy : Nat → ClassId} {sa : Nat → Nat} {de B : Nat} {ad : Ad} {S : St} {n : Nat → Nat} {T : St} {k : Nat → Nat} {th : Int32} {X : Rl}   : vx_Met l yX6_fallenShare (Cond.code yX6_fallenShare cX6_fallenShare 4 (Option.some Jvm.ClassFile.FieldType.float) :: G0) ({ frames := 6, cells := 1, slots := 6, locals := 82 } : Room) (va_Pc [.ref (ad 0 0 0)] (PW D cy sa de B ad (Vw cy de ad S n T k th X) (Inv S n))) (oF B (fun r H => (cd_share S n = 0 ∧ r = (vl_share S n) ∧ GW D B ad (Vw cy de ad S n T k th X) H))) (oX B (fun E H => ((E = "java/util/NoSuchElementException" ∧ cd_share S n = 1)) ∧ GW D B ad (Vw cy de ad S n T k th X) H)) 1 6 (AB B) := by
  refine E_vx (own := RX6) rfl rfl (Nat.le_of_ble_eq_true rfl) ?_
  intro p e s m below meth c hC hr hlk hex hG h0 ls hl
  have hx := hC.x
  have hb := hC.b
  have hS : va_S (AB B) s.heap s.heap [] := va_S.rf
  have hl : lo ls 4 [some (.ref (ad 0 0 0)), none, none, none] := lo_of hl
  have hI := h0
  obtain ⟨hCI, hD0, hD1, hD2, hB01, hF30, hK8, hMK, hU1, hU2, hS10, hEO, hCF, hFT, hME, hYR, hEK, hLA⟩ := h0
  obtain ⟨hW, hNE, hCH, hBL⟩ := hCI
  have hW9 := hW
  obtain ⟨hB0, hB1, hB2, hB3, hB4, hB5, hB6, hB7, hKI, hEI, hKY⟩ := hW9
  have hMB : MB n := ⟨hB0, hB1, hB2, hB3⟩
  have hKYm : KYm S n := hKY
  refine lv_iconst (v := 0) hx hb dX6_fallenShare_0 (by decide) ?_
  refine o_istore_n hx hb dX6_fallenShare_1 hl (by decide) rfl (fun ls hl => ?_)
  refine lv_iconst (v := 0) hx hb dX6_fallenShare_2 (by decide) ?_
  refine o_istore_n hx hb dX6_fallenShare_3 hl (by decide) rfl (fun ls hl => ?_)
  refine lv_iconst (v := 0) hx hb dX6_fallenShare_4 (by decide) ?_
  refine o_istore_n hx hb dX6_fallenShare_5 hl (by decide) rfl (fun ls hl => ?_)
  have loop6 : ∀ (q9 : Nat) (w : Nat), w ≤ n 3 ∧ n 3 < w + q9 → ∀ ls : Array Slot, lo ls 4 [some (.ref (ad 0 0 0)), some (.int (alF S w)), some (.int (sdF S w)), some (.int (nI w))] → W p l e ({ frames := 6, cells := 1, slots := 6, locals := 82 } : Room) s m [.ref (ad 0 0 0)].toArray below meth c s.heap [] 0 0 (vx_MQ below (oF B (fun r H => (cd_share S n = 0 ∧ r = (vl_share S n) ∧ GW D B ad (Vw cy de ad S n T k th X) H))) (oX B (fun E H => ((E = "java/util/NoSuchElementException" ∧ cd_share S n = 1)) ∧ GW D B ad (Vw cy de ad S n T k th X) H)) [.ref (ad 0 0 0)].toArray s 1 6 (AB B)) (F0 m 6 ls []) := by
    intro q9
    induction q9 with
    | zero => intro w hq9; exact absurd hq9 (by omega)
    | succ q9 ih6 =>
      intro w hq9   ls hl
      refine o_iload_n hx hb dX6_fallenShare_6 hl rfl ?_
      refine o_aload_n hx hb dX6_fallenShare_7 hl rfl ?_
      refine g_get hC hG us_X6 rfl 3 (by decide) fl_X6_22 V_games rfl dX6_fallenShare_8 ?_
      refine k_Jx4a65c_size_8abf5 (q := 3) hC hS hG (by omega) ml_X6_33 ⟨Nat.le_of_ble_eq_true rfl, Nat.le_of_ble_eq_true rfl⟩ hl.1 (Nat.le_of_ble_eq_true rfl) dX6_fallenShare_11 ⟨Nat.le_of_ble_eq_true rfl, Nat.le_of_ble_eq_true rfl⟩ ?_
      refine n_icmp_ge (tgt := 57) hx hb w (n 3) rfl rfl (by omega) (by omega) dX6_fallenShare_14 (by decide) (fun h14 => ?_) (fun h14 => ?_)
      · skip
        rw [show w = n 3 by omega] at hl
        refine o_iload_n hx hb dX6_fallenShare_57 hl rfl ?_
        refine lv_if_ne (tgt := 72) hx hb dX6_fallenShare_58 (by decide) (fun h58 => ?_) (fun h58 => ?_)
        · skip
          refine o_iload_n hx hb dX6_fallenShare_72 hl rfl ?_
          refine o_iload_n hx hb dX6_fallenShare_73 hl rfl ?_
          refine lv_isub hx hb dX6_fallenShare_74 ?_
          refine lv_i2f hx hb dX6_fallenShare_75 ?_
          refine o_iload_n hx hb dX6_fallenShare_76 hl rfl ?_
          refine lv_i2f hx hb dX6_fallenShare_77 ?_
          refine lv_fdiv hx hb dX6_fallenShare_78 (by rw [share_eq hNE]; exact share_ok hNE (by omega) h58) ?_
          refine vx_ret ?_
          exact R_F hC hS hr hlk (⟨(by simp only [cd_share]; exact cif_f h58), (by unfold vl_share; rw [share_eq hNE]), (by exact hG)⟩) (Nat.le_of_ble_eq_true rfl) (Nat.le_of_ble_eq_true rfl) dX6_fallenShare_79
        · skip
          exact thrW_NS hC hfl hS hG hex hlk hl.1 (si := 45) rfl dX6_fallenShare_61 dX6_fallenShare_64 dX6_fallenShare_65 dX6_fallenShare_68 dX6_fallenShare_71 (Nat.le_of_ble_eq_true rfl) (Nat.le_of_ble_eq_true rfl) (Nat.le_of_ble_eq_true rfl) (Nat.le_of_ble_eq_true rfl) (fun H1 hG1 => ⟨⟨rfl, (by simp only [cd_share]; exact cif_t h58)⟩, hG1⟩) (Nat.le_of_ble_eq_true rfl) (Nat.le_of_ble_eq_true rfl)
      · skip
        refine o_iload_n hx hb dX6_fallenShare_17 hl rfl ?_
        refine o_aload_n hx hb dX6_fallenShare_18 hl rfl ?_
        refine g_get hC hG us_X6 rfl 3 (by decide) fl_X6_22 V_games rfl dX6_fallenShare_19 ?_
        refine o_iload_n hx hb dX6_fallenShare_22 hl rfl ?_
        refine k_Jx4a65c_get_915e3 (q := 3) hC hS hG ⟨by omega, by omega, by omega⟩ (show elT 3 = 8 from rfl) ml_X6_185 ⟨Nat.le_of_ble_eq_true rfl, Nat.le_of_ble_eq_true rfl⟩ hl.1 (Nat.le_of_ble_eq_true rfl) dX6_fallenShare_23 ⟨Nat.le_of_ble_eq_true rfl, Nat.le_of_ble_eq_true rfl⟩ ?_
        refine va_castS hx hb hC.o (hC.t _ cl_X6_221) (hC.K.1 4 _ rfl).2 (recv hC hG (q := (RX3, TX3, 5)) rfl (V_event (by omega))) dX6_fallenShare_26 ?_
        refine k_X3_countEntries hC hS hG ⟨by omega, hW, hNE⟩ ml_X6_266 ⟨Nat.le_of_ble_eq_true rfl, Nat.le_of_ble_eq_true rfl⟩ hl.1 (Nat.le_of_ble_eq_true rfl) dX6_fallenShare_29 ⟨Nat.le_of_ble_eq_true rfl, Nat.le_of_ble_eq_true rfl⟩ ?_
        refine lv_iadd hx hb dX6_fallenShare_32 ?_
        refine o_istore_n hx hb dX6_fallenShare_33 hl (by decide) rfl (fun ls hl => ?_)
        refine o_iload_n hx hb dX6_fallenShare_34 hl rfl ?_
        refine o_aload_n hx hb dX6_fallenShare_35 hl rfl ?_
        refine g_get hC hG us_X6 rfl 3 (by decide) fl_X6_22 V_games rfl dX6_fallenShare_36 ?_
        refine o_iload_n hx hb dX6_fallenShare_39 hl rfl ?_
        refine k_Jx4a65c_get_915e3 (q := 3) hC hS hG ⟨by omega, by omega, by omega⟩ (show elT 3 = 8 from rfl) ml_X6_185 ⟨Nat.le_of_ble_eq_true rfl, Nat.le_of_ble_eq_true rfl⟩ hl.1 (Nat.le_of_ble_eq_true rfl) dX6_fallenShare_40 ⟨Nat.le_of_ble_eq_true rfl, Nat.le_of_ble_eq_true rfl⟩ ?_
        refine va_castS hx hb hC.o (hC.t _ cl_X6_221) (hC.K.1 4 _ rfl).2 (recv hC hG (q := (RX3, TX3, 5)) rfl (V_event (by omega))) dX6_fallenShare_43 ?_
        refine k_X3_countNotFallen hC hS hG ⟨by omega, hW, hNE⟩ ml_X6_269 ⟨Nat.le_of_ble_eq_true rfl, Nat.le_of_ble_eq_true rfl⟩ hl.1 (Nat.le_of_ble_eq_true rfl) dX6_fallenShare_46 ⟨Nat.le_of_ble_eq_true rfl, Nat.le_of_ble_eq_true rfl⟩ ?_
        refine lv_iadd hx hb dX6_fallenShare_49 ?_
        refine o_istore_n hx hb dX6_fallenShare_50 hl (by decide) rfl (fun ls hl => ?_)
        refine o_iinc1 hx hb dX6_fallenShare_51 hl rfl (by decide) rfl (fun ls hl => ?_)
        refine lv_goto (tgt := 6) hx hb dX6_fallenShare_54 (by decide) ?_
        exact ih6 (w + 1) (by omega) ls hl
  exact loop6 (n 3 + 1) 0 (by omega) ls hl
theorem k_X6_fallenShare {p : Program} {l : Launch} {e : Env} {R : Room} {s : State} {m : MethodId} {args : Array Value} {below : List Frame} {meth : Method} {c : Code} {H : Heap} {locs : List Loc} {cells slots : Nat} {cc : ByteArray} {pc nL : Nat} {ls : Array Slot} {rest : List Value} {own : String} {D : va_G} {cy : Nat → ClassId} {sa : Nat → Nat} {de B : Nat} {ad : Ad} {S : St} {n : Nat → Nat} {T : St} {k : Nat → Nat} {th : Int32} {X : Rl}  {mcc mss : Nat} {Qc : Array Value → State → Outcome → State → Prop} {GX : String → Heap → Prop} (hfl : l.stackTraces = false)  (hC : Cx p m c cc nL s args own D cy sa de B) (hS : va_S (AB B) s.heap H locs) (hG : GW D B ad (Vw cy de ad S n T k th X) H) (h0 : Inv S n)  {idx : Nat} (wl : Cond.methodLink own idx yX6_fallenShare ∈ G0) (hR : 6 + 1 ≤ R.frames ∧ 8 + (4 + 11) + 82 ≤ R.locals) (hsz : ls.size = nL) (hst : (rest.map fun v => v.category).sum ≤ 8) (hdg : decode cc pc = .ok (.invokevirtual idx, 3)) (hcs : cells + 1 ≤ R.cells ∧ slots + 6 ≤ R.slots) (hex : ∀ x ∈ c.exceptionTable.toList, False) (hlk : meth.locks = false) (hmc : cells + 1 ≤ mcc) (hms : slots + 6 ≤ mss) (hxx : ∀ (E : String) (H1 : Heap), ((fun E H => ((E = "java/util/NoSuchElementException" ∧ cd_share S n = 1)) ∧ GW D B ad (Vw cy de ad S n T k th X) H)) E H1 → GX E H1) (k0 : (cd_share S n = 0) → ∀ (H1 : Heap) (locs1 : List Loc), GW D B ad (Vw cy de ad S n T k th X) H1 → va_S (AB B) s.heap H1 locs1 → W p l e R s m args below meth c H1 locs1 (cells + 1) (slots + 6) (vx_MQ below Qc (oX B GX) args s mcc mss (AB B)) (F0 m (pc + 3) ls (.float (vl_share S n) :: rest))) : W p l e R s m args below meth c H locs cells slots (vx_MQ below Qc (oX B GX) args s mcc mss (AB B)) (F0 m pc ls (.ref (ad 0 0 0) :: rest)) :=
  vx_callf (xV hC hS hG h0 (As := []) (c_X6_fallenShare l hfl) ⟨rfl, rfl⟩ wl im_X6_fallenShare sl_X6_X6_fallenShare in_X6 cd_X6_fallenShare (n := 0) (by decide +kernel) hR (recv hC hG (q := (RX6, TX6, 6)) rfl V_games) rfl hsz hst rfl hdg hcs) hS (fun _ _ h => h) (fun _ h => h) (fun _ _ h => h) (fun E ce q9 u t H1 locs1 ht hv hp hB hz hq hS1 hce hcv hcl => prop_out hS1 hex hlk (hxx E H1 (by dsimp only at hB; rw [ht] at hB; exact hB)) hce hcv hcl hmc hms) (fun r u t H1 locs1 ht _ hr hB _ _ hS1 => by
      subst hr
      have hB9 := hB; try dsimp only at hB9
      rw [ht] at hB9
      rcases hB9 with ⟨q0, rfl, hG1⟩
      · exact k0 q0 _ _ hG1 hS1)
