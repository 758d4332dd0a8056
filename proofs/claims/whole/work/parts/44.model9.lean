set_option maxHeartbeats 4000000 in
set_option maxRecDepth 100000 in
theorem c_X7_slot (l : Launch) {D : va_G} {cy : Nat → ClassId} {sa : Nat → Nat} {de B : Nat} {ad : Ad} {S : St} {n : Nat → Nat} {T : St} {k : Nat → Nat} {th : Int32} {X : Rl} {x y z : Int32}  : Met l yX7_slot (Cond.code yX7_slot cX7_slot 8 (Option.some Jvm.ClassFile.FieldType.int) :: G0) ({ frames := 2, cells := 1, slots := 6, locals := 52 } : Room) (va_Pc [.ref (ad 13 0 0), .int x, .int y, .int z] (PW D cy sa de B ad (Vw cy de ad S n T k th X) (Inv T k ∧ X 16 0 0 = none))) (oI B (fun r H => (cd_slot T k x y z = 0 ∧ r = (vl_slot T x z) ∧ GW D B ad (Vw cy de ad S n (T) (k) 0 X) H) ∨ (∃ (t9 : Nat), cd_slot T k x y z = t9 ∧ ¬ t9 = 0 ∧ GW D B ad (Vw cy de ad S n T k (nI t9) X) H))) 1 6 (AB B) := by
  refine E_met (own := RX7) rfl rfl (Nat.le_of_ble_eq_true rfl) ?_
  intro p e s m below meth c hC hr hlk hnm hG h0 ls hl
  have hx := hC.x
  have hb := hC.b
  have hS : va_S (AB B) s.heap s.heap [] := va_S.rf
  have hl : lo ls 8 [some (.ref (ad 13 0 0)), some (.int x), some (.int y), some (.int z), none, none, none, none] := lo_of hl
  obtain ⟨h0, hX⟩ := h0
  have hI := h0
  obtain ⟨hCI, hD0, hD1, hD2, hB01, hF30, hK8, hMK, hU1, hU2, hS10, hEO, hCF, hFT, hME, hYR, hEK, hLA⟩ := h0
  obtain ⟨hW, hNE, hCH, hBL⟩ := hCI
  have hW9 := hW
  obtain ⟨hB0, hB1, hB2, hB3, hB4, hB5, hB6, hB7, hKI, hEI, hKY⟩ := hW9
  have hMB : MB k := ⟨hB0, hB1, hB2, hB3⟩
  have hKYm : KYm T k := hKY
  refine o_aload_n hx hb dX7_slot_0 hl rfl ?_
  refine o_aload_n hx hb dX7_slot_1 hl rfl ?_
  refine o_iload_n hx hb dX7_slot_2 hl rfl ?_
  refine k_X7_isNoEvent hC hS hG hMB ml_X7_139 ⟨Nat.le_of_ble_eq_true rfl, Nat.le_of_ble_eq_true rfl⟩ hl.1 (Nat.le_of_ble_eq_true rfl) dX7_slot_3 ⟨Nat.le_of_ble_eq_true rfl, Nat.le_of_ble_eq_true rfl⟩ (fun h3 => ?_) (fun h3 => ?_)
  · skip
    refine lv_iconst (v := 1) hx hb dX7_slot_6 (by decide) ?_
    refine k_X7_isThrown hC hS hG (by first | exact Or.inl rfl | exact Or.inr rfl) ml_X7_94 ⟨Nat.le_of_ble_eq_true rfl, Nat.le_of_ble_eq_true rfl⟩ hl.1 (Nat.le_of_ble_eq_true rfl) dX7_slot_7 ⟨Nat.le_of_ble_eq_true rfl, Nat.le_of_ble_eq_true rfl⟩ (fun h7_0 H locs hG hS => ?_) (fun h7_0 H locs hG hS => ?_)
    · skip
      refine lv_if_ne (tgt := 36) hx hb dX7_slot_10 (by decide) (fun h10 => ?_) (fun h10 => ?_)
      · skip
        refine lv_iconst (v := 0) hx hb dX7_slot_36 (by decide) ?_
        exact R_I hC hS hr hlk rfl (by first | exact Or.inr ⟨1, (by simp only [cd_slot]; exact cif_f h3), (by decide), hG⟩ | exact Or.inr ⟨2, (by simp only [cd_slot, za3]; exact (cif_t (ix_nI ha3)).trans (cif_f h18)), (by decide), hG⟩) (Nat.le_of_ble_eq_true rfl) (Nat.le_of_ble_eq_true rfl) dX7_slot_37
      · exact absurd h10 (by decide)
    · skip
      exact absurd h7_0 (by decide)
  · skip
    refine lv_iconst (v := 1) hx hb dX7_slot_6 (by decide) ?_
    refine k_X7_isThrown hC hS hG (by first | exact Or.inl rfl | exact Or.inr rfl) ml_X7_94 ⟨Nat.le_of_ble_eq_true rfl, Nat.le_of_ble_eq_true rfl⟩ hl.1 (Nat.le_of_ble_eq_true rfl) dX7_slot_7 ⟨Nat.le_of_ble_eq_true rfl, Nat.le_of_ble_eq_true rfl⟩ (fun h7_0 H locs hG hS => ?_) (fun h7_0 H locs hG hS => ?_)
    · skip
      exact absurd h7_0 (by decide)
    · skip
      refine lv_if_ne (tgt := 36) hx hb dX7_slot_10 (by decide) (fun h10 => ?_) (fun h10 => ?_)
      · exact absurd h10 (by decide)
      · skip
        obtain ⟨a3, ha3, hxa3⟩ := Classical.not_not.mp h3
        subst hxa3
        have za3 : ci (nI a3) = a3 := nI_clamp (by omega)
        refine o_aload_n hx hb dX7_slot_13 hl rfl ?_
        refine o_iload_n hx hb dX7_slot_14 hl rfl ?_
        refine lv_iconst (v := 1) hx hb dX7_slot_15 (by decide) ?_
        refine lv_bipush (v := 16) hx hb dX7_slot_16 (by decide) ?_
        refine k_X7_isIn hC hS hG trivial ml_X7_83 ⟨Nat.le_of_ble_eq_true rfl, Nat.le_of_ble_eq_true rfl⟩ hl.1 (Nat.le_of_ble_eq_true rfl) dX7_slot_18 ⟨Nat.le_of_ble_eq_true rfl, Nat.le_of_ble_eq_true rfl⟩ (fun h18 => ?_) (fun h18 => ?_)
        · skip
          refine lv_if_ne (tgt := 28) hx hb dX7_slot_21 (by decide) (fun h21 => ?_) (fun h21 => ?_)
          · skip
            refine lv_iconst (v := 0) hx hb dX7_slot_28 (by decide) ?_
            refine lv_iconst (v := 2) hx hb dX7_slot_29 (by decide) ?_
            refine k_X7_isThrown hC hS hG (by first | exact Or.inl rfl | exact Or.inr rfl) ml_X7_94 ⟨Nat.le_of_ble_eq_true rfl, Nat.le_of_ble_eq_true rfl⟩ hl.1 (Nat.le_of_ble_eq_true rfl) dX7_slot_30 ⟨Nat.le_of_ble_eq_true rfl, Nat.le_of_ble_eq_true rfl⟩ (fun h30_0 H locs hG hS => ?_) (fun h30_0 H locs hG hS => ?_)
            · skip
              exact absurd h30_0 (by decide)
            · skip
              refine lv_if_eq (tgt := 38) hx hb dX7_slot_33 (by decide) (fun h33 => ?_) (fun h33 => ?_)
              · skip
                refine lv_bipush (v := 6) hx hb dX7_slot_38 (by decide) ?_
                refine g_newa hC hG hS (ty := .int) rfl (cA := cy 0) (hC.K.2 0 _ rfl).2 ac_80 (a0 := (6, .inl (fun _ => 0))) rfl (by decide) (by decide) (by decide) (Nat.le_of_ble_eq_true rfl) (Nat.le_of_ble_eq_true rfl) 16 0 0 ((V_X (by decide)).trans hX) dX7_slot_40 (fun q H hG hS => ?_)
                rw [Vw_loose (q := q) (by decide)] at hG
                obtain ⟨ad2, had⟩ : ∃ z, z = up3 ad 16 0 0 q := ⟨_, rfl⟩
                rw [← had] at hG
                have ead : ∀ t, t < 16 → ad2 t = ad t := fun t ht => by rw [had]; exact up3_c (by omega)
                have eq16 : ad2 16 0 0 = q := by rw [had]; exact up3_self
                rw [← eq16]
                have hl : lo ls 8 [some (.ref (ad2 13 0 0)), some (.int (nI a3)), some (.int y), some (.int z), none, none, none, none] := by rw [ead 13 (by decide)]; exact hl
                refine o_astore hx hb dX7_slot_42 hl (by decide) rfl (fun ls hl => ?_)
                refine lv_iconst (v := 0) hx hb dX7_slot_44 (by decide) ?_
                refine o_istore hx hb dX7_slot_45 hl (by decide) rfl (fun ls hl => ?_)
                refine lv_iconst (v := 0) hx hb dX7_slot_47 (by decide) ?_
                refine o_istore hx hb dX7_slot_48 hl (by decide) rfl (fun ls hl => ?_)
                have loop50 : ∀ (q9 : Nat) (w : Nat), w ≤ 16 ∧ 16 < w + q9 → (slF T a3 z 0 16 = slF T a3 z w (16 - w)) → ∀ (H : Heap) (locs : List Loc), GW D B ad2 (Vw cy de ad2 S n T k 0 (up3 X 16 0 0 (some (eI (cy 0) 6 (hvI T a3 w))))) H → va_S (AB B) s.heap H locs → ∀ ls : Array Slot, lo ls 8 [some (.ref (ad2 13 0 0)), some (.int (nI a3)), some (.int y), some (.int z), some (.ref (ad2 16 0 0)), some (.int (gv T a3 w)), some (.int (nI w)), none] → W p l e ({ frames := 2, cells := 1, slots := 6, locals := 52 } : Room) s m [.ref (ad 13 0 0), .int (nI a3), .int y, .int z].toArray below meth c H locs 1 6 (MQ below (oI B (fun r H => (cd_slot T k (nI a3) y z = 0 ∧ r = (vl_slot T (nI a3) z) ∧ GW D B ad (Vw cy de ad S n (T) (k) 0 X) H) ∨ (∃ (t9 : Nat), cd_slot T k (nI a3) y z = t9 ∧ ¬ t9 = 0 ∧ GW D B ad (Vw cy de ad S n T k (nI t9) X) H))) [.ref (ad 13 0 0), .int (nI a3), .int y, .int z].toArray s 1 6 (AB B)) (F0 m 50 ls []) := by
                  intro q9
                  induction q9 with
                  | zero => intro w hq9; exact absurd hq9 (by omega)
                  | succ q9 ih50 =>
                    intro w hq9 hf H locs hG hS ls hl
                    have hcN := cN_le (P := timeP T a3) 16
                    refine o_iload hx hb dX7_slot_50 hl rfl ?_
                    refine o_aload_n hx hb dX7_slot_52 hl rfl ?_
                    refine o_iload_n hx hb dX7_slot_53 hl rfl ?_
                    refine k_X7_results hC hS hG (by omega) ml_X7_162 ⟨Nat.le_of_ble_eq_true rfl, Nat.le_of_ble_eq_true rfl⟩ hl.1 (Nat.le_of_ble_eq_true rfl) dX7_slot_54 ⟨Nat.le_of_ble_eq_true rfl, Nat.le_of_ble_eq_true rfl⟩ ?_
                    rw [cnt_N (P := timeP T a3) 16]
                    refine n_icmp_ge (tgt := 126) hx hb w (cN (timeP T a3) 16) rfl rfl (by omega) (by omega) dX7_slot_57 (by decide) (fun h57 => ?_) (fun h57 => ?_)
                    · skip
                      refine o_aload_n hx hb dX7_slot_126 hl rfl ?_
                      refine lv_iconst (v := 3) hx hb dX7_slot_127 (by decide) ?_
                      refine g_put hC hG hS us_X7 tyX7_ok nmX7 rfl 25 (by decide) fl_X7_76 rfl V_model rfl rfl (Nat.le_of_ble_eq_true rfl) P_thrown dX7_slot_128 (fun H locs hG hS => ?_)
                      refine lv_iconst (v := 0) hx hb dX7_slot_131 (by decide) ?_
                      exact R_I hC hS hr hlk rfl (Or.inr ⟨3, (by simp only [cd_slot, za3]; exact (cif_t (ix_nI ha3)).trans ((cif_t h18).trans (cif_f (fun t => t.2 (hf.trans (by first | exact slF_full (by omega) (Int32.not_lt.mpr h63) t.1 | (cases hz : io T a3 w with
                            | none => exact slF_none hz _
                            | some v => exact absurd (io_lt (tl hW hNE) hz) (by omega)))))))), (by decide), GW_drop (by decide) hX had hG⟩) (Nat.le_of_ble_eq_true rfl) (Nat.le_of_ble_eq_true rfl) dX7_slot_132
                    · skip
                      obtain ⟨v, hio⟩ : ∃ v, io T a3 w = some v := by
                        cases hz : io T a3 w with
                        | none => exact absurd (io_end (tl hW hNE) w hz) (by omega)
                        | some v => exact ⟨v, rfl⟩
                      have hov : ordn T a3 (nI w) = some v := (cif_t (ix_nI (by omega))).trans (by rw [nI_clamp (by omega)]; exact hio)
                      have htv := io_time w hio
                      have hv0 := (time_lt hW hNE htv).2
                      obtain ⟨l6, hl6, hl5⟩ := hLA v hv0
                      refine o_iload hx hb dX7_slot_60 hl rfl ?_
                      refine o_iload_n hx hb dX7_slot_62 hl rfl ?_
                      refine lv_icmp_ge (tgt := 126) hx hb dX7_slot_63 (by decide) (fun h63 => ?_) (fun h63 => ?_)
                      · skip
                        refine o_aload_n hx hb dX7_slot_126 hl rfl ?_
                        refine lv_iconst (v := 3) hx hb dX7_slot_127 (by decide) ?_
                        refine g_put hC hG hS us_X7 tyX7_ok nmX7 rfl 25 (by decide) fl_X7_76 rfl V_model rfl rfl (Nat.le_of_ble_eq_true rfl) P_thrown dX7_slot_128 (fun H locs hG hS => ?_)
                        refine lv_iconst (v := 0) hx hb dX7_slot_131 (by decide) ?_
                        exact R_I hC hS hr hlk rfl (Or.inr ⟨3, (by simp only [cd_slot, za3]; exact (cif_t (ix_nI ha3)).trans ((cif_t h18).trans (cif_f (fun t => t.2 (hf.trans (by first | exact slF_full (by omega) (Int32.not_lt.mpr h63) t.1 | (cases hz : io T a3 w with
                              | none => exact slF_none hz _
                              | some v => exact absurd (io_lt (tl hW hNE) hz) (by omega)))))))), (by decide), GW_drop (by decide) hX had hG⟩) (Nat.le_of_ble_eq_true rfl) (Nat.le_of_ble_eq_true rfl) dX7_slot_132
                      · skip
                        refine o_aload_n hx hb dX7_slot_66 hl rfl ?_
                        refine o_iload_n hx hb dX7_slot_67 hl rfl ?_
                        refine o_iload hx hb dX7_slot_68 hl rfl ?_
                        refine k_X7_athleteAt hC hS hG ⟨by omega, hMB⟩ ml_X7_169 ⟨Nat.le_of_ble_eq_true rfl, Nat.le_of_ble_eq_true rfl⟩ hl.1 (Nat.le_of_ble_eq_true rfl) dX7_slot_70 ⟨Nat.le_of_ble_eq_true rfl, Nat.le_of_ble_eq_true rfl⟩ ?_
                        rw [at_some hW hNE hov]
                        refine o_istore hx hb dX7_slot_73 hl (by decide) rfl (fun ls hl => ?_)
                        refine o_aload hx hb dX7_slot_75 hl rfl ?_
                        refine o_aload_n hx hb dX7_slot_77 hl rfl ?_
                        refine g_get hC hG us_X7 rfl 0 (by decide) fl_X7_9 V_model rfl dX7_slot_78 ?_
                        refine o_iload hx hb dX7_slot_81 hl rfl ?_
                        refine g_iald hC hG V_m0 _ rfl (by omega) (by omega) dX7_slot_83 ?_
                        refine g_iald hC hG ((V_X (by decide)).trans up3_self) l6 hl5 (by omega) (by omega) dX7_slot_84 ?_
                        refine lv_iconst (v := 2) hx hb dX7_slot_85 (by decide) ?_
                        refine lv_icmp_ge (tgt := 120) hx hb dX7_slot_86 (by decide) (fun h86 => ?_) (fun h86 => ?_)
                        · skip
                          refine o_iinc1 hx hb dX7_slot_120 hl rfl (by decide) rfl (fun ls hl => ?_)
                          refine lv_goto (tgt := 50) hx hb dX7_slot_123 (by decide) ?_
                          first
                          | (have hc : ¬ cnt (lanP T a3 v) 16 < 2 := fun t => absurd h86 (Int32.not_le.mpr ((hvI_lt hl6).mpr ((lan_lt (tl hW hNE) hio hl5).mp t)))
                             exact ih50 (w + 1) (by omega) (hf.trans (slF_no (by omega) hio (fun t => hc t.1))) H locs (by rw [← hvI_no hio hl5 hl6 (Int32.not_lt.mpr h86)]; exact hG) hS ls (by rw [gv_f hio hc]; exact lo_none (i := 7) hl))
                          | (have hc : cnt (lanP T a3 v) 16 < 2 := ((lan_lt (tl hW hNE) hio hl5).mpr ((hvI_lt hl6).mp (Int32.not_le.mp h86)))
                             exact ih50 (w + 1) (by omega) (hf.trans (slF_no (by omega) hio (fun t => h106 t.2))) H locs (by rw [← hvI_up hio hl5 hl6 (Int32.not_le.mp h86)]; exact hG) hS ls (by rw [gv_t hio hc]; exact lo_none (i := 7) hl))
                        · skip
                          refine o_aload hx hb dX7_slot_89 hl rfl ?_
                          refine o_aload_n hx hb dX7_slot_91 hl rfl ?_
                          refine g_get hC hG us_X7 rfl 0 (by decide) fl_X7_9 V_model rfl dX7_slot_92 ?_
                          refine o_iload hx hb dX7_slot_95 hl rfl ?_
                          refine g_iald hC hG V_m0 _ rfl (by omega) (by omega) dX7_slot_97 ?_
                          refine lv_dup2_11 hx hb dX7_slot_98 rfl rfl ?_
                          refine g_iald hC hG ((V_X (by decide)).trans up3_self) l6 hl5 (by omega) (by omega) dX7_slot_99 ?_
                          refine lv_iconst (v := 1) hx hb dX7_slot_100 (by decide) ?_
                          refine lv_iadd hx hb dX7_slot_101 ?_
                          refine g_iast hC hG hS ((V_X (by decide)).trans up3_self) l6 hl5 (by omega) (by omega) (P_loose (by decide)) dX7_slot_102 (fun H locs hG hS => ?_)
                          refine o_iload hx hb dX7_slot_103 hl rfl ?_
                          refine o_iload_n hx hb dX7_slot_105 hl rfl ?_
                          refine lv_icmp_ne (tgt := 117) hx hb dX7_slot_106 (by decide) (fun h106 => ?_) (fun h106 => ?_)
                          · skip
                            refine o_iinc hx hb dX7_slot_117 hl rfl (show _ + 1 = _ from rfl) (by decide) rfl (fun ls hl => ?_)
                            refine o_iinc1 hx hb dX7_slot_120 hl rfl (by decide) rfl (fun ls hl => ?_)
                            refine lv_goto (tgt := 50) hx hb dX7_slot_123 (by decide) ?_
                            first
                            | (have hc : ¬ cnt (lanP T a3 v) 16 < 2 := fun t => absurd h86 (Int32.not_le.mpr ((hvI_lt hl6).mpr ((lan_lt (tl hW hNE) hio hl5).mp t)))
                               exact ih50 (w + 1) (by omega) (hf.trans (slF_no (by omega) hio (fun t => hc t.1))) H locs (by rw [← hvI_no hio hl5 hl6 (Int32.not_lt.mpr h86)]; exact hG) hS ls (by rw [gv_f hio hc]; exact lo_none (i := 7) hl))
                            | (have hc : cnt (lanP T a3 v) 16 < 2 := ((lan_lt (tl hW hNE) hio hl5).mpr ((hvI_lt hl6).mp (Int32.not_le.mp h86)))
                               exact ih50 (w + 1) (by omega) (hf.trans (slF_no (by omega) hio (fun t => h106 t.2))) H locs (by rw [← hvI_up hio hl5 hl6 (Int32.not_le.mp h86)]; exact hG) hS ls (by rw [gv_t hio hc]; exact lo_none (i := 7) hl))
                          · skip
                            refine o_aload_n hx hb dX7_slot_109 hl rfl ?_
                            refine lv_iconst (v := 0) hx hb dX7_slot_110 (by decide) ?_
                            refine g_put hC hG hS us_X7 tyX7_ok nmX7 rfl 25 (by decide) fl_X7_76 rfl V_model rfl rfl (Nat.le_of_ble_eq_true rfl) P_thrown dX7_slot_111 (fun H locs hG hS => ?_)
                            refine o_iload hx hb dX7_slot_114 hl rfl ?_
                            exact R_I hC hS hr hlk rfl (Or.inl ⟨(by simp only [cd_slot, za3]; exact (cif_t (ix_nI ha3)).trans ((cif_t h18).trans (cif_t ⟨h106 ▸ Int32.not_le.mp h63, by rw [(hf.trans (slF_yes (by omega) hio ⟨((lan_lt (tl hW hNE) hio hl5).mpr ((hvI_lt hl6).mp (Int32.not_le.mp h86))), h106⟩))]; exact fun t => nomatch t⟩))), (by unfold vl_slot; rw [za3, (hf.trans (slF_yes (by omega) hio ⟨((lan_lt (tl hW hNE) hio hl5).mpr ((hvI_lt hl6).mp (Int32.not_le.mp h86))), h106⟩))]; rfl), (by exact GW_drop (by decide) hX had hG)⟩) (Nat.le_of_ble_eq_true rfl) (Nat.le_of_ble_eq_true rfl) dX7_slot_116
                exact loop50 17 0 (by omega) rfl H locs (by rw [hvI_0]; exact hG) hS ls hl
              · exact absurd h33 (by decide)
          · exact absurd h21 (by decide)
        · skip
          refine lv_if_ne (tgt := 28) hx hb dX7_slot_21 (by decide) (fun h21 => ?_) (fun h21 => ?_)
          · exact absurd h21 (by decide)
          · skip
            refine lv_iconst (v := 1) hx hb dX7_slot_24 (by decide) ?_
            refine lv_goto (tgt := 29) hx hb dX7_slot_25 (by decide) ?_
            refine lv_iconst (v := 2) hx hb dX7_slot_29 (by decide) ?_
            refine k_X7_isThrown hC hS hG (by first | exact Or.inl rfl | exact Or.inr rfl) ml_X7_94 ⟨Nat.le_of_ble_eq_true rfl, Nat.le_of_ble_eq_true rfl⟩ hl.1 (Nat.le_of_ble_eq_true rfl) dX7_slot_30 ⟨Nat.le_of_ble_eq_true rfl, Nat.le_of_ble_eq_true rfl⟩ (fun h30_0 H locs hG hS => ?_) (fun h30_0 H locs hG hS => ?_)
            · skip
              refine lv_if_eq (tgt := 38) hx hb dX7_slot_33 (by decide) (fun h33 => ?_) (fun h33 => ?_)
              · exact absurd h33 (by decide)
              · skip
                refine lv_iconst (v := 0) hx hb dX7_slot_36 (by decide) ?_
                exact R_I hC hS hr hlk rfl (by first | exact Or.inr ⟨1, (by simp only [cd_slot]; exact cif_f h3), (by decide), hG⟩ | exact Or.inr ⟨2, (by simp only [cd_slot, za3]; exact (cif_t (ix_nI ha3)).trans (cif_f h18)), (by decide), hG⟩) (Nat.le_of_ble_eq_true rfl) (Nat.le_of_ble_eq_true rfl) dX7_slot_37
            · skip
              exact absurd h30_0 (by decide)
theorem k_X7_slot {p : Program} {l : Launch} {e : Env} {R : Room} {s : State} {m : MethodId} {args : Array Value} {below : List Frame} {meth : Method} {c : Code} {H : Heap} {locs : List Loc} {cells slots : Nat} {Q : State → Prop} {cc : ByteArray} {pc nL : Nat} {ls : Array Slot} {rest : List Value} {own : String} {D : va_G} {cy : Nat → ClassId} {sa : Nat → Nat} {de B : Nat} {ad : Ad} {S : St} {n : Nat → Nat} {T : St} {k : Nat → Nat} {th : Int32} {X : Rl} {x y z : Int32}  (hC : Cx p m c cc nL s args own D cy sa de B) (hS : va_S (AB B) s.heap H locs) (hG : GW D B ad (Vw cy de ad S n T k th X) H) (h0 : Inv T k ∧ X 16 0 0 = none)  {idx : Nat} (wl : Cond.methodLink own idx yX7_slot ∈ G0) (hR : 2 + 1 ≤ R.frames ∧ 8 + (8 + 11) + 52 ≤ R.locals) (hsz : ls.size = nL) (hst : (rest.map fun v => v.category).sum ≤ 8) (hdg : decode cc pc = .ok (.invokevirtual idx, 3)) (hcs : cells + 1 ≤ R.cells ∧ slots + 6 ≤ R.slots) (k0 : (cd_slot T k x y z = 0) → ∀ (H1 : Heap) (locs1 : List Loc), GW D B ad (Vw cy de ad S n (T) (k) 0 X) H1 → va_S (AB B) s.heap H1 locs1 → W p l e R s m args below meth c H1 locs1 (cells + 1) (slots + 6) Q (F0 m (pc + 3) ls (.int (vl_slot T x z) :: rest))) (k1 : ∀ (r9 : Int32), ∀ (t9 : Nat), (cd_slot T k x y z = t9) → (¬ t9 = 0) → ∀ (H1 : Heap) (locs1 : List Loc), GW D B ad (Vw cy de ad S n T k (nI t9) X) H1 → va_S (AB B) s.heap H1 locs1 → W p l e R s m args below meth c H1 locs1 (cells + 1) (slots + 6) Q (F0 m (pc + 3) ls (.int r9 :: rest))) : W p l e R s m args below meth c H locs cells slots Q (F0 m pc ls (.int z :: .int y :: .int x :: .ref (ad 13 0 0) :: rest)) :=
  va_calli (rV hC hS hG h0 (As := [.int x, .int y, .int z]) (c_X7_slot l) ⟨rfl, rfl⟩ wl im_X7_slot sl_X7_X7_slot in_X7 cd_X7_slot (n := 3) (by decide +kernel) hR (recv hC hG (q := (RX7, TX7, 26)) rfl V_model) rfl hsz hst rfl hdg hcs) hS (fun _ _ h => h) (fun _ h => h) (fun r u t H1 locs1 ht _ hr hB _ _ hS1 => by
      subst hr
      have hB9 := hB; try dsimp only at hB9
      rw [ht] at hB9
      rcases hB9 with ⟨q0, rfl, hG1⟩ | ⟨t9, q0, q1, hG1⟩
      · exact k0 q0 _ _ hG1 hS1
      · exact k1 r t9 q0 q1 _ _ hG1 hS1)
