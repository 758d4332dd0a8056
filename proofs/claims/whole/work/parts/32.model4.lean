set_option maxHeartbeats 4000000 in
set_option maxRecDepth 100000 in
theorem c_X7_body (l : Launch) {D : va_G} {cy : Nat → ClassId} {sa : Nat → Nat} {de B : Nat} {ad : Ad} {S : St} {n : Nat → Nat} {T : St} {k : Nat → Nat} {th : Int32} {X : Rl} {x y z : Int32}  : Met l yX7_body (Cond.code yX7_body cX7_body 5 (Option.some Jvm.ClassFile.FieldType.int) :: G0) ({ frames := 2, cells := 0, slots := 0, locals := 43 } : Room) (va_Pc [.ref (ad 13 0 0), .int x, .int y, .int z] (PW D cy sa de B ad (Vw cy de ad S n T k th X) (Inv T k))) (oI B (fun r H => (cd_body k x y z = 0 ∧ r = (T 6 (ci x) (ci y)) ∧ GW D B ad (Vw cy de ad S n (up_body T x y z) (k) 0 X) H) ∨ (∃ (t9 : Nat), cd_body k x y z = t9 ∧ ¬ t9 = 0 ∧ GW D B ad (Vw cy de ad S n T k (nI t9) X) H))) 0 0 (AB B) := by
  refine E_met (own := RX7) rfl rfl (Nat.le_of_ble_eq_true rfl) ?_
  intro p e s m below meth c hC hr hlk hnm hG h0 ls hl
  have hx := hC.x
  have hb := hC.b
  have hS : va_S (AB B) s.heap s.heap [] := va_S.rf
  have hl : lo ls 5 [some (.ref (ad 13 0 0)), some (.int x), some (.int y), some (.int z), none] := lo_of hl
  have hI := h0
  obtain ⟨hCI, hD0, hD1, hD2, hB01, hF30, hK8, hMK, hU1, hU2, hS10, hEO, hCF, hFT, hME, hYR, hEK, hLA⟩ := h0
  obtain ⟨hW, hNE, hCH, hBL⟩ := hCI
  have hW9 := hW
  obtain ⟨hB0, hB1, hB2, hB3, hB4, hB5, hB6, hB7, hKI, hEI, hKY⟩ := hW9
  have hMB : MB k := ⟨hB0, hB1, hB2, hB3⟩
  have hKYm : KYm T k := hKY
  refine o_aload_n hx hb dX7_body_0 hl rfl ?_
  refine o_aload_n hx hb dX7_body_1 hl rfl ?_
  refine o_iload_n hx hb dX7_body_2 hl rfl ?_
  refine k_X7_isNoAthlete hC hS hG hMB ml_X7_98 ⟨Nat.le_of_ble_eq_true rfl, Nat.le_of_ble_eq_true rfl⟩ hl.1 (Nat.le_of_ble_eq_true rfl) dX7_body_3 ⟨Nat.le_of_ble_eq_true rfl, Nat.le_of_ble_eq_true rfl⟩ (fun h3 => ?_) (fun h3 => ?_)
  · skip
    refine lv_iconst (v := 1) hx hb dX7_body_6 (by decide) ?_
    refine k_X7_isThrown hC hS hG (by first | exact Or.inl rfl | exact Or.inr rfl) ml_X7_94 ⟨Nat.le_of_ble_eq_true rfl, Nat.le_of_ble_eq_true rfl⟩ hl.1 (Nat.le_of_ble_eq_true rfl) dX7_body_7 ⟨Nat.le_of_ble_eq_true rfl, Nat.le_of_ble_eq_true rfl⟩ (fun h7_0 H locs hG hS => ?_) (fun h7_0 H locs hG hS => ?_)
    · skip
      refine lv_if_ne (tgt := 43) hx hb dX7_body_10 (by decide) (fun h10 => ?_) (fun h10 => ?_)
      · skip
        refine lv_iconst (v := 0) hx hb dX7_body_43 (by decide) ?_
        exact R_I hC hS hr hlk rfl (by first | exact Or.inr ⟨1, (by simp only [cd_body]; exact cif_f h3), (by decide), hG⟩ | exact Or.inr ⟨2, (by simp only [cd_body]; exact (cif_t (ix_nI ha3)).trans (cif_f (fun z => by first | exact h15 z.1 | exact h25 z.2))), (by decide), hG⟩) (Nat.le_of_ble_eq_true rfl) (Nat.le_of_ble_eq_true rfl) dX7_body_44
      · exact absurd h10 (by decide)
    · skip
      exact absurd h7_0 (by decide)
  · skip
    refine lv_iconst (v := 1) hx hb dX7_body_6 (by decide) ?_
    refine k_X7_isThrown hC hS hG (by first | exact Or.inl rfl | exact Or.inr rfl) ml_X7_94 ⟨Nat.le_of_ble_eq_true rfl, Nat.le_of_ble_eq_true rfl⟩ hl.1 (Nat.le_of_ble_eq_true rfl) dX7_body_7 ⟨Nat.le_of_ble_eq_true rfl, Nat.le_of_ble_eq_true rfl⟩ (fun h7_0 H locs hG hS => ?_) (fun h7_0 H locs hG hS => ?_)
    · skip
      exact absurd h7_0 (by decide)
    · skip
      refine lv_if_ne (tgt := 43) hx hb dX7_body_10 (by decide) (fun h10 => ?_) (fun h10 => ?_)
      · exact absurd h10 (by decide)
      · skip
        obtain ⟨a3, ha3, hxa3⟩ := Classical.not_not.mp h3
        subst hxa3
        have za3 : ci (nI a3) = a3 := nI_clamp (by omega)
        refine o_aload_n hx hb dX7_body_13 hl rfl ?_
        refine o_iload_n hx hb dX7_body_14 hl rfl ?_
        refine k_X7_isMeasure hC hS hG trivial ml_X7_101 ⟨Nat.le_of_ble_eq_true rfl, Nat.le_of_ble_eq_true rfl⟩ hl.1 (Nat.le_of_ble_eq_true rfl) dX7_body_15 ⟨Nat.le_of_ble_eq_true rfl, Nat.le_of_ble_eq_true rfl⟩ (fun h15 => ?_) (fun h15 => ?_)
        · skip
          refine lv_if_eq (tgt := 31) hx hb dX7_body_18 (by decide) (fun h18 => ?_) (fun h18 => ?_)
          · exact absurd h18 (by decide)
          · skip
            refine o_iload_n hx hb dX7_body_21 hl rfl ?_
            refine lv_iconst (v := 0) hx hb dX7_body_22 (by decide) ?_
            refine lv_bipush (v := 100) hx hb dX7_body_23 (by decide) ?_
            refine k_X7_isIn hC hS hG trivial ml_X7_83 ⟨Nat.le_of_ble_eq_true rfl, Nat.le_of_ble_eq_true rfl⟩ hl.1 (Nat.le_of_ble_eq_true rfl) dX7_body_25 ⟨Nat.le_of_ble_eq_true rfl, Nat.le_of_ble_eq_true rfl⟩ (fun h25 => ?_) (fun h25 => ?_)
            · skip
              refine lv_if_ne (tgt := 35) hx hb dX7_body_28 (by decide) (fun h28 => ?_) (fun h28 => ?_)
              · skip
                refine lv_iconst (v := 0) hx hb dX7_body_35 (by decide) ?_
                refine lv_iconst (v := 2) hx hb dX7_body_36 (by decide) ?_
                refine k_X7_isThrown hC hS hG (by first | exact Or.inl rfl | exact Or.inr rfl) ml_X7_94 ⟨Nat.le_of_ble_eq_true rfl, Nat.le_of_ble_eq_true rfl⟩ hl.1 (Nat.le_of_ble_eq_true rfl) dX7_body_37 ⟨Nat.le_of_ble_eq_true rfl, Nat.le_of_ble_eq_true rfl⟩ (fun h37_0 H locs hG hS => ?_) (fun h37_0 H locs hG hS => ?_)
                · skip
                  exact absurd h37_0 (by decide)
                · skip
                  refine lv_if_eq (tgt := 45) hx hb dX7_body_40 (by decide) (fun h40 => ?_) (fun h40 => ?_)
                  · skip
                    obtain ⟨b7, hb7, hxb7⟩ := h15
                    subst hxb7
                    have zb7 : ci (nI b7) = b7 := nI_clamp (by omega)
                    refine o_aload_n hx hb dX7_body_45 hl rfl ?_
                    refine g_get hC hG us_X7 rfl 1 (by decide) fl_X7_15 V_model rfl dX7_body_46 ?_
                    refine o_iload_n hx hb dX7_body_49 hl rfl ?_
                    refine g_aald hC hG 7 rfl rfl V_o1 _ rfl (by omega) (by omega) dX7_body_50 ?_
                    refine o_iload_n hx hb dX7_body_51 hl rfl ?_
                    refine g_iald hC hG (V_r1 (by omega)) _ rfl (by omega) (by omega) dX7_body_52 ?_
                    refine o_istore hx hb dX7_body_53 hl (by decide) rfl (fun ls hl => ?_)
                    refine o_aload_n hx hb dX7_body_55 hl rfl ?_
                    refine g_get hC hG us_X7 rfl 1 (by decide) fl_X7_15 V_model rfl dX7_body_56 ?_
                    refine o_iload_n hx hb dX7_body_59 hl rfl ?_
                    refine g_aald hC hG 7 rfl rfl V_o1 _ rfl (by omega) (by omega) dX7_body_60 ?_
                    refine o_iload_n hx hb dX7_body_61 hl rfl ?_
                    refine o_iload_n hx hb dX7_body_62 hl rfl ?_
                    refine g_iast hC hG hS (V_r1 (by omega)) _ rfl (by omega) (by omega) (P_r1 (by omega)) dX7_body_63 (fun H locs hG hS => ?_)
                    refine o_iload hx hb dX7_body_64 hl rfl ?_
                    exact R_I hC hS hr hlk rfl (Or.inl ⟨(by simp only [cd_body]; exact (cif_t (ix_nI ha3)).trans (cif_t ⟨ix_nI hb7, h25⟩)), (by rw [za3, zb7]), (by simp only [up_body, za3, zb7]; exact hG)⟩) (Nat.le_of_ble_eq_true rfl) (Nat.le_of_ble_eq_true rfl) dX7_body_66
                  · exact absurd h40 (by decide)
              · exact absurd h28 (by decide)
            · skip
              refine lv_if_ne (tgt := 35) hx hb dX7_body_28 (by decide) (fun h28 => ?_) (fun h28 => ?_)
              · exact absurd h28 (by decide)
              · skip
                refine lv_iconst (v := 1) hx hb dX7_body_31 (by decide) ?_
                refine lv_goto (tgt := 36) hx hb dX7_body_32 (by decide) ?_
                refine lv_iconst (v := 2) hx hb dX7_body_36 (by decide) ?_
                refine k_X7_isThrown hC hS hG (by first | exact Or.inl rfl | exact Or.inr rfl) ml_X7_94 ⟨Nat.le_of_ble_eq_true rfl, Nat.le_of_ble_eq_true rfl⟩ hl.1 (Nat.le_of_ble_eq_true rfl) dX7_body_37 ⟨Nat.le_of_ble_eq_true rfl, Nat.le_of_ble_eq_true rfl⟩ (fun h37_0 H locs hG hS => ?_) (fun h37_0 H locs hG hS => ?_)
                · skip
                  refine lv_if_eq (tgt := 45) hx hb dX7_body_40 (by decide) (fun h40 => ?_) (fun h40 => ?_)
                  · exact absurd h40 (by decide)
                  · skip
                    refine lv_iconst (v := 0) hx hb dX7_body_43 (by decide) ?_
                    exact R_I hC hS hr hlk rfl (by first | exact Or.inr ⟨1, (by simp only [cd_body]; exact cif_f h3), (by decide), hG⟩ | exact Or.inr ⟨2, (by simp only [cd_body]; exact (cif_t (ix_nI ha3)).trans (cif_f (fun z => by first | exact h15 z.1 | exact h25 z.2))), (by decide), hG⟩) (Nat.le_of_ble_eq_true rfl) (Nat.le_of_ble_eq_true rfl) dX7_body_44
                · skip
                  exact absurd h37_0 (by decide)
        · skip
          refine lv_if_eq (tgt := 31) hx hb dX7_body_18 (by decide) (fun h18 => ?_) (fun h18 => ?_)
          · skip
            refine lv_iconst (v := 1) hx hb dX7_body_31 (by decide) ?_
            refine lv_goto (tgt := 36) hx hb dX7_body_32 (by decide) ?_
            refine lv_iconst (v := 2) hx hb dX7_body_36 (by decide) ?_
            refine k_X7_isThrown hC hS hG (by first | exact Or.inl rfl | exact Or.inr rfl) ml_X7_94 ⟨Nat.le_of_ble_eq_true rfl, Nat.le_of_ble_eq_true rfl⟩ hl.1 (Nat.le_of_ble_eq_true rfl) dX7_body_37 ⟨Nat.le_of_ble_eq_true rfl, Nat.le_of_ble_eq_true rfl⟩ (fun h37_0 H locs hG hS => ?_) (fun h37_0 H locs hG hS => ?_)
            · skip
              refine lv_if_eq (tgt := 45) hx hb dX7_body_40 (by decide) (fun h40 => ?_) (fun h40 => ?_)
              · exact absurd h40 (by decide)
              · skip
                refine lv_iconst (v := 0) hx hb dX7_body_43 (by decide) ?_
                exact R_I hC hS hr hlk rfl (by first | exact Or.inr ⟨1, (by simp only [cd_body]; exact cif_f h3), (by decide), hG⟩ | exact Or.inr ⟨2, (by simp only [cd_body]; exact (cif_t (ix_nI ha3)).trans (cif_f (fun z => by first | exact h15 z.1 | exact h25 z.2))), (by decide), hG⟩) (Nat.le_of_ble_eq_true rfl) (Nat.le_of_ble_eq_true rfl) dX7_body_44
            · skip
              exact absurd h37_0 (by decide)
          · exact absurd h18 (by decide)
theorem k_X7_body {p : Program} {l : Launch} {e : Env} {R : Room} {s : State} {m : MethodId} {args : Array Value} {below : List Frame} {meth : Method} {c : Code} {H : Heap} {locs : List Loc} {cells slots : Nat} {Q : State → Prop} {cc : ByteArray} {pc nL : Nat} {ls : Array Slot} {rest : List Value} {own : String} {D : va_G} {cy : Nat → ClassId} {sa : Nat → Nat} {de B : Nat} {ad : Ad} {S : St} {n : Nat → Nat} {T : St} {k : Nat → Nat} {th : Int32} {X : Rl} {x y z : Int32}  (hC : Cx p m c cc nL s args own D cy sa de B) (hS : va_S (AB B) s.heap H locs) (hG : GW D B ad (Vw cy de ad S n T k th X) H) (h0 : Inv T k)  {idx : Nat} (wl : Cond.methodLink own idx yX7_body ∈ G0) (hR : 2 + 1 ≤ R.frames ∧ 8 + (5 + 11) + 43 ≤ R.locals) (hsz : ls.size = nL) (hst : (rest.map fun v => v.category).sum ≤ 8) (hdg : decode cc pc = .ok (.invokevirtual idx, 3)) (hcs : cells + 0 ≤ R.cells ∧ slots + 0 ≤ R.slots) (k0 : (cd_body k x y z = 0) → ∀ (H1 : Heap) (locs1 : List Loc), GW D B ad (Vw cy de ad S n (up_body T x y z) (k) 0 X) H1 → va_S (AB B) s.heap H1 locs1 → W p l e R s m args below meth c H1 locs1 cells slots Q (F0 m (pc + 3) ls (.int (T 6 (ci x) (ci y)) :: rest))) (k1 : ∀ (r9 : Int32), ∀ (t9 : Nat), (cd_body k x y z = t9) → (¬ t9 = 0) → ∀ (H1 : Heap) (locs1 : List Loc), GW D B ad (Vw cy de ad S n T k (nI t9) X) H1 → va_S (AB B) s.heap H1 locs1 → W p l e R s m args below meth c H1 locs1 cells slots Q (F0 m (pc + 3) ls (.int r9 :: rest))) : W p l e R s m args below meth c H locs cells slots Q (F0 m pc ls (.int z :: .int y :: .int x :: .ref (ad 13 0 0) :: rest)) :=
  va_calli (rV hC hS hG h0 (As := [.int x, .int y, .int z]) (c_X7_body l) ⟨rfl, rfl⟩ wl im_X7_body sl_X7_X7_body in_X7 cd_X7_body (n := 3) (by decide +kernel) hR (recv hC hG (q := (RX7, TX7, 26)) rfl V_model) rfl hsz hst rfl hdg hcs) hS (fun _ _ h => h) (fun _ h => h) (fun r u t H1 locs1 ht _ hr hB _ _ hS1 => by
      subst hr
      have hB9 := hB; try dsimp only at hB9
      rw [ht] at hB9
      rcases hB9 with ⟨q0, rfl, hG1⟩ | ⟨t9, q0, q1, hG1⟩
      · exact k0 q0 _ _ hG1 hS1
      · exact k1 r t9 q0 q1 _ _ hG1 hS1)
set_option maxHeartbeats 4000000 in
set_option maxRecDepth 100000 in
theorem c_X7_show (l : Launch) {D : va_G} {cy : Nat → ClassId} {sa : Nat → Nat} {de B : Nat} {ad : Ad} {S : St} {n : Nat → Nat} {T : St} {k : Nat → Nat} {th : Int32} {X : Rl} {x y z : Int32}  : Met l yX7_show (Cond.code yX7_show cX7_show 5 (Option.some Jvm.ClassFile.FieldType.int) :: G0) ({ frames := 2, cells := 0, slots := 0, locals := 43 } : Room) (va_Pc [.ref (ad 13 0 0), .int x, .int y, .int z] (PW D cy sa de B ad (Vw cy de ad S n T k th X) (Inv T k))) (oI B (fun r H => (cd_show k x y z = 0 ∧ r = (shv T (ci x) (ci y)) ∧ GW D B ad (Vw cy de ad S n (up_show T x y z) (k) 0 X) H) ∨ (∃ (t9 : Nat), cd_show k x y z = t9 ∧ ¬ t9 = 0 ∧ GW D B ad (Vw cy de ad S n T k (nI t9) X) H))) 0 0 (AB B) := by
  refine E_met (own := RX7) rfl rfl (Nat.le_of_ble_eq_true rfl) ?_
  intro p e s m below meth c hC hr hlk hnm hG h0 ls hl
  have hx := hC.x
  have hb := hC.b
  have hS : va_S (AB B) s.heap s.heap [] := va_S.rf
  have hl : lo ls 5 [some (.ref (ad 13 0 0)), some (.int x), some (.int y), some (.int z), none] := lo_of hl
  have hI := h0
  obtain ⟨hCI, hD0, hD1, hD2, hB01, hF30, hK8, hMK, hU1, hU2, hS10, hEO, hCF, hFT, hME, hYR, hEK, hLA⟩ := h0
  obtain ⟨hW, hNE, hCH, hBL⟩ := hCI
  have hW9 := hW
  obtain ⟨hB0, hB1, hB2, hB3, hB4, hB5, hB6, hB7, hKI, hEI, hKY⟩ := hW9
  have hMB : MB k := ⟨hB0, hB1, hB2, hB3⟩
  have hKYm : KYm T k := hKY
  refine o_aload_n hx hb dX7_show_0 hl rfl ?_
  refine o_aload_n hx hb dX7_show_1 hl rfl ?_
  refine o_iload_n hx hb dX7_show_2 hl rfl ?_
  refine k_X7_isNoAthlete hC hS hG hMB ml_X7_98 ⟨Nat.le_of_ble_eq_true rfl, Nat.le_of_ble_eq_true rfl⟩ hl.1 (Nat.le_of_ble_eq_true rfl) dX7_show_3 ⟨Nat.le_of_ble_eq_true rfl, Nat.le_of_ble_eq_true rfl⟩ (fun h3 => ?_) (fun h3 => ?_)
  · skip
    refine lv_iconst (v := 1) hx hb dX7_show_6 (by decide) ?_
    refine k_X7_isThrown hC hS hG (by first | exact Or.inl rfl | exact Or.inr rfl) ml_X7_94 ⟨Nat.le_of_ble_eq_true rfl, Nat.le_of_ble_eq_true rfl⟩ hl.1 (Nat.le_of_ble_eq_true rfl) dX7_show_7 ⟨Nat.le_of_ble_eq_true rfl, Nat.le_of_ble_eq_true rfl⟩ (fun h7_0 H locs hG hS => ?_) (fun h7_0 H locs hG hS => ?_)
    · skip
      refine lv_if_ne (tgt := 43) hx hb dX7_show_10 (by decide) (fun h10 => ?_) (fun h10 => ?_)
      · skip
        refine lv_iconst (v := 0) hx hb dX7_show_43 (by decide) ?_
        exact R_I hC hS hr hlk rfl (by first | exact Or.inr ⟨1, (by simp only [cd_show]; exact cif_f h3), (by decide), hG⟩ | exact Or.inr ⟨2, (by simp only [cd_show]; exact (cif_t (ix_nI ha3)).trans (cif_f (fun z => by first | exact h15 z.1 | exact h25 (m1_iff.mpr z.2)))), (by decide), hG⟩) (Nat.le_of_ble_eq_true rfl) (Nat.le_of_ble_eq_true rfl) dX7_show_44
      · exact absurd h10 (by decide)
    · skip
      exact absurd h7_0 (by decide)
  · skip
    refine lv_iconst (v := 1) hx hb dX7_show_6 (by decide) ?_
    refine k_X7_isThrown hC hS hG (by first | exact Or.inl rfl | exact Or.inr rfl) ml_X7_94 ⟨Nat.le_of_ble_eq_true rfl, Nat.le_of_ble_eq_true rfl⟩ hl.1 (Nat.le_of_ble_eq_true rfl) dX7_show_7 ⟨Nat.le_of_ble_eq_true rfl, Nat.le_of_ble_eq_true rfl⟩ (fun h7_0 H locs hG hS => ?_) (fun h7_0 H locs hG hS => ?_)
    · skip
      exact absurd h7_0 (by decide)
    · skip
      refine lv_if_ne (tgt := 43) hx hb dX7_show_10 (by decide) (fun h10 => ?_) (fun h10 => ?_)
      · exact absurd h10 (by decide)
      · skip
        obtain ⟨a3, ha3, hxa3⟩ := Classical.not_not.mp h3
        subst hxa3
        have za3 : ci (nI a3) = a3 := nI_clamp (by omega)
        refine o_aload_n hx hb dX7_show_13 hl rfl ?_
        refine o_iload_n hx hb dX7_show_14 hl rfl ?_
        refine k_X7_isMeasure hC hS hG trivial ml_X7_101 ⟨Nat.le_of_ble_eq_true rfl, Nat.le_of_ble_eq_true rfl⟩ hl.1 (Nat.le_of_ble_eq_true rfl) dX7_show_15 ⟨Nat.le_of_ble_eq_true rfl, Nat.le_of_ble_eq_true rfl⟩ (fun h15 => ?_) (fun h15 => ?_)
        · skip
          refine lv_if_eq (tgt := 31) hx hb dX7_show_18 (by decide) (fun h18 => ?_) (fun h18 => ?_)
          · exact absurd h18 (by decide)
          · skip
            refine o_iload_n hx hb dX7_show_21 hl rfl ?_
            refine lv_iconst (v := (-1)) hx hb dX7_show_22 (by decide) ?_
            refine lv_bipush (v := 100) hx hb dX7_show_23 (by decide) ?_
            refine k_X7_isIn hC hS hG trivial ml_X7_83 ⟨Nat.le_of_ble_eq_true rfl, Nat.le_of_ble_eq_true rfl⟩ hl.1 (Nat.le_of_ble_eq_true rfl) dX7_show_25 ⟨Nat.le_of_ble_eq_true rfl, Nat.le_of_ble_eq_true rfl⟩ (fun h25 => ?_) (fun h25 => ?_)
            · skip
              refine lv_if_ne (tgt := 35) hx hb dX7_show_28 (by decide) (fun h28 => ?_) (fun h28 => ?_)
              · skip
                refine lv_iconst (v := 0) hx hb dX7_show_35 (by decide) ?_
                refine lv_iconst (v := 2) hx hb dX7_show_36 (by decide) ?_
                refine k_X7_isThrown hC hS hG (by first | exact Or.inl rfl | exact Or.inr rfl) ml_X7_94 ⟨Nat.le_of_ble_eq_true rfl, Nat.le_of_ble_eq_true rfl⟩ hl.1 (Nat.le_of_ble_eq_true rfl) dX7_show_37 ⟨Nat.le_of_ble_eq_true rfl, Nat.le_of_ble_eq_true rfl⟩ (fun h37_0 H locs hG hS => ?_) (fun h37_0 H locs hG hS => ?_)
                · skip
                  exact absurd h37_0 (by decide)
                · skip
                  refine lv_if_eq (tgt := 45) hx hb dX7_show_40 (by decide) (fun h40 => ?_) (fun h40 => ?_)
                  · skip
                    obtain ⟨b7, hb7, hxb7⟩ := h15
                    subst hxb7
                    have zb7 : ci (nI b7) = b7 := nI_clamp (by omega)
                    refine o_aload_n hx hb dX7_show_45 hl rfl ?_
                    refine o_iload_n hx hb dX7_show_46 hl rfl ?_
                    refine o_iload_n hx hb dX7_show_47 hl rfl ?_
                    refine k_X7_shownOf hC hS hG ⟨by omega, by omega⟩ ml_X7_104 ⟨Nat.le_of_ble_eq_true rfl, Nat.le_of_ble_eq_true rfl⟩ hl.1 (Nat.le_of_ble_eq_true rfl) dX7_show_48 ⟨Nat.le_of_ble_eq_true rfl, Nat.le_of_ble_eq_true rfl⟩ ?_
                    refine o_istore hx hb dX7_show_51 hl (by decide) rfl (fun ls hl => ?_)
                    refine o_aload_n hx hb dX7_show_53 hl rfl ?_
                    refine g_get hC hG us_X7 rfl 2 (by decide) fl_X7_18 V_model rfl dX7_show_54 ?_
                    refine o_iload_n hx hb dX7_show_57 hl rfl ?_
                    refine g_aald hC hG 7 rfl rfl V_o2 _ rfl (by omega) (by omega) dX7_show_58 ?_
                    refine o_iload_n hx hb dX7_show_59 hl rfl ?_
                    refine o_iload_n hx hb dX7_show_60 hl rfl ?_
                    refine g_iast hC hG hS (V_r2 (by omega)) _ rfl (by omega) (by omega) (P_r2 (by omega)) dX7_show_61 (fun H locs hG hS => ?_)
                    refine o_iload hx hb dX7_show_62 hl rfl ?_
                    exact R_I hC hS hr hlk rfl (Or.inl ⟨(by simp only [cd_show]; exact (cif_t (ix_nI ha3)).trans (cif_t ⟨ix_nI hb7, m1_iff.mp h25⟩)), (by rw [za3, zb7]), (by simp only [up_show, za3, zb7]; exact hG)⟩) (Nat.le_of_ble_eq_true rfl) (Nat.le_of_ble_eq_true rfl) dX7_show_64
                  · exact absurd h40 (by decide)
              · exact absurd h28 (by decide)
            · skip
              refine lv_if_ne (tgt := 35) hx hb dX7_show_28 (by decide) (fun h28 => ?_) (fun h28 => ?_)
              · exact absurd h28 (by decide)
              · skip
                refine lv_iconst (v := 1) hx hb dX7_show_31 (by decide) ?_
                refine lv_goto (tgt := 36) hx hb dX7_show_32 (by decide) ?_
                refine lv_iconst (v := 2) hx hb dX7_show_36 (by decide) ?_
                refine k_X7_isThrown hC hS hG (by first | exact Or.inl rfl | exact Or.inr rfl) ml_X7_94 ⟨Nat.le_of_ble_eq_true rfl, Nat.le_of_ble_eq_true rfl⟩ hl.1 (Nat.le_of_ble_eq_true rfl) dX7_show_37 ⟨Nat.le_of_ble_eq_true rfl, Nat.le_of_ble_eq_true rfl⟩ (fun h37_0 H locs hG hS => ?_) (fun h37_0 H locs hG hS => ?_)
                · skip
                  refine lv_if_eq (tgt := 45) hx hb dX7_show_40 (by decide) (fun h40 => ?_) (fun h40 => ?_)
                  · exact absurd h40 (by decide)
                  · skip
                    refine lv_iconst (v := 0) hx hb dX7_show_43 (by decide) ?_
                    exact R_I hC hS hr hlk rfl (by first | exact Or.inr ⟨1, (by simp only [cd_show]; exact cif_f h3), (by decide), hG⟩ | exact Or.inr ⟨2, (by simp only [cd_show]; exact (cif_t (ix_nI ha3)).trans (cif_f (fun z => by first | exact h15 z.1 | exact h25 (m1_iff.mpr z.2)))), (by decide), hG⟩) (Nat.le_of_ble_eq_true rfl) (Nat.le_of_ble_eq_true rfl) dX7_show_44
                · skip
                  exact absurd h37_0 (by decide)
        · skip
          refine lv_if_eq (tgt := 31) hx hb dX7_show_18 (by decide) (fun h18 => ?_) (fun h18 => ?_)
          · skip
            refine lv_iconst (v := 1) hx hb dX7_show_31 (by decide) ?_
            refine lv_goto (tgt := 36) hx hb dX7_show_32 (by decide) ?_
            refine lv_iconst (v := 2) hx hb dX7_show_36 (by decide) ?_
            refine k_X7_isThrown hC hS hG (by first | exact Or.inl rfl | exact Or.inr rfl) ml_X7_94 ⟨Nat.le_of_ble_eq_true rfl, Nat.le_of_ble_eq_true rfl⟩ hl.1 (Nat.le_of_ble_eq_true rfl) dX7_show_37 ⟨Nat.le_of_ble_eq_true rfl, Nat.le_of_ble_eq_true rfl⟩ (fun h37_0 H locs hG hS => ?_) (fun h37_0 H locs hG hS => ?_)
            · skip
              refine lv_if_eq (tgt := 45) hx hb dX7_show_40 (by decide) (fun h40 => ?_) (fun h40 => ?_)
              · exact absurd h40 (by decide)
              · skip
                refine lv_iconst (v := 0) hx hb dX7_show_43 (by decide) ?_
                exact R_I hC hS hr hlk rfl (by first | exact Or.inr ⟨1, (by simp only [cd_show]; exact cif_f h3), (by decide), hG⟩ | exact Or.inr ⟨2, (by simp only [cd_show]; exact (cif_t (ix_nI ha3)).trans (cif_f (fun z => by first | exact h15 z.1 | exact h25 (m1_iff.mpr z.2)))), (by decide), hG⟩) (Nat.le_of_ble_eq_true rfl) (Nat.le_of_ble_eq_true rfl) dX7_show_44
            · skip
              exact absurd h37_0 (by decide)
          · exact absurd h18 (by decide)
theorem k_X7_show {p : Program} {l : Launch} {e : Env} {R : Room} {s : State} {m : MethodId} {args : Array Value} {below : List Frame} {meth : Method} {c : Code} {H : Heap} {locs : List Loc} {cells slots : Nat} {Q : State → Prop} {cc : ByteArray} {pc nL : Nat} {ls : Array Slot} {rest : List Value} {own : String} {D : va_G} {cy : Nat → ClassId} {sa : Nat → Nat} {de B : Nat} {ad : Ad} {S : St} {n : Nat → Nat} {T : St} {k : Nat → Nat} {th : Int32} {X : Rl} {x y z : Int32}  (hC : Cx p m c cc nL s args own D cy sa de B) (hS : va_S (AB B) s.heap H locs) (hG : GW D B ad (Vw cy de ad S n T k th X) H) (h0 : Inv T k)  {idx : Nat} (wl : Cond.methodLink own idx yX7_show ∈ G0) (hR : 2 + 1 ≤ R.frames ∧ 8 + (5 + 11) + 43 ≤ R.locals) (hsz : ls.size = nL) (hst : (rest.map fun v => v.category).sum ≤ 8) (hdg : decode cc pc = .ok (.invokevirtual idx, 3)) (hcs : cells + 0 ≤ R.cells ∧ slots + 0 ≤ R.slots) (k0 : (cd_show k x y z = 0) → ∀ (H1 : Heap) (locs1 : List Loc), GW D B ad (Vw cy de ad S n (up_show T x y z) (k) 0 X) H1 → va_S (AB B) s.heap H1 locs1 → W p l e R s m args below meth c H1 locs1 cells slots Q (F0 m (pc + 3) ls (.int (shv T (ci x) (ci y)) :: rest))) (k1 : ∀ (r9 : Int32), ∀ (t9 : Nat), (cd_show k x y z = t9) → (¬ t9 = 0) → ∀ (H1 : Heap) (locs1 : List Loc), GW D B ad (Vw cy de ad S n T k (nI t9) X) H1 → va_S (AB B) s.heap H1 locs1 → W p l e R s m args below meth c H1 locs1 cells slots Q (F0 m (pc + 3) ls (.int r9 :: rest))) : W p l e R s m args below meth c H locs cells slots Q (F0 m pc ls (.int z :: .int y :: .int x :: .ref (ad 13 0 0) :: rest)) :=
  va_calli (rV hC hS hG h0 (As := [.int x, .int y, .int z]) (c_X7_show l) ⟨rfl, rfl⟩ wl im_X7_show sl_X7_X7_show in_X7 cd_X7_show (n := 3) (by decide +kernel) hR (recv hC hG (q := (RX7, TX7, 26)) rfl V_model) rfl hsz hst rfl hdg hcs) hS (fun _ _ h => h) (fun _ h => h) (fun r u t H1 locs1 ht _ hr hB _ _ hS1 => by
      subst hr
      have hB9 := hB; try dsimp only at hB9
      rw [ht] at hB9
      rcases hB9 with ⟨q0, rfl, hG1⟩ | ⟨t9, q0, q1, hG1⟩
      · exact k0 q0 _ _ hG1 hS1
      · exact k1 r t9 q0 q1 _ _ hG1 hS1)
set_option maxHeartbeats 4000000 in
set_option maxRecDepth 100000 in
theorem c_X7_found (l : Launch) {D : va_G} {cy : Nat → ClassId} {sa : Nat → Nat} {de B : Nat} {ad : Ad} {S : St} {n : Nat → Nat} {T : St} {k : Nat → Nat} {th : Int32} {X : Rl} {x y : Int32}  : Met l yX7_found (Cond.code yX7_found cX7_found 3 (Option.some Jvm.ClassFile.FieldType.int) :: G0) ({ frames := 2, cells := 0, slots := 0, locals := 43 } : Room) (va_Pc [.ref (ad 13 0 0), .int x, .int y] (PW D cy sa de B ad (Vw cy de ad S n T k th X) (Inv T k))) (oI B (fun r H => (cd_found T k x y = 0 ∧ r = (T 1 (ci x) (ci y)) ∧ GW D B ad (Vw cy de ad S n (T) (k) 0 X) H) ∨ (∃ (t9 : Nat), cd_found T k x y = t9 ∧ ¬ t9 = 0 ∧ GW D B ad (Vw cy de ad S n T k (nI t9) X) H))) 0 0 (AB B) := by
  refine E_met (own := RX7) rfl rfl (Nat.le_of_ble_eq_true rfl) ?_
  intro p e s m below meth c hC hr hlk hnm hG h0 ls hl
  have hx := hC.x
  have hb := hC.b
  have hS : va_S (AB B) s.heap s.heap [] := va_S.rf
  have hl : lo ls 3 [some (.ref (ad 13 0 0)), some (.int x), some (.int y)] := lo_of hl
  have hI := h0
  obtain ⟨hCI, hD0, hD1, hD2, hB01, hF30, hK8, hMK, hU1, hU2, hS10, hEO, hCF, hFT, hME, hYR, hEK, hLA⟩ := h0
  obtain ⟨hW, hNE, hCH, hBL⟩ := hCI
  have hW9 := hW
  obtain ⟨hB0, hB1, hB2, hB3, hB4, hB5, hB6, hB7, hKI, hEI, hKY⟩ := hW9
  have hMB : MB k := ⟨hB0, hB1, hB2, hB3⟩
  have hKYm : KYm T k := hKY
  refine o_aload_n hx hb dX7_found_0 hl rfl ?_
  refine o_aload_n hx hb dX7_found_1 hl rfl ?_
  refine o_iload_n hx hb dX7_found_2 hl rfl ?_
  refine k_X7_isNoAthlete hC hS hG hMB ml_X7_98 ⟨Nat.le_of_ble_eq_true rfl, Nat.le_of_ble_eq_true rfl⟩ hl.1 (Nat.le_of_ble_eq_true rfl) dX7_found_3 ⟨Nat.le_of_ble_eq_true rfl, Nat.le_of_ble_eq_true rfl⟩ (fun h3 => ?_) (fun h3 => ?_)
  · skip
    refine lv_iconst (v := 1) hx hb dX7_found_6 (by decide) ?_
    refine k_X7_isThrown hC hS hG (by first | exact Or.inl rfl | exact Or.inr rfl) ml_X7_94 ⟨Nat.le_of_ble_eq_true rfl, Nat.le_of_ble_eq_true rfl⟩ hl.1 (Nat.le_of_ble_eq_true rfl) dX7_found_7 ⟨Nat.le_of_ble_eq_true rfl, Nat.le_of_ble_eq_true rfl⟩ (fun h7_0 H locs hG hS => ?_) (fun h7_0 H locs hG hS => ?_)
    · skip
      refine lv_if_ne (tgt := 55) hx hb dX7_found_10 (by decide) (fun h10 => ?_) (fun h10 => ?_)
      · skip
        refine lv_iconst (v := 0) hx hb dX7_found_55 (by decide) ?_
        exact R_I hC hS hr hlk rfl (by first | exact Or.inr ⟨1, (by simp only [cd_found]; exact cif_f h3), (by decide), hG⟩ | exact Or.inr ⟨2, (by simp only [cd_found]; exact (cif_t (ix_nI ha3)).trans (cif_f h15)), (by decide), hG⟩ | exact Or.inr ⟨3, (by simp only [cd_found, za3]; exact (cif_t (ix_nI ha3)).trans ((cif_t (ix_nI hb7)).trans (cif_t h40))), (by decide), hG⟩) (Nat.le_of_ble_eq_true rfl) (Nat.le_of_ble_eq_true rfl) dX7_found_56
      · exact absurd h10 (by decide)
    · skip
      exact absurd h7_0 (by decide)
  · skip
    refine lv_iconst (v := 1) hx hb dX7_found_6 (by decide) ?_
    refine k_X7_isThrown hC hS hG (by first | exact Or.inl rfl | exact Or.inr rfl) ml_X7_94 ⟨Nat.le_of_ble_eq_true rfl, Nat.le_of_ble_eq_true rfl⟩ hl.1 (Nat.le_of_ble_eq_true rfl) dX7_found_7 ⟨Nat.le_of_ble_eq_true rfl, Nat.le_of_ble_eq_true rfl⟩ (fun h7_0 H locs hG hS => ?_) (fun h7_0 H locs hG hS => ?_)
    · skip
      exact absurd h7_0 (by decide)
    · skip
      refine lv_if_ne (tgt := 55) hx hb dX7_found_10 (by decide) (fun h10 => ?_) (fun h10 => ?_)
      · exact absurd h10 (by decide)
      · skip
        obtain ⟨a3, ha3, hxa3⟩ := Classical.not_not.mp h3
        subst hxa3
        have za3 : ci (nI a3) = a3 := nI_clamp (by omega)
        refine o_aload_n hx hb dX7_found_13 hl rfl ?_
        refine o_iload_n hx hb dX7_found_14 hl rfl ?_
        refine k_X7_isMeasure hC hS hG trivial ml_X7_101 ⟨Nat.le_of_ble_eq_true rfl, Nat.le_of_ble_eq_true rfl⟩ hl.1 (Nat.le_of_ble_eq_true rfl) dX7_found_15 ⟨Nat.le_of_ble_eq_true rfl, Nat.le_of_ble_eq_true rfl⟩ (fun h15 => ?_) (fun h15 => ?_)
        · skip
          refine lv_if_ne (tgt := 25) hx hb dX7_found_18 (by decide) (fun h18 => ?_) (fun h18 => ?_)
          · skip
            refine lv_iconst (v := 0) hx hb dX7_found_25 (by decide) ?_
            refine lv_iconst (v := 2) hx hb dX7_found_26 (by decide) ?_
            refine k_X7_isThrown hC hS hG (by first | exact Or.inl rfl | exact Or.inr rfl) ml_X7_94 ⟨Nat.le_of_ble_eq_true rfl, Nat.le_of_ble_eq_true rfl⟩ hl.1 (Nat.le_of_ble_eq_true rfl) dX7_found_27 ⟨Nat.le_of_ble_eq_true rfl, Nat.le_of_ble_eq_true rfl⟩ (fun h27_0 H locs hG hS => ?_) (fun h27_0 H locs hG hS => ?_)
            · skip
              exact absurd h27_0 (by decide)
            · skip
              refine lv_if_ne (tgt := 55) hx hb dX7_found_30 (by decide) (fun h30 => ?_) (fun h30 => ?_)
              · exact absurd h30 (by decide)
              · skip
                obtain ⟨b7, hb7, hxb7⟩ := h15
                subst hxb7
                have zb7 : ci (nI b7) = b7 := nI_clamp (by omega)
                refine o_aload_n hx hb dX7_found_33 hl rfl ?_
                refine o_aload_n hx hb dX7_found_34 hl rfl ?_
                refine g_get hC hG us_X7 rfl 4 (by decide) fl_X7_24 V_model rfl dX7_found_35 ?_
                refine o_iload_n hx hb dX7_found_38 hl rfl ?_
                refine g_zald hC hG V_m4 _ rfl (by omega) (by omega) dX7_found_39 ?_
                refine lv_if_ne (tgt := 47) hx hb dX7_found_40 (by decide) (fun h40 => ?_) (fun h40 => ?_)
                · skip
                  refine lv_iconst (v := 0) hx hb dX7_found_47 (by decide) ?_
                  refine lv_iconst (v := 3) hx hb dX7_found_48 (by decide) ?_
                  refine k_X7_isThrown hC hS hG (by first | exact Or.inl rfl | exact Or.inr rfl) ml_X7_94 ⟨Nat.le_of_ble_eq_true rfl, Nat.le_of_ble_eq_true rfl⟩ hl.1 (Nat.le_of_ble_eq_true rfl) dX7_found_49 ⟨Nat.le_of_ble_eq_true rfl, Nat.le_of_ble_eq_true rfl⟩ (fun h49_0 H locs hG hS => ?_) (fun h49_0 H locs hG hS => ?_)
                  · skip
                    exact absurd h49_0 (by decide)
                  · skip
                    refine lv_if_eq (tgt := 57) hx hb dX7_found_52 (by decide) (fun h52 => ?_) (fun h52 => ?_)
                    · skip
                      refine o_aload_n hx hb dX7_found_57 hl rfl ?_
                      refine g_get hC hG us_X7 rfl 3 (by decide) fl_X7_21 V_model rfl dX7_found_58 ?_
                      refine o_iload_n hx hb dX7_found_61 hl rfl ?_
                      refine g_aald hC hG 7 rfl rfl V_o3 _ rfl (by omega) (by omega) dX7_found_62 ?_
                      refine o_iload_n hx hb dX7_found_63 hl rfl ?_
                      refine g_iald hC hG (V_r3 (by omega)) _ rfl (by omega) (by omega) dX7_found_64 ?_
                      exact R_I hC hS hr hlk rfl (Or.inl ⟨(by simp only [cd_found, za3]; exact (cif_t (ix_nI ha3)).trans ((cif_t (ix_nI hb7)).trans (cif_f h40))), (by rw [za3, zb7]; exact (hF30 a3 (by omega) h40 b7 hb7).symm), (by exact hG)⟩) (Nat.le_of_ble_eq_true rfl) (Nat.le_of_ble_eq_true rfl) dX7_found_65
                    · exact absurd h52 (by decide)
                · skip
                  refine lv_iconst (v := 1) hx hb dX7_found_43 (by decide) ?_
                  refine lv_goto (tgt := 48) hx hb dX7_found_44 (by decide) ?_
                  refine lv_iconst (v := 3) hx hb dX7_found_48 (by decide) ?_
                  refine k_X7_isThrown hC hS hG (by first | exact Or.inl rfl | exact Or.inr rfl) ml_X7_94 ⟨Nat.le_of_ble_eq_true rfl, Nat.le_of_ble_eq_true rfl⟩ hl.1 (Nat.le_of_ble_eq_true rfl) dX7_found_49 ⟨Nat.le_of_ble_eq_true rfl, Nat.le_of_ble_eq_true rfl⟩ (fun h49_0 H locs hG hS => ?_) (fun h49_0 H locs hG hS => ?_)
                  · skip
                    refine lv_if_eq (tgt := 57) hx hb dX7_found_52 (by decide) (fun h52 => ?_) (fun h52 => ?_)
                    · exact absurd h52 (by decide)
                    · skip
                      refine lv_iconst (v := 0) hx hb dX7_found_55 (by decide) ?_
                      exact R_I hC hS hr hlk rfl (by first | exact Or.inr ⟨1, (by simp only [cd_found]; exact cif_f h3), (by decide), hG⟩ | exact Or.inr ⟨2, (by simp only [cd_found]; exact (cif_t (ix_nI ha3)).trans (cif_f h15)), (by decide), hG⟩ | exact Or.inr ⟨3, (by simp only [cd_found, za3]; exact (cif_t (ix_nI ha3)).trans ((cif_t (ix_nI hb7)).trans (cif_t h40))), (by decide), hG⟩) (Nat.le_of_ble_eq_true rfl) (Nat.le_of_ble_eq_true rfl) dX7_found_56
                  · skip
                    exact absurd h49_0 (by decide)
          · exact absurd h18 (by decide)
        · skip
          refine lv_if_ne (tgt := 25) hx hb dX7_found_18 (by decide) (fun h18 => ?_) (fun h18 => ?_)
          · exact absurd h18 (by decide)
          · skip
            refine lv_iconst (v := 1) hx hb dX7_found_21 (by decide) ?_
            refine lv_goto (tgt := 26) hx hb dX7_found_22 (by decide) ?_
            refine lv_iconst (v := 2) hx hb dX7_found_26 (by decide) ?_
            refine k_X7_isThrown hC hS hG (by first | exact Or.inl rfl | exact Or.inr rfl) ml_X7_94 ⟨Nat.le_of_ble_eq_true rfl, Nat.le_of_ble_eq_true rfl⟩ hl.1 (Nat.le_of_ble_eq_true rfl) dX7_found_27 ⟨Nat.le_of_ble_eq_true rfl, Nat.le_of_ble_eq_true rfl⟩ (fun h27_0 H locs hG hS => ?_) (fun h27_0 H locs hG hS => ?_)
            · skip
              refine lv_if_ne (tgt := 55) hx hb dX7_found_30 (by decide) (fun h30 => ?_) (fun h30 => ?_)
              · skip
                refine lv_iconst (v := 0) hx hb dX7_found_55 (by decide) ?_
                exact R_I hC hS hr hlk rfl (by first | exact Or.inr ⟨1, (by simp only [cd_found]; exact cif_f h3), (by decide), hG⟩ | exact Or.inr ⟨2, (by simp only [cd_found]; exact (cif_t (ix_nI ha3)).trans (cif_f h15)), (by decide), hG⟩ | exact Or.inr ⟨3, (by simp only [cd_found, za3]; exact (cif_t (ix_nI ha3)).trans ((cif_t (ix_nI hb7)).trans (cif_t h40))), (by decide), hG⟩) (Nat.le_of_ble_eq_true rfl) (Nat.le_of_ble_eq_true rfl) dX7_found_56
              · exact absurd h30 (by decide)
            · skip
              exact absurd h27_0 (by decide)
theorem k_X7_found {p : Program} {l : Launch} {e : Env} {R : Room} {s : State} {m : MethodId} {args : Array Value} {below : List Frame} {meth : Method} {c : Code} {H : Heap} {locs : List Loc} {cells slots : Nat} {Q : State → Prop} {cc : ByteArray} {pc nL : Nat} {ls : Array Slot} {rest : List Value} {own : String} {D : va_G} {cy : Nat → ClassId} {sa : Nat → Nat} {de B : Nat} {ad : Ad} {S : St} {n : Nat → Nat} {T : St} {k : Nat → Nat} {th : Int32} {X : Rl} {x y : Int32}  (hC : Cx p m c cc nL s args own D cy sa de B) (hS : va_S (AB B) s.heap H locs) (hG : GW D B ad (Vw cy de ad S n T k th X) H) (h0 : Inv T k)  {idx : Nat} (wl : Cond.methodLink own idx yX7_found ∈ G0) (hR : 2 + 1 ≤ R.frames ∧ 8 + (3 + 11) + 43 ≤ R.locals) (hsz : ls.size = nL) (hst : (rest.map fun v => v.category).sum ≤ 8) (hdg : decode cc pc = .ok (.invokevirtual idx, 3)) (hcs : cells + 0 ≤ R.cells ∧ slots + 0 ≤ R.slots) (k0 : (cd_found T k x y = 0) → ∀ (H1 : Heap) (locs1 : List Loc), GW D B ad (Vw cy de ad S n (T) (k) 0 X) H1 → va_S (AB B) s.heap H1 locs1 → W p l e R s m args below meth c H1 locs1 cells slots Q (F0 m (pc + 3) ls (.int (T 1 (ci x) (ci y)) :: rest))) (k1 : ∀ (r9 : Int32), ∀ (t9 : Nat), (cd_found T k x y = t9) → (¬ t9 = 0) → ∀ (H1 : Heap) (locs1 : List Loc), GW D B ad (Vw cy de ad S n T k (nI t9) X) H1 → va_S (AB B) s.heap H1 locs1 → W p l e R s m args below meth c H1 locs1 cells slots Q (F0 m (pc + 3) ls (.int r9 :: rest))) : W p l e R s m args below meth c H locs cells slots Q (F0 m pc ls (.int y :: .int x :: .ref (ad 13 0 0) :: rest)) :=
  va_calli (rV hC hS hG h0 (As := [.int x, .int y]) (c_X7_found l) ⟨rfl, rfl⟩ wl im_X7_found sl_X7_X7_found in_X7 cd_X7_found (n := 2) (by decide +kernel) hR (recv hC hG (q := (RX7, TX7, 26)) rfl V_model) rfl hsz hst rfl hdg hcs) hS (fun _ _ h => h) (fun _ h => h) (fun r u t H1 locs1 ht _ hr hB _ _ hS1 => by
      subst hr
      have hB9 := hB; try dsimp only at hB9
      rw [ht] at hB9
      rcases hB9 with ⟨q0, rfl, hG1⟩ | ⟨t9, q0, q1, hG1⟩
      · exact k0 q0 _ _ hG1 hS1
      · exact k1 r t9 q0 q1 _ _ hG1 hS1)
set_option maxHeartbeats 4000000 in
set_option maxRecDepth 100000 in
theorem c_X7_belongs (l : Launch) {D : va_G} {cy : Nat → ClassId} {sa : Nat → Nat} {de B : Nat} {ad : Ad} {S : St} {n : Nat → Nat} {T : St} {k : Nat → Nat} {th : Int32} {X : Rl} {x : Int32}  : Met l yX7_belongs (Cond.code yX7_belongs cX7_belongs 2 (Option.some Jvm.ClassFile.FieldType.int) :: G0) ({ frames := 3, cells := 0, slots := 0, locals := 72 } : Room) (va_Pc [.ref (ad 13 0 0), .int x] (PW D cy sa de B ad (Vw cy de ad S n T k th X) (Inv T k))) (oI B (fun r H => (cd_ath k x = 0 ∧ r = (kbel T k (fMea T (ci x) 0)) ∧ GW D B ad (Vw cy de ad S n (T) (k) 0 X) H) ∨ (∃ (t9 : Nat), cd_ath k x = t9 ∧ ¬ t9 = 0 ∧ GW D B ad (Vw cy de ad S n T k (nI t9) X) H))) 0 0 (AB B) := by
  refine E_met (own := RX7) rfl rfl (Nat.le_of_ble_eq_true rfl) ?_
  intro p e s m below meth c hC hr hlk hnm hG h0 ls hl
  have hx := hC.x
  have hb := hC.b
  have hS : va_S (AB B) s.heap s.heap [] := va_S.rf
  have hl : lo ls 2 [some (.ref (ad 13 0 0)), some (.int x)] := lo_of hl
  have hI := h0
  obtain ⟨hCI, hD0, hD1, hD2, hB01, hF30, hK8, hMK, hU1, hU2, hS10, hEO, hCF, hFT, hME, hYR, hEK, hLA⟩ := h0
  obtain ⟨hW, hNE, hCH, hBL⟩ := hCI
  have hW9 := hW
  obtain ⟨hB0, hB1, hB2, hB3, hB4, hB5, hB6, hB7, hKI, hEI, hKY⟩ := hW9
  have hMB : MB k := ⟨hB0, hB1, hB2, hB3⟩
  have hKYm : KYm T k := hKY
  refine o_aload_n hx hb dX7_belongs_0 hl rfl ?_
  refine o_aload_n hx hb dX7_belongs_1 hl rfl ?_
  refine o_iload_n hx hb dX7_belongs_2 hl rfl ?_
  refine k_X7_isNoAthlete hC hS hG hMB ml_X7_98 ⟨Nat.le_of_ble_eq_true rfl, Nat.le_of_ble_eq_true rfl⟩ hl.1 (Nat.le_of_ble_eq_true rfl) dX7_belongs_3 ⟨Nat.le_of_ble_eq_true rfl, Nat.le_of_ble_eq_true rfl⟩ (fun h3 => ?_) (fun h3 => ?_)
  · skip
    refine lv_iconst (v := 1) hx hb dX7_belongs_6 (by decide) ?_
    refine k_X7_isThrown hC hS hG (by first | exact Or.inl rfl | exact Or.inr rfl) ml_X7_94 ⟨Nat.le_of_ble_eq_true rfl, Nat.le_of_ble_eq_true rfl⟩ hl.1 (Nat.le_of_ble_eq_true rfl) dX7_belongs_7 ⟨Nat.le_of_ble_eq_true rfl, Nat.le_of_ble_eq_true rfl⟩ (fun h7_0 H locs hG hS => ?_) (fun h7_0 H locs hG hS => ?_)
    · skip
      refine lv_if_eq (tgt := 17) hx hb dX7_belongs_10 (by decide) (fun h10 => ?_) (fun h10 => ?_)
      · exact absurd h10 (by decide)
      · skip
        refine lv_iconst (v := 0) hx hb dX7_belongs_13 (by decide) ?_
        refine lv_goto (tgt := 27) hx hb dX7_belongs_14 (by decide) ?_
        exact R_I hC hS hr hlk rfl (by first | exact Or.inr ⟨1, (by simp only [cd_ath]; exact cif_f h3), (by decide), hG⟩ | exact Or.inl ⟨(by simp only [cd_ath]; exact cif_t (ix_nI ha3)), (by rw [za3]; rfl), (by exact hG)⟩) (Nat.le_of_ble_eq_true rfl) (Nat.le_of_ble_eq_true rfl) dX7_belongs_27
    · skip
      exact absurd h7_0 (by decide)
  · skip
    refine lv_iconst (v := 1) hx hb dX7_belongs_6 (by decide) ?_
    refine k_X7_isThrown hC hS hG (by first | exact Or.inl rfl | exact Or.inr rfl) ml_X7_94 ⟨Nat.le_of_ble_eq_true rfl, Nat.le_of_ble_eq_true rfl⟩ hl.1 (Nat.le_of_ble_eq_true rfl) dX7_belongs_7 ⟨Nat.le_of_ble_eq_true rfl, Nat.le_of_ble_eq_true rfl⟩ (fun h7_0 H locs hG hS => ?_) (fun h7_0 H locs hG hS => ?_)
    · skip
      exact absurd h7_0 (by decide)
    · skip
      refine lv_if_eq (tgt := 17) hx hb dX7_belongs_10 (by decide) (fun h10 => ?_) (fun h10 => ?_)
      · skip
        obtain ⟨a3, ha3, hxa3⟩ := Classical.not_not.mp h3
        subst hxa3
        have za3 : ci (nI a3) = a3 := nI_clamp (by omega)
        refine o_aload_n hx hb dX7_belongs_17 hl rfl ?_
        refine o_aload_n hx hb dX7_belongs_18 hl rfl ?_
        refine g_get hC hG us_X7 rfl 1 (by decide) fl_X7_15 V_model rfl dX7_belongs_19 ?_
        refine o_iload_n hx hb dX7_belongs_22 hl rfl ?_
        refine g_aald hC hG 7 rfl rfl V_o1 _ rfl (by omega) (by omega) dX7_belongs_23 ?_
        refine k_X7_classBy hC hS hG ⟨hMB, by omega, hKYm, Or.inl ⟨rfl, rfl⟩⟩ ml_X7_115 ⟨Nat.le_of_ble_eq_true rfl, Nat.le_of_ble_eq_true rfl⟩ hl.1 (Nat.le_of_ble_eq_true rfl) dX7_belongs_24 ⟨Nat.le_of_ble_eq_true rfl, Nat.le_of_ble_eq_true rfl⟩ ?_
        exact R_I hC hS hr hlk rfl (by first | exact Or.inr ⟨1, (by simp only [cd_ath]; exact cif_f h3), (by decide), hG⟩ | exact Or.inl ⟨(by simp only [cd_ath]; exact cif_t (ix_nI ha3)), (by rw [za3]; rfl), (by exact hG)⟩) (Nat.le_of_ble_eq_true rfl) (Nat.le_of_ble_eq_true rfl) dX7_belongs_27
      · exact absurd h10 (by decide)
theorem k_X7_belongs {p : Program} {l : Launch} {e : Env} {R : Room} {s : State} {m : MethodId} {args : Array Value} {below : List Frame} {meth : Method} {c : Code} {H : Heap} {locs : List Loc} {cells slots : Nat} {Q : State → Prop} {cc : ByteArray} {pc nL : Nat} {ls : Array Slot} {rest : List Value} {own : String} {D : va_G} {cy : Nat → ClassId} {sa : Nat → Nat} {de B : Nat} {ad : Ad} {S : St} {n : Nat → Nat} {T : St} {k : Nat → Nat} {th : Int32} {X : Rl} {x : Int32}  (hC : Cx p m c cc nL s args own D cy sa de B) (hS : va_S (AB B) s.heap H locs) (hG : GW D B ad (Vw cy de ad S n T k th X) H) (h0 : Inv T k)  {idx : Nat} (wl : Cond.methodLink own idx yX7_belongs ∈ G0) (hR : 3 + 1 ≤ R.frames ∧ 8 + (2 + 11) + 72 ≤ R.locals) (hsz : ls.size = nL) (hst : (rest.map fun v => v.category).sum ≤ 8) (hdg : decode cc pc = .ok (.invokevirtual idx, 3)) (hcs : cells + 0 ≤ R.cells ∧ slots + 0 ≤ R.slots) (k0 : (cd_ath k x = 0) → ∀ (H1 : Heap) (locs1 : List Loc), GW D B ad (Vw cy de ad S n (T) (k) 0 X) H1 → va_S (AB B) s.heap H1 locs1 → W p l e R s m args below meth c H1 locs1 cells slots Q (F0 m (pc + 3) ls (.int (kbel T k (fMea T (ci x) 0)) :: rest))) (k1 : ∀ (r9 : Int32), ∀ (t9 : Nat), (cd_ath k x = t9) → (¬ t9 = 0) → ∀ (H1 : Heap) (locs1 : List Loc), GW D B ad (Vw cy de ad S n T k (nI t9) X) H1 → va_S (AB B) s.heap H1 locs1 → W p l e R s m args below meth c H1 locs1 cells slots Q (F0 m (pc + 3) ls (.int r9 :: rest))) : W p l e R s m args below meth c H locs cells slots Q (F0 m pc ls (.int x :: .ref (ad 13 0 0) :: rest)) :=
  va_calli (rV hC hS hG h0 (As := [.int x]) (c_X7_belongs l) ⟨rfl, rfl⟩ wl im_X7_belongs sl_X7_X7_belongs in_X7 cd_X7_belongs (n := 1) (by decide +kernel) hR (recv hC hG (q := (RX7, TX7, 26)) rfl V_model) rfl hsz hst rfl hdg hcs) hS (fun _ _ h => h) (fun _ h => h) (fun r u t H1 locs1 ht _ hr hB _ _ hS1 => by
      subst hr
      have hB9 := hB; try dsimp only at hB9
      rw [ht] at hB9
      rcases hB9 with ⟨q0, rfl, hG1⟩ | ⟨t9, q0, q1, hG1⟩
      · exact k0 q0 _ _ hG1 hS1
      · exact k1 r t9 q0 q1 _ _ hG1 hS1)
set_option maxHeartbeats 4000000 in
set_option maxRecDepth 100000 in
theorem c_X7_test (l : Launch) {D : va_G} {cy : Nat → ClassId} {sa : Nat → Nat} {de B : Nat} {ad : Ad} {S : St} {n : Nat → Nat} {T : St} {k : Nat → Nat} {th : Int32} {X : Rl} {x y z : Int32}  : Met l yX7_test (Cond.code yX7_test cX7_test 6 (Option.some Jvm.ClassFile.FieldType.char) :: G0) ({ frames := 3, cells := 0, slots := 0, locals := 72 } : Room) (va_Pc [.ref (ad 13 0 0), .int x, .int y, .int z] (PW D cy sa de B ad (Vw cy de ad S n T k th X) (Inv T k))) (oI B (fun r H => (cd_test T k x y z = 0 ∧ r = (teS T k (ci x) 9 (ci x) 0) ∧ GW D B ad (Vw cy de ad S n (teS T k (ci x)) (k) 0 X) H) ∨ (∃ (t9 : Nat), cd_test T k x y z = t9 ∧ ¬ t9 = 0 ∧ GW D B ad (Vw cy de ad S n T k (nI t9) X) H))) 0 0 (AB B) := by
  refine E_met (own := RX7) rfl rfl (Nat.le_of_ble_eq_true rfl) ?_
  intro p e s m below meth c hC hr hlk hnm hG h0 ls hl
  have hx := hC.x
  have hb := hC.b
  have hS : va_S (AB B) s.heap s.heap [] := va_S.rf
  have hl : lo ls 6 [some (.ref (ad 13 0 0)), some (.int x), some (.int y), some (.int z), none, none] := lo_of hl
  have hI := h0
  obtain ⟨hCI, hD0, hD1, hD2, hB01, hF30, hK8, hMK, hU1, hU2, hS10, hEO, hCF, hFT, hME, hYR, hEK, hLA⟩ := h0
  obtain ⟨hW, hNE, hCH, hBL⟩ := hCI
  have hW9 := hW
  obtain ⟨hB0, hB1, hB2, hB3, hB4, hB5, hB6, hB7, hKI, hEI, hKY⟩ := hW9
  have hMB : MB k := ⟨hB0, hB1, hB2, hB3⟩
  have hKYm : KYm T k := hKY
  refine o_aload_n hx hb dX7_test_0 hl rfl ?_
  refine o_aload_n hx hb dX7_test_1 hl rfl ?_
  refine o_iload_n hx hb dX7_test_2 hl rfl ?_
  refine k_X7_isNoAthlete hC hS hG hMB ml_X7_98 ⟨Nat.le_of_ble_eq_true rfl, Nat.le_of_ble_eq_true rfl⟩ hl.1 (Nat.le_of_ble_eq_true rfl) dX7_test_3 ⟨Nat.le_of_ble_eq_true rfl, Nat.le_of_ble_eq_true rfl⟩ (fun h3 => ?_) (fun h3 => ?_)
  · skip
    refine lv_if_ne (tgt := 37) hx hb dX7_test_6 (by decide) (fun h6 => ?_) (fun h6 => ?_)
    · skip
      refine lv_iconst (v := 1) hx hb dX7_test_37 (by decide) ?_
      refine lv_goto (tgt := 42) hx hb dX7_test_38 (by decide) ?_
      refine lv_iconst (v := 1) hx hb dX7_test_42 (by decide) ?_
      refine k_X7_isThrown hC hS hG (by first | exact Or.inl rfl | exact Or.inr rfl) ml_X7_94 ⟨Nat.le_of_ble_eq_true rfl, Nat.le_of_ble_eq_true rfl⟩ hl.1 (Nat.le_of_ble_eq_true rfl) dX7_test_43 ⟨Nat.le_of_ble_eq_true rfl, Nat.le_of_ble_eq_true rfl⟩ (fun h43_0 H locs hG hS => ?_) (fun h43_0 H locs hG hS => ?_)
      · skip
        refine lv_if_eq (tgt := 52) hx hb dX7_test_46 (by decide) (fun h46 => ?_) (fun h46 => ?_)
        · exact absurd h46 (by decide)
        · skip
          refine lv_bipush (v := 32) hx hb dX7_test_49 (by decide) ?_
          exact R_I hC hS hr hlk rfl (Or.inr ⟨1, (by simp only [cd_test]; exact cif_f (fun z => by first | exact h3 z.1 | exact h17 ((isin_ix (by omega)).mpr z.2.1) | exact h31 ((isin_ix (by omega)).mpr z.2.2))), (by decide), hG⟩) (Nat.le_of_ble_eq_true rfl) (Nat.le_of_ble_eq_true rfl) dX7_test_51
      · skip
        exact absurd h43_0 (by decide)
    · exact absurd h6 (by decide)
  · skip
    refine lv_if_ne (tgt := 37) hx hb dX7_test_6 (by decide) (fun h6 => ?_) (fun h6 => ?_)
    · exact absurd h6 (by decide)
    · skip
      refine o_iload_n hx hb dX7_test_9 hl rfl ?_
      refine lv_iconst (v := 0) hx hb dX7_test_10 (by decide) ?_
      refine o_aload_n hx hb dX7_test_11 hl rfl ?_
      refine g_get hC hG us_X7 rfl 21 (by decide) fl_X7_108 V_model rfl dX7_test_12 ?_
      refine lv_iconst (v := 1) hx hb dX7_test_15 (by decide) ?_
      refine lv_isub hx hb dX7_test_16 ?_
      refine k_X7_isIn hC hS hG trivial ml_X7_83 ⟨Nat.le_of_ble_eq_true rfl, Nat.le_of_ble_eq_true rfl⟩ hl.1 (Nat.le_of_ble_eq_true rfl) dX7_test_17 ⟨Nat.le_of_ble_eq_true rfl, Nat.le_of_ble_eq_true rfl⟩ (fun h17 => ?_) (fun h17 => ?_)
      · skip
        refine lv_if_eq (tgt := 37) hx hb dX7_test_20 (by decide) (fun h20 => ?_) (fun h20 => ?_)
        · exact absurd h20 (by decide)
        · skip
          refine o_iload_n hx hb dX7_test_23 hl rfl ?_
          refine lv_iconst (v := 0) hx hb dX7_test_24 (by decide) ?_
          refine o_aload_n hx hb dX7_test_25 hl rfl ?_
          refine g_get hC hG us_X7 rfl 21 (by decide) fl_X7_108 V_model rfl dX7_test_26 ?_
          refine lv_iconst (v := 1) hx hb dX7_test_29 (by decide) ?_
          refine lv_isub hx hb dX7_test_30 ?_
          refine k_X7_isIn hC hS hG trivial ml_X7_83 ⟨Nat.le_of_ble_eq_true rfl, Nat.le_of_ble_eq_true rfl⟩ hl.1 (Nat.le_of_ble_eq_true rfl) dX7_test_31 ⟨Nat.le_of_ble_eq_true rfl, Nat.le_of_ble_eq_true rfl⟩ (fun h31 => ?_) (fun h31 => ?_)
          · skip
            refine lv_if_ne (tgt := 41) hx hb dX7_test_34 (by decide) (fun h34 => ?_) (fun h34 => ?_)
            · skip
              refine lv_iconst (v := 0) hx hb dX7_test_41 (by decide) ?_
              refine lv_iconst (v := 1) hx hb dX7_test_42 (by decide) ?_
              refine k_X7_isThrown hC hS hG (by first | exact Or.inl rfl | exact Or.inr rfl) ml_X7_94 ⟨Nat.le_of_ble_eq_true rfl, Nat.le_of_ble_eq_true rfl⟩ hl.1 (Nat.le_of_ble_eq_true rfl) dX7_test_43 ⟨Nat.le_of_ble_eq_true rfl, Nat.le_of_ble_eq_true rfl⟩ (fun h43_0 H locs hG hS => ?_) (fun h43_0 H locs hG hS => ?_)
              · skip
                exact absurd h43_0 (by decide)
              · skip
                refine lv_if_eq (tgt := 52) hx hb dX7_test_46 (by decide) (fun h46 => ?_) (fun h46 => ?_)
                · skip
                  obtain ⟨a3, ha3, hxa3⟩ := Classical.not_not.mp h3
                  subst hxa3
                  have za3 : ci (nI a3) = a3 := nI_clamp (by omega)
                  obtain ⟨b7, hb7, hxb7⟩ := (isin_ix (by omega)).mp h17
                  subst hxb7
                  have zb7 : ci (nI b7) = b7 := nI_clamp (by omega)
                  obtain ⟨d, hd, hxd⟩ := (isin_ix (by omega)).mp h31
                  subst hxd
                  have zd : ci (nI d) = d := nI_clamp (by omega)
                  refine o_aload_n hx hb dX7_test_52 hl rfl ?_
                  refine g_get hC hG us_X7 rfl 9 (by decide) fl_X7_41 V_model rfl dX7_test_53 ?_
                  refine o_iload_n hx hb dX7_test_56 hl rfl ?_
                  refine g_iald hC hG V_m9 _ rfl (by omega) (by omega) dX7_test_57 ?_
                  refine o_aload_n hx hb dX7_test_58 hl rfl ?_
                  refine g_get hC hG us_X7 rfl 9 (by decide) fl_X7_41 V_model rfl dX7_test_59 ?_
                  refine o_iload_n hx hb dX7_test_62 hl rfl ?_
                  refine g_iald hC hG V_m9 _ rfl (by omega) (by omega) dX7_test_63 ?_
                  refine lv_icmp_eq (tgt := 101) hx hb dX7_test_64 (by decide) (fun h64 => ?_) (fun h64 => ?_)
                  · skip
                    refine lv_iconst (v := 0) hx hb dX7_test_101 (by decide) ?_
                    refine o_istore hx hb dX7_test_102 hl (by decide) rfl (fun ls hl => ?_)
                    refine o_aload_n hx hb dX7_test_104 hl rfl ?_
                    refine o_iload hx hb dX7_test_105 hl rfl ?_
                    refine lv_if_ne (tgt := 114) hx hb dX7_test_107 (by decide) (fun h107 => ?_) (fun h107 => ?_)
                    · exact absurd h107 (by decide)
                    · skip
                      refine lv_iconst (v := 1) hx hb dX7_test_110 (by decide) ?_
                      refine lv_goto (tgt := 115) hx hb dX7_test_111 (by decide) ?_
                      refine lv_iconst (v := 2) hx hb dX7_test_115 (by decide) ?_
                      refine k_X7_isThrown hC hS hG (by first | exact Or.inl rfl | exact Or.inr rfl) ml_X7_94 ⟨Nat.le_of_ble_eq_true rfl, Nat.le_of_ble_eq_true rfl⟩ hl.1 (Nat.le_of_ble_eq_true rfl) dX7_test_116 ⟨Nat.le_of_ble_eq_true rfl, Nat.le_of_ble_eq_true rfl⟩ (fun h116_0 H locs hG hS => ?_) (fun h116_0 H locs hG hS => ?_)
                      · skip
                        refine lv_if_ne (tgt := 146) hx hb dX7_test_119 (by decide) (fun h119 => ?_) (fun h119 => ?_)
                        · skip
                          refine lv_bipush (v := 32) hx hb dX7_test_146 (by decide) ?_
                          exact R_I hC hS hr hlk rfl (by first | exact Or.inr ⟨2, (by simp only [cd_test, za3, zb7, zd]; exact (cif_t ⟨ix_nI ha3, ix_nI hb7, ix_nI hd⟩).trans (cif_f (fun z => by first | exact z.1 h64 | exact z.2.1 h79 | exact z.2.2 h94))), (by decide), hG⟩ | exact Or.inr ⟨3, (by simp only [cd_test, za3, zb7, zd]; exact (cif_t ⟨ix_nI ha3, ix_nI hb7, ix_nI hd⟩).trans ((cif_t ⟨h64, h79, h94⟩).trans (cif_t h131))), (by decide), hG⟩) (Nat.le_of_ble_eq_true rfl) (Nat.le_of_ble_eq_true rfl) dX7_test_148
                        · exact absurd h119 (by decide)
                      · skip
                        exact absurd h116_0 (by decide)
                  · skip
                    refine o_aload_n hx hb dX7_test_67 hl rfl ?_
                    refine g_get hC hG us_X7 rfl 9 (by decide) fl_X7_41 V_model rfl dX7_test_68 ?_
                    refine o_iload_n hx hb dX7_test_71 hl rfl ?_
                    refine g_iald hC hG V_m9 _ rfl (by omega) (by omega) dX7_test_72 ?_
                    refine o_aload_n hx hb dX7_test_73 hl rfl ?_
                    refine g_get hC hG us_X7 rfl 0 (by decide) fl_X7_9 V_model rfl dX7_test_74 ?_
                    refine o_iload_n hx hb dX7_test_77 hl rfl ?_
                    refine g_iald hC hG V_m0 _ rfl (by omega) (by omega) dX7_test_78 ?_
                    refine lv_icmp_eq (tgt := 101) hx hb dX7_test_79 (by decide) (fun h79 => ?_) (fun h79 => ?_)
                    · skip
                      refine lv_iconst (v := 0) hx hb dX7_test_101 (by decide) ?_
                      refine o_istore hx hb dX7_test_102 hl (by decide) rfl (fun ls hl => ?_)
                      refine o_aload_n hx hb dX7_test_104 hl rfl ?_
                      refine o_iload hx hb dX7_test_105 hl rfl ?_
                      refine lv_if_ne (tgt := 114) hx hb dX7_test_107 (by decide) (fun h107 => ?_) (fun h107 => ?_)
                      · exact absurd h107 (by decide)
                      · skip
                        refine lv_iconst (v := 1) hx hb dX7_test_110 (by decide) ?_
                        refine lv_goto (tgt := 115) hx hb dX7_test_111 (by decide) ?_
                        refine lv_iconst (v := 2) hx hb dX7_test_115 (by decide) ?_
                        refine k_X7_isThrown hC hS hG (by first | exact Or.inl rfl | exact Or.inr rfl) ml_X7_94 ⟨Nat.le_of_ble_eq_true rfl, Nat.le_of_ble_eq_true rfl⟩ hl.1 (Nat.le_of_ble_eq_true rfl) dX7_test_116 ⟨Nat.le_of_ble_eq_true rfl, Nat.le_of_ble_eq_true rfl⟩ (fun h116_0 H locs hG hS => ?_) (fun h116_0 H locs hG hS => ?_)
                        · skip
                          refine lv_if_ne (tgt := 146) hx hb dX7_test_119 (by decide) (fun h119 => ?_) (fun h119 => ?_)
                          · skip
                            refine lv_bipush (v := 32) hx hb dX7_test_146 (by decide) ?_
                            exact R_I hC hS hr hlk rfl (by first | exact Or.inr ⟨2, (by simp only [cd_test, za3, zb7, zd]; exact (cif_t ⟨ix_nI ha3, ix_nI hb7, ix_nI hd⟩).trans (cif_f (fun z => by first | exact z.1 h64 | exact z.2.1 h79 | exact z.2.2 h94))), (by decide), hG⟩ | exact Or.inr ⟨3, (by simp only [cd_test, za3, zb7, zd]; exact (cif_t ⟨ix_nI ha3, ix_nI hb7, ix_nI hd⟩).trans ((cif_t ⟨h64, h79, h94⟩).trans (cif_t h131))), (by decide), hG⟩) (Nat.le_of_ble_eq_true rfl) (Nat.le_of_ble_eq_true rfl) dX7_test_148
                          · exact absurd h119 (by decide)
                        · skip
                          exact absurd h116_0 (by decide)
                    · skip
                      refine o_aload_n hx hb dX7_test_82 hl rfl ?_
                      refine g_get hC hG us_X7 rfl 9 (by decide) fl_X7_41 V_model rfl dX7_test_83 ?_
                      refine o_iload_n hx hb dX7_test_86 hl rfl ?_
                      refine g_iald hC hG V_m9 _ rfl (by omega) (by omega) dX7_test_87 ?_
                      refine o_aload_n hx hb dX7_test_88 hl rfl ?_
                      refine g_get hC hG us_X7 rfl 0 (by decide) fl_X7_9 V_model rfl dX7_test_89 ?_
                      refine o_iload_n hx hb dX7_test_92 hl rfl ?_
                      refine g_iald hC hG V_m0 _ rfl (by omega) (by omega) dX7_test_93 ?_
                      refine lv_icmp_eq (tgt := 101) hx hb dX7_test_94 (by decide) (fun h94 => ?_) (fun h94 => ?_)
                      · skip
                        refine lv_iconst (v := 0) hx hb dX7_test_101 (by decide) ?_
                        refine o_istore hx hb dX7_test_102 hl (by decide) rfl (fun ls hl => ?_)
                        refine o_aload_n hx hb dX7_test_104 hl rfl ?_
                        refine o_iload hx hb dX7_test_105 hl rfl ?_
                        refine lv_if_ne (tgt := 114) hx hb dX7_test_107 (by decide) (fun h107 => ?_) (fun h107 => ?_)
                        · exact absurd h107 (by decide)
                        · skip
                          refine lv_iconst (v := 1) hx hb dX7_test_110 (by decide) ?_
                          refine lv_goto (tgt := 115) hx hb dX7_test_111 (by decide) ?_
                          refine lv_iconst (v := 2) hx hb dX7_test_115 (by decide) ?_
                          refine k_X7_isThrown hC hS hG (by first | exact Or.inl rfl | exact Or.inr rfl) ml_X7_94 ⟨Nat.le_of_ble_eq_true rfl, Nat.le_of_ble_eq_true rfl⟩ hl.1 (Nat.le_of_ble_eq_true rfl) dX7_test_116 ⟨Nat.le_of_ble_eq_true rfl, Nat.le_of_ble_eq_true rfl⟩ (fun h116_0 H locs hG hS => ?_) (fun h116_0 H locs hG hS => ?_)
                          · skip
                            refine lv_if_ne (tgt := 146) hx hb dX7_test_119 (by decide) (fun h119 => ?_) (fun h119 => ?_)
                            · skip
                              refine lv_bipush (v := 32) hx hb dX7_test_146 (by decide) ?_
                              exact R_I hC hS hr hlk rfl (by first | exact Or.inr ⟨2, (by simp only [cd_test, za3, zb7, zd]; exact (cif_t ⟨ix_nI ha3, ix_nI hb7, ix_nI hd⟩).trans (cif_f (fun z => by first | exact z.1 h64 | exact z.2.1 h79 | exact z.2.2 h94))), (by decide), hG⟩ | exact Or.inr ⟨3, (by simp only [cd_test, za3, zb7, zd]; exact (cif_t ⟨ix_nI ha3, ix_nI hb7, ix_nI hd⟩).trans ((cif_t ⟨h64, h79, h94⟩).trans (cif_t h131))), (by decide), hG⟩) (Nat.le_of_ble_eq_true rfl) (Nat.le_of_ble_eq_true rfl) dX7_test_148
                            · exact absurd h119 (by decide)
                          · skip
                            exact absurd h116_0 (by decide)
                      · skip
                        refine lv_iconst (v := 1) hx hb dX7_test_97 (by decide) ?_
                        refine lv_goto (tgt := 102) hx hb dX7_test_98 (by decide) ?_
                        refine o_istore hx hb dX7_test_102 hl (by decide) rfl (fun ls hl => ?_)
                        refine o_aload_n hx hb dX7_test_104 hl rfl ?_
                        refine o_iload hx hb dX7_test_105 hl rfl ?_
                        refine lv_if_ne (tgt := 114) hx hb dX7_test_107 (by decide) (fun h107 => ?_) (fun h107 => ?_)
                        · skip
                          refine lv_iconst (v := 0) hx hb dX7_test_114 (by decide) ?_
                          refine lv_iconst (v := 2) hx hb dX7_test_115 (by decide) ?_
                          refine k_X7_isThrown hC hS hG (by first | exact Or.inl rfl | exact Or.inr rfl) ml_X7_94 ⟨Nat.le_of_ble_eq_true rfl, Nat.le_of_ble_eq_true rfl⟩ hl.1 (Nat.le_of_ble_eq_true rfl) dX7_test_116 ⟨Nat.le_of_ble_eq_true rfl, Nat.le_of_ble_eq_true rfl⟩ (fun h116_0 H locs hG hS => ?_) (fun h116_0 H locs hG hS => ?_)
                          · skip
                            exact absurd h116_0 (by decide)
                          · skip
                            refine lv_if_ne (tgt := 146) hx hb dX7_test_119 (by decide) (fun h119 => ?_) (fun h119 => ?_)
                            · exact absurd h119 (by decide)
                            · skip
                              refine o_aload_n hx hb dX7_test_122 hl rfl ?_
                              refine o_aload_n hx hb dX7_test_123 hl rfl ?_
                              refine g_get hC hG us_X7 rfl 5 (by decide) fl_X7_28 V_model rfl dX7_test_124 ?_
                              refine o_iload_n hx hb dX7_test_127 hl rfl ?_
                              refine g_cald hC hG V_m5 _ rfl (by omega) (by omega) dX7_test_128 ?_
                              refine lv_bipush (v := 120) hx hb dX7_test_129 (by decide) ?_
                              refine lv_icmp_ne (tgt := 138) hx hb dX7_test_131 (by decide) (fun h131 => ?_) (fun h131 => ?_)
                              · skip
                                refine lv_iconst (v := 0) hx hb dX7_test_138 (by decide) ?_
                                refine lv_iconst (v := 3) hx hb dX7_test_139 (by decide) ?_
                                refine k_X7_isThrown hC hS hG (by first | exact Or.inl rfl | exact Or.inr rfl) ml_X7_94 ⟨Nat.le_of_ble_eq_true rfl, Nat.le_of_ble_eq_true rfl⟩ hl.1 (Nat.le_of_ble_eq_true rfl) dX7_test_140 ⟨Nat.le_of_ble_eq_true rfl, Nat.le_of_ble_eq_true rfl⟩ (fun h140_0 H locs hG hS => ?_) (fun h140_0 H locs hG hS => ?_)
                                · skip
                                  exact absurd h140_0 (by decide)
                                · skip
                                  refine lv_if_eq (tgt := 149) hx hb dX7_test_143 (by decide) (fun h143 => ?_) (fun h143 => ?_)
                                  · skip
                                    refine lv_iconst (v := 0) hx hb dX7_test_149 (by decide) ?_
                                    refine o_istore hx hb dX7_test_150 hl (by decide) rfl (fun ls hl => ?_)
                                    have loop152 : ∀ (q9 : Nat) (y : Nat), y ≤ 5 ∧ 5 < y + q9 → ∀ (H : Heap) (locs : List Loc), GW D B ad (Vw cy de ad S n (fm T a3 (shv T a3) y) k 0 X) H → va_S (AB B) s.heap H locs → ∀ ls : Array Slot, lo ls 6 [some (.ref (ad 13 0 0)), some (.int (nI a3)), some (.int (nI b7)), some (.int (nI d)), none, some (.int (nI y))] → W p l e ({ frames := 3, cells := 0, slots := 0, locals := 72 } : Room) s m [.ref (ad 13 0 0), .int (nI a3), .int (nI b7), .int (nI d)].toArray below meth c H locs 0 0 (MQ below (oI B (fun r H => (cd_test T k (nI a3) (nI b7) (nI d) = 0 ∧ r = (teS T k (ci (nI a3)) 9 (ci (nI a3)) 0) ∧ GW D B ad (Vw cy de ad S n (teS T k (ci (nI a3))) (k) 0 X) H) ∨ (∃ (t9 : Nat), cd_test T k (nI a3) (nI b7) (nI d) = t9 ∧ ¬ t9 = 0 ∧ GW D B ad (Vw cy de ad S n T k (nI t9) X) H))) [.ref (ad 13 0 0), .int (nI a3), .int (nI b7), .int (nI d)].toArray s 0 0 (AB B)) (F0 m 152 ls []) := by
                                      intro q9
                                      induction q9 with
                                      | zero => intro y hq9; exact absurd hq9 (by omega)
                                      | succ q9 ih152 =>
                                        intro y hq9  H locs hG hS ls hl
                                        have zs : shv (fm T a3 (shv T a3) y) a3 y = shv T a3 y := by unfold shv; rw [fm_c (by decide), fm_c (by decide)]
                                        refine o_iload hx hb dX7_test_152 hl rfl ?_
                                        refine lv_iconst (v := 5) hx hb dX7_test_154 (by decide) ?_
                                        refine n_icmp_ge (tgt := 180) hx hb y 5 rfl rfl (by omega) (by omega) dX7_test_155 (by decide) (fun h155 => ?_) (fun h155 => ?_)
                                        · skip
                                          have hy5 : y = 5 := by omega
                                          subst hy5
                                          refine o_aload_n hx hb dX7_test_180 hl rfl ?_
                                          refine g_get hC hG us_X7 rfl 4 (by decide) fl_X7_24 V_model rfl dX7_test_181 ?_
                                          refine o_iload_n hx hb dX7_test_184 hl rfl ?_
                                          refine lv_iconst (v := 1) hx hb dX7_test_185 (by decide) ?_
                                          refine g_zast hC hG hS V_m4 _ rfl (by omega) (by omega) (Or.inr rfl) P_m4 dX7_test_186 (fun H locs hG hS => ?_)
                                          refine o_aload_n hx hb dX7_test_187 hl rfl ?_
                                          refine o_iload_n hx hb dX7_test_188 hl rfl ?_
                                          refine o_aload_n hx hb dX7_test_189 hl rfl ?_
                                          refine o_aload_n hx hb dX7_test_190 hl rfl ?_
                                          refine g_get hC hG us_X7 rfl 3 (by decide) fl_X7_21 V_model rfl dX7_test_191 ?_
                                          refine o_iload_n hx hb dX7_test_194 hl rfl ?_
                                          refine g_aald hC hG 7 rfl rfl V_o3 _ rfl (by omega) (by omega) dX7_test_195 ?_
                                          refine k_X7_classBy hC hS hG ⟨hMB, by omega, KYm_c hKYm ((up3_c (by decide)).trans (fm_c (by decide) 5)), Or.inr ⟨rfl, rfl⟩⟩ ml_X7_115 ⟨Nat.le_of_ble_eq_true rfl, Nat.le_of_ble_eq_true rfl⟩ hl.1 (Nat.le_of_ble_eq_true rfl) dX7_test_196 ⟨Nat.le_of_ble_eq_true rfl, Nat.le_of_ble_eq_true rfl⟩ ?_
                                          refine lv_bipush (v := 110) hx hb dX7_test_199 (by decide) ?_
                                          refine k_X7_becomes hC hS hG ⟨by omega, hMB, by exact ⟨rfl, rfl⟩, by rw [up3_ne (by omega), fm_c (by decide)]; exact (hB01 _).2.1⟩ ml_X7_122 ⟨Nat.le_of_ble_eq_true rfl, Nat.le_of_ble_eq_true rfl⟩ hl.1 (Nat.le_of_ble_eq_true rfl) dX7_test_201 ⟨Nat.le_of_ble_eq_true rfl, Nat.le_of_ble_eq_true rfl⟩ (fun H locs hG hS => ?_)
                                          refine o_aload_n hx hb dX7_test_204 hl rfl ?_
                                          refine g_get hC hG us_X7 rfl 5 (by decide) fl_X7_28 V_model rfl dX7_test_205 ?_
                                          refine o_iload_n hx hb dX7_test_208 hl rfl ?_
                                          refine g_cald hC hG V_m5 _ rfl (by omega) (by omega) dX7_test_209 ?_
                                          exact R_I hC hS hr hlk (by rw [bcS_9]; exact (ch_bc ⟨rfl, rfl⟩).1) (Or.inl ⟨(by simp only [cd_test, za3, zb7, zd]; exact (cif_t ⟨ix_nI ha3, ix_nI hb7, ix_nI hd⟩).trans ((cif_t ⟨h64, h79, h94⟩).trans (cif_f h131))), (by rw [za3]; exact congrFun (congrFun (te_joint hKYm (hB01 a3).2.1 9 (by decide) (by decide) (by decide)) a3) 0), (by rw [za3, ← Vw_mod (te_joint hKYm (hB01 a3).2.1)]; exact hG)⟩) (Nat.le_of_ble_eq_true rfl) (Nat.le_of_ble_eq_true rfl) dX7_test_210
                                        · skip
                                          refine o_aload_n hx hb dX7_test_158 hl rfl ?_
                                          refine g_get hC hG us_X7 rfl 3 (by decide) fl_X7_21 V_model rfl dX7_test_159 ?_
                                          refine o_iload_n hx hb dX7_test_162 hl rfl ?_
                                          refine g_aald hC hG 7 rfl rfl V_o3 _ rfl (by omega) (by omega) dX7_test_163 ?_
                                          refine o_iload hx hb dX7_test_164 hl rfl ?_
                                          refine o_aload_n hx hb dX7_test_166 hl rfl ?_
                                          refine o_iload_n hx hb dX7_test_167 hl rfl ?_
                                          refine o_iload hx hb dX7_test_168 hl rfl ?_
                                          refine k_X7_shownOf hC hS hG ⟨by omega, by omega⟩ ml_X7_104 ⟨Nat.le_of_ble_eq_true rfl, Nat.le_of_ble_eq_true rfl⟩ hl.1 (Nat.le_of_ble_eq_true rfl) dX7_test_170 ⟨Nat.le_of_ble_eq_true rfl, Nat.le_of_ble_eq_true rfl⟩ ?_
                                          refine g_iast hC hG hS (V_r3 (by omega)) _ rfl (by omega) (by omega) (P_r3 (by omega)) dX7_test_173 (fun H locs hG hS => ?_)
                                          refine o_iinc1 hx hb dX7_test_174 hl rfl (by decide) rfl (fun ls hl => ?_)
                                          refine lv_goto (tgt := 152) hx hb dX7_test_177 (by decide) ?_
                                          exact ih152 (y + 1) (by omega) H locs (by rw [show fm T a3 (shv T a3) (y + 1) = up3 (fm T a3 (shv T a3) y) 30 a3 y (shv T a3 y) from rfl, ← zs]; exact hG) hS ls hl
                                    exact loop152 6 0 (by omega) H locs hG hS ls (lo_none (i := 4) hl)
                                  · exact absurd h143 (by decide)
                              · skip
                                refine lv_iconst (v := 1) hx hb dX7_test_134 (by decide) ?_
                                refine lv_goto (tgt := 139) hx hb dX7_test_135 (by decide) ?_
                                refine lv_iconst (v := 3) hx hb dX7_test_139 (by decide) ?_
                                refine k_X7_isThrown hC hS hG (by first | exact Or.inl rfl | exact Or.inr rfl) ml_X7_94 ⟨Nat.le_of_ble_eq_true rfl, Nat.le_of_ble_eq_true rfl⟩ hl.1 (Nat.le_of_ble_eq_true rfl) dX7_test_140 ⟨Nat.le_of_ble_eq_true rfl, Nat.le_of_ble_eq_true rfl⟩ (fun h140_0 H locs hG hS => ?_) (fun h140_0 H locs hG hS => ?_)
                                · skip
                                  refine lv_if_eq (tgt := 149) hx hb dX7_test_143 (by decide) (fun h143 => ?_) (fun h143 => ?_)
                                  · exact absurd h143 (by decide)
                                  · skip
                                    refine lv_bipush (v := 32) hx hb dX7_test_146 (by decide) ?_
                                    exact R_I hC hS hr hlk rfl (by first | exact Or.inr ⟨2, (by simp only [cd_test, za3, zb7, zd]; exact (cif_t ⟨ix_nI ha3, ix_nI hb7, ix_nI hd⟩).trans (cif_f (fun z => by first | exact z.1 h64 | exact z.2.1 h79 | exact z.2.2 h94))), (by decide), hG⟩ | exact Or.inr ⟨3, (by simp only [cd_test, za3, zb7, zd]; exact (cif_t ⟨ix_nI ha3, ix_nI hb7, ix_nI hd⟩).trans ((cif_t ⟨h64, h79, h94⟩).trans (cif_t h131))), (by decide), hG⟩) (Nat.le_of_ble_eq_true rfl) (Nat.le_of_ble_eq_true rfl) dX7_test_148
                                · skip
                                  exact absurd h140_0 (by decide)
                        · exact absurd h107 (by decide)
                · exact absurd h46 (by decide)
            · exact absurd h34 (by decide)
          · skip
            refine lv_if_ne (tgt := 41) hx hb dX7_test_34 (by decide) (fun h34 => ?_) (fun h34 => ?_)
            · exact absurd h34 (by decide)
            · skip
              refine lv_iconst (v := 1) hx hb dX7_test_37 (by decide) ?_
              refine lv_goto (tgt := 42) hx hb dX7_test_38 (by decide) ?_
              refine lv_iconst (v := 1) hx hb dX7_test_42 (by decide) ?_
              refine k_X7_isThrown hC hS hG (by first | exact Or.inl rfl | exact Or.inr rfl) ml_X7_94 ⟨Nat.le_of_ble_eq_true rfl, Nat.le_of_ble_eq_true rfl⟩ hl.1 (Nat.le_of_ble_eq_true rfl) dX7_test_43 ⟨Nat.le_of_ble_eq_true rfl, Nat.le_of_ble_eq_true rfl⟩ (fun h43_0 H locs hG hS => ?_) (fun h43_0 H locs hG hS => ?_)
              · skip
                refine lv_if_eq (tgt := 52) hx hb dX7_test_46 (by decide) (fun h46 => ?_) (fun h46 => ?_)
                · exact absurd h46 (by decide)
                · skip
                  refine lv_bipush (v := 32) hx hb dX7_test_49 (by decide) ?_
                  exact R_I hC hS hr hlk rfl (Or.inr ⟨1, (by simp only [cd_test]; exact cif_f (fun z => by first | exact h3 z.1 | exact h17 ((isin_ix (by omega)).mpr z.2.1) | exact h31 ((isin_ix (by omega)).mpr z.2.2))), (by decide), hG⟩) (Nat.le_of_ble_eq_true rfl) (Nat.le_of_ble_eq_true rfl) dX7_test_51
              · skip
                exact absurd h43_0 (by decide)
      · skip
        refine lv_if_eq (tgt := 37) hx hb dX7_test_20 (by decide) (fun h20 => ?_) (fun h20 => ?_)
        · skip
          refine lv_iconst (v := 1) hx hb dX7_test_37 (by decide) ?_
          refine lv_goto (tgt := 42) hx hb dX7_test_38 (by decide) ?_
          refine lv_iconst (v := 1) hx hb dX7_test_42 (by decide) ?_
          refine k_X7_isThrown hC hS hG (by first | exact Or.inl rfl | exact Or.inr rfl) ml_X7_94 ⟨Nat.le_of_ble_eq_true rfl, Nat.le_of_ble_eq_true rfl⟩ hl.1 (Nat.le_of_ble_eq_true rfl) dX7_test_43 ⟨Nat.le_of_ble_eq_true rfl, Nat.le_of_ble_eq_true rfl⟩ (fun h43_0 H locs hG hS => ?_) (fun h43_0 H locs hG hS => ?_)
          · skip
            refine lv_if_eq (tgt := 52) hx hb dX7_test_46 (by decide) (fun h46 => ?_) (fun h46 => ?_)
            · exact absurd h46 (by decide)
            · skip
              refine lv_bipush (v := 32) hx hb dX7_test_49 (by decide) ?_
              exact R_I hC hS hr hlk rfl (Or.inr ⟨1, (by simp only [cd_test]; exact cif_f (fun z => by first | exact h3 z.1 | exact h17 ((isin_ix (by omega)).mpr z.2.1) | exact h31 ((isin_ix (by omega)).mpr z.2.2))), (by decide), hG⟩) (Nat.le_of_ble_eq_true rfl) (Nat.le_of_ble_eq_true rfl) dX7_test_51
          · skip
            exact absurd h43_0 (by decide)
        · exact absurd h20 (by decide)
theorem k_X7_test {p : Program} {l : Launch} {e : Env} {R : Room} {s : State} {m : MethodId} {args : Array Value} {below : List Frame} {meth : Method} {c : Code} {H : Heap} {locs : List Loc} {cells slots : Nat} {Q : State → Prop} {cc : ByteArray} {pc nL : Nat} {ls : Array Slot} {rest : List Value} {own : String} {D : va_G} {cy : Nat → ClassId} {sa : Nat → Nat} {de B : Nat} {ad : Ad} {S : St} {n : Nat → Nat} {T : St} {k : Nat → Nat} {th : Int32} {X : Rl} {x y z : Int32}  (hC : Cx p m c cc nL s args own D cy sa de B) (hS : va_S (AB B) s.heap H locs) (hG : GW D B ad (Vw cy de ad S n T k th X) H) (h0 : Inv T k)  {idx : Nat} (wl : Cond.methodLink own idx yX7_test ∈ G0) (hR : 3 + 1 ≤ R.frames ∧ 8 + (6 + 11) + 72 ≤ R.locals) (hsz : ls.size = nL) (hst : (rest.map fun v => v.category).sum ≤ 8) (hdg : decode cc pc = .ok (.invokevirtual idx, 3)) (hcs : cells + 0 ≤ R.cells ∧ slots + 0 ≤ R.slots) (k0 : (cd_test T k x y z = 0) → ∀ (H1 : Heap) (locs1 : List Loc), GW D B ad (Vw cy de ad S n (teS T k (ci x)) (k) 0 X) H1 → va_S (AB B) s.heap H1 locs1 → W p l e R s m args below meth c H1 locs1 cells slots Q (F0 m (pc + 3) ls (.int (teS T k (ci x) 9 (ci x) 0) :: rest))) (k1 : ∀ (r9 : Int32), ∀ (t9 : Nat), (cd_test T k x y z = t9) → (¬ t9 = 0) → ∀ (H1 : Heap) (locs1 : List Loc), GW D B ad (Vw cy de ad S n T k (nI t9) X) H1 → va_S (AB B) s.heap H1 locs1 → W p l e R s m args below meth c H1 locs1 cells slots Q (F0 m (pc + 3) ls (.int r9 :: rest))) : W p l e R s m args below meth c H locs cells slots Q (F0 m pc ls (.int z :: .int y :: .int x :: .ref (ad 13 0 0) :: rest)) :=
  va_calli (rV hC hS hG h0 (As := [.int x, .int y, .int z]) (c_X7_test l) ⟨rfl, rfl⟩ wl im_X7_test sl_X7_X7_test in_X7 cd_X7_test (n := 3) (by decide +kernel) hR (recv hC hG (q := (RX7, TX7, 26)) rfl V_model) rfl hsz hst rfl hdg hcs) hS (fun _ _ h => h) (fun _ h => h) (fun r u t H1 locs1 ht _ hr hB _ _ hS1 => by
      subst hr
      have hB9 := hB; try dsimp only at hB9
      rw [ht] at hB9
      rcases hB9 with ⟨q0, rfl, hG1⟩ | ⟨t9, q0, q1, hG1⟩
      · exact k0 q0 _ _ hG1 hS1
      · exact k1 r t9 q0 q1 _ _ hG1 hS1)
set_option maxHeartbeats 4000000 in
set_option maxRecDepth 100000 in
theorem c_X7_status (l : Launch) {D : va_G} {cy : Nat → ClassId} {sa : Nat → Nat} {de B : Nat} {ad : Ad} {S : St} {n : Nat → Nat} {T : St} {k : Nat → Nat} {th : Int32} {X : Rl} {x : Int32}  : Met l yX7_status (Cond.code yX7_status cX7_status 2 (Option.some Jvm.ClassFile.FieldType.char) :: G0) ({ frames := 2, cells := 0, slots := 0, locals := 43 } : Room) (va_Pc [.ref (ad 13 0 0), .int x] (PW D cy sa de B ad (Vw cy de ad S n T k th X) (Inv T k))) (oI B (fun r H => (cd_ath k x = 0 ∧ r = (T 9 (ci x) 0) ∧ GW D B ad (Vw cy de ad S n (T) (k) 0 X) H) ∨ (∃ (t9 : Nat), cd_ath k x = t9 ∧ ¬ t9 = 0 ∧ GW D B ad (Vw cy de ad S n T k (nI t9) X) H))) 0 0 (AB B) := by
  refine E_met (own := RX7) rfl rfl (Nat.le_of_ble_eq_true rfl) ?_
  intro p e s m below meth c hC hr hlk hnm hG h0 ls hl
  have hx := hC.x
  have hb := hC.b
  have hS : va_S (AB B) s.heap s.heap [] := va_S.rf
  have hl : lo ls 2 [some (.ref (ad 13 0 0)), some (.int x)] := lo_of hl
  have hI := h0
  obtain ⟨hCI, hD0, hD1, hD2, hB01, hF30, hK8, hMK, hU1, hU2, hS10, hEO, hCF, hFT, hME, hYR, hEK, hLA⟩ := h0
  obtain ⟨hW, hNE, hCH, hBL⟩ := hCI
  have hW9 := hW
  obtain ⟨hB0, hB1, hB2, hB3, hB4, hB5, hB6, hB7, hKI, hEI, hKY⟩ := hW9
  have hMB : MB k := ⟨hB0, hB1, hB2, hB3⟩
  have hKYm : KYm T k := hKY
  refine o_aload_n hx hb dX7_status_0 hl rfl ?_
  refine o_aload_n hx hb dX7_status_1 hl rfl ?_
  refine o_iload_n hx hb dX7_status_2 hl rfl ?_
  refine k_X7_isNoAthlete hC hS hG hMB ml_X7_98 ⟨Nat.le_of_ble_eq_true rfl, Nat.le_of_ble_eq_true rfl⟩ hl.1 (Nat.le_of_ble_eq_true rfl) dX7_status_3 ⟨Nat.le_of_ble_eq_true rfl, Nat.le_of_ble_eq_true rfl⟩ (fun h3 => ?_) (fun h3 => ?_)
  · skip
    refine lv_iconst (v := 1) hx hb dX7_status_6 (by decide) ?_
    refine k_X7_isThrown hC hS hG (by first | exact Or.inl rfl | exact Or.inr rfl) ml_X7_94 ⟨Nat.le_of_ble_eq_true rfl, Nat.le_of_ble_eq_true rfl⟩ hl.1 (Nat.le_of_ble_eq_true rfl) dX7_status_7 ⟨Nat.le_of_ble_eq_true rfl, Nat.le_of_ble_eq_true rfl⟩ (fun h7_0 H locs hG hS => ?_) (fun h7_0 H locs hG hS => ?_)
    · skip
      refine lv_if_eq (tgt := 18) hx hb dX7_status_10 (by decide) (fun h10 => ?_) (fun h10 => ?_)
      · exact absurd h10 (by decide)
      · skip
        refine lv_bipush (v := 32) hx hb dX7_status_13 (by decide) ?_
        refine lv_goto (tgt := 24) hx hb dX7_status_15 (by decide) ?_
        exact R_I hC hS hr hlk (by first | rfl | exact (hCH _).1) (by first | exact Or.inr ⟨1, (by simp only [cd_ath]; exact cif_f h3), (by decide), hG⟩ | exact Or.inl ⟨(by simp only [cd_ath]; exact cif_t (ix_nI ha3)), (by rw [za3]), (by exact hG)⟩) (Nat.le_of_ble_eq_true rfl) (Nat.le_of_ble_eq_true rfl) dX7_status_24
    · skip
      exact absurd h7_0 (by decide)
  · skip
    refine lv_iconst (v := 1) hx hb dX7_status_6 (by decide) ?_
    refine k_X7_isThrown hC hS hG (by first | exact Or.inl rfl | exact Or.inr rfl) ml_X7_94 ⟨Nat.le_of_ble_eq_true rfl, Nat.le_of_ble_eq_true rfl⟩ hl.1 (Nat.le_of_ble_eq_true rfl) dX7_status_7 ⟨Nat.le_of_ble_eq_true rfl, Nat.le_of_ble_eq_true rfl⟩ (fun h7_0 H locs hG hS => ?_) (fun h7_0 H locs hG hS => ?_)
    · skip
      exact absurd h7_0 (by decide)
    · skip
      refine lv_if_eq (tgt := 18) hx hb dX7_status_10 (by decide) (fun h10 => ?_) (fun h10 => ?_)
      · skip
        obtain ⟨a3, ha3, hxa3⟩ := Classical.not_not.mp h3
        subst hxa3
        have za3 : ci (nI a3) = a3 := nI_clamp (by omega)
        refine o_aload_n hx hb dX7_status_18 hl rfl ?_
        refine g_get hC hG us_X7 rfl 5 (by decide) fl_X7_28 V_model rfl dX7_status_19 ?_
        refine o_iload_n hx hb dX7_status_22 hl rfl ?_
        refine g_cald hC hG V_m5 _ rfl (by omega) (by omega) dX7_status_23 ?_
        exact R_I hC hS hr hlk (by first | rfl | exact (hCH _).1) (by first | exact Or.inr ⟨1, (by simp only [cd_ath]; exact cif_f h3), (by decide), hG⟩ | exact Or.inl ⟨(by simp only [cd_ath]; exact cif_t (ix_nI ha3)), (by rw [za3]), (by exact hG)⟩) (Nat.le_of_ble_eq_true rfl) (Nat.le_of_ble_eq_true rfl) dX7_status_24
      · exact absurd h10 (by decide)
theorem k_X7_status {p : Program} {l : Launch} {e : Env} {R : Room} {s : State} {m : MethodId} {args : Array Value} {below : List Frame} {meth : Method} {c : Code} {H : Heap} {locs : List Loc} {cells slots : Nat} {Q : State → Prop} {cc : ByteArray} {pc nL : Nat} {ls : Array Slot} {rest : List Value} {own : String} {D : va_G} {cy : Nat → ClassId} {sa : Nat → Nat} {de B : Nat} {ad : Ad} {S : St} {n : Nat → Nat} {T : St} {k : Nat → Nat} {th : Int32} {X : Rl} {x : Int32}  (hC : Cx p m c cc nL s args own D cy sa de B) (hS : va_S (AB B) s.heap H locs) (hG : GW D B ad (Vw cy de ad S n T k th X) H) (h0 : Inv T k)  {idx : Nat} (wl : Cond.methodLink own idx yX7_status ∈ G0) (hR : 2 + 1 ≤ R.frames ∧ 8 + (2 + 11) + 43 ≤ R.locals) (hsz : ls.size = nL) (hst : (rest.map fun v => v.category).sum ≤ 8) (hdg : decode cc pc = .ok (.invokevirtual idx, 3)) (hcs : cells + 0 ≤ R.cells ∧ slots + 0 ≤ R.slots) (k0 : (cd_ath k x = 0) → ∀ (H1 : Heap) (locs1 : List Loc), GW D B ad (Vw cy de ad S n (T) (k) 0 X) H1 → va_S (AB B) s.heap H1 locs1 → W p l e R s m args below meth c H1 locs1 cells slots Q (F0 m (pc + 3) ls (.int (T 9 (ci x) 0) :: rest))) (k1 : ∀ (r9 : Int32), ∀ (t9 : Nat), (cd_ath k x = t9) → (¬ t9 = 0) → ∀ (H1 : Heap) (locs1 : List Loc), GW D B ad (Vw cy de ad S n T k (nI t9) X) H1 → va_S (AB B) s.heap H1 locs1 → W p l e R s m args below meth c H1 locs1 cells slots Q (F0 m (pc + 3) ls (.int r9 :: rest))) : W p l e R s m args below meth c H locs cells slots Q (F0 m pc ls (.int x :: .ref (ad 13 0 0) :: rest)) :=
  va_calli (rV hC hS hG h0 (As := [.int x]) (c_X7_status l) ⟨rfl, rfl⟩ wl im_X7_status sl_X7_X7_status in_X7 cd_X7_status (n := 1) (by decide +kernel) hR (recv hC hG (q := (RX7, TX7, 26)) rfl V_model) rfl hsz hst rfl hdg hcs) hS (fun _ _ h => h) (fun _ h => h) (fun r u t H1 locs1 ht _ hr hB _ _ hS1 => by
      subst hr
      have hB9 := hB; try dsimp only at hB9
      rw [ht] at hB9
      rcases hB9 with ⟨q0, rfl, hG1⟩ | ⟨t9, q0, q1, hG1⟩
      · exact k0 q0 _ _ hG1 hS1
      · exact k1 r t9 q0 q1 _ _ hG1 hS1)
set_option maxHeartbeats 4000000 in
set_option maxRecDepth 100000 in
theorem c_X7_classOf (l : Launch) {D : va_G} {cy : Nat → ClassId} {sa : Nat → Nat} {de B : Nat} {ad : Ad} {S : St} {n : Nat → Nat} {T : St} {k : Nat → Nat} {th : Int32} {X : Rl} {x : Int32}  : Met l yX7_classOf (Cond.code yX7_classOf cX7_classOf 2 (Option.some Jvm.ClassFile.FieldType.int) :: G0) ({ frames := 2, cells := 0, slots := 0, locals := 43 } : Room) (va_Pc [.ref (ad 13 0 0), .int x] (PW D cy sa de B ad (Vw cy de ad S n T k th X) (Inv T k))) (oI B (fun r H => (cd_ath k x = 0 ∧ r = (T 10 (ci x) 0) ∧ GW D B ad (Vw cy de ad S n (T) (k) 0 X) H) ∨ (∃ (t9 : Nat), cd_ath k x = t9 ∧ ¬ t9 = 0 ∧ GW D B ad (Vw cy de ad S n T k (nI t9) X) H))) 0 0 (AB B) := by
  refine E_met (own := RX7) rfl rfl (Nat.le_of_ble_eq_true rfl) ?_
  intro p e s m below meth c hC hr hlk hnm hG h0 ls hl
  have hx := hC.x
  have hb := hC.b
  have hS : va_S (AB B) s.heap s.heap [] := va_S.rf
  have hl : lo ls 2 [some (.ref (ad 13 0 0)), some (.int x)] := lo_of hl
  have hI := h0
  obtain ⟨hCI, hD0, hD1, hD2, hB01, hF30, hK8, hMK, hU1, hU2, hS10, hEO, hCF, hFT, hME, hYR, hEK, hLA⟩ := h0
  obtain ⟨hW, hNE, hCH, hBL⟩ := hCI
  have hW9 := hW
  obtain ⟨hB0, hB1, hB2, hB3, hB4, hB5, hB6, hB7, hKI, hEI, hKY⟩ := hW9
  have hMB : MB k := ⟨hB0, hB1, hB2, hB3⟩
  have hKYm : KYm T k := hKY
  refine o_aload_n hx hb dX7_classOf_0 hl rfl ?_
  refine o_aload_n hx hb dX7_classOf_1 hl rfl ?_
  refine o_iload_n hx hb dX7_classOf_2 hl rfl ?_
  refine k_X7_isNoAthlete hC hS hG hMB ml_X7_98 ⟨Nat.le_of_ble_eq_true rfl, Nat.le_of_ble_eq_true rfl⟩ hl.1 (Nat.le_of_ble_eq_true rfl) dX7_classOf_3 ⟨Nat.le_of_ble_eq_true rfl, Nat.le_of_ble_eq_true rfl⟩ (fun h3 => ?_) (fun h3 => ?_)
  · skip
    refine lv_iconst (v := 1) hx hb dX7_classOf_6 (by decide) ?_
    refine k_X7_isThrown hC hS hG (by first | exact Or.inl rfl | exact Or.inr rfl) ml_X7_94 ⟨Nat.le_of_ble_eq_true rfl, Nat.le_of_ble_eq_true rfl⟩ hl.1 (Nat.le_of_ble_eq_true rfl) dX7_classOf_7 ⟨Nat.le_of_ble_eq_true rfl, Nat.le_of_ble_eq_true rfl⟩ (fun h7_0 H locs hG hS => ?_) (fun h7_0 H locs hG hS => ?_)
    · skip
      refine lv_if_eq (tgt := 17) hx hb dX7_classOf_10 (by decide) (fun h10 => ?_) (fun h10 => ?_)
      · exact absurd h10 (by decide)
      · skip
        refine lv_iconst (v := 0) hx hb dX7_classOf_13 (by decide) ?_
        refine lv_goto (tgt := 23) hx hb dX7_classOf_14 (by decide) ?_
        exact R_I hC hS hr hlk rfl (by first | exact Or.inr ⟨1, (by simp only [cd_ath]; exact cif_f h3), (by decide), hG⟩ | exact Or.inl ⟨(by simp only [cd_ath]; exact cif_t (ix_nI ha3)), (by rw [za3]), (by exact hG)⟩) (Nat.le_of_ble_eq_true rfl) (Nat.le_of_ble_eq_true rfl) dX7_classOf_23
    · skip
      exact absurd h7_0 (by decide)
  · skip
    refine lv_iconst (v := 1) hx hb dX7_classOf_6 (by decide) ?_
    refine k_X7_isThrown hC hS hG (by first | exact Or.inl rfl | exact Or.inr rfl) ml_X7_94 ⟨Nat.le_of_ble_eq_true rfl, Nat.le_of_ble_eq_true rfl⟩ hl.1 (Nat.le_of_ble_eq_true rfl) dX7_classOf_7 ⟨Nat.le_of_ble_eq_true rfl, Nat.le_of_ble_eq_true rfl⟩ (fun h7_0 H locs hG hS => ?_) (fun h7_0 H locs hG hS => ?_)
    · skip
      exact absurd h7_0 (by decide)
    · skip
      refine lv_if_eq (tgt := 17) hx hb dX7_classOf_10 (by decide) (fun h10 => ?_) (fun h10 => ?_)
      · skip
        obtain ⟨a3, ha3, hxa3⟩ := Classical.not_not.mp h3
        subst hxa3
        have za3 : ci (nI a3) = a3 := nI_clamp (by omega)
        refine o_aload_n hx hb dX7_classOf_17 hl rfl ?_
        refine g_get hC hG us_X7 rfl 6 (by decide) fl_X7_32 V_model rfl dX7_classOf_18 ?_
        refine o_iload_n hx hb dX7_classOf_21 hl rfl ?_
        refine g_iald hC hG V_m6 _ rfl (by omega) (by omega) dX7_classOf_22 ?_
        exact R_I hC hS hr hlk rfl (by first | exact Or.inr ⟨1, (by simp only [cd_ath]; exact cif_f h3), (by decide), hG⟩ | exact Or.inl ⟨(by simp only [cd_ath]; exact cif_t (ix_nI ha3)), (by rw [za3]), (by exact hG)⟩) (Nat.le_of_ble_eq_true rfl) (Nat.le_of_ble_eq_true rfl) dX7_classOf_23
      · exact absurd h10 (by decide)
theorem k_X7_classOf {p : Program} {l : Launch} {e : Env} {R : Room} {s : State} {m : MethodId} {args : Array Value} {below : List Frame} {meth : Method} {c : Code} {H : Heap} {locs : List Loc} {cells slots : Nat} {Q : State → Prop} {cc : ByteArray} {pc nL : Nat} {ls : Array Slot} {rest : List Value} {own : String} {D : va_G} {cy : Nat → ClassId} {sa : Nat → Nat} {de B : Nat} {ad : Ad} {S : St} {n : Nat → Nat} {T : St} {k : Nat → Nat} {th : Int32} {X : Rl} {x : Int32}  (hC : Cx p m c cc nL s args own D cy sa de B) (hS : va_S (AB B) s.heap H locs) (hG : GW D B ad (Vw cy de ad S n T k th X) H) (h0 : Inv T k)  {idx : Nat} (wl : Cond.methodLink own idx yX7_classOf ∈ G0) (hR : 2 + 1 ≤ R.frames ∧ 8 + (2 + 11) + 43 ≤ R.locals) (hsz : ls.size = nL) (hst : (rest.map fun v => v.category).sum ≤ 8) (hdg : decode cc pc = .ok (.invokevirtual idx, 3)) (hcs : cells + 0 ≤ R.cells ∧ slots + 0 ≤ R.slots) (k0 : (cd_ath k x = 0) → ∀ (H1 : Heap) (locs1 : List Loc), GW D B ad (Vw cy de ad S n (T) (k) 0 X) H1 → va_S (AB B) s.heap H1 locs1 → W p l e R s m args below meth c H1 locs1 cells slots Q (F0 m (pc + 3) ls (.int (T 10 (ci x) 0) :: rest))) (k1 : ∀ (r9 : Int32), ∀ (t9 : Nat), (cd_ath k x = t9) → (¬ t9 = 0) → ∀ (H1 : Heap) (locs1 : List Loc), GW D B ad (Vw cy de ad S n T k (nI t9) X) H1 → va_S (AB B) s.heap H1 locs1 → W p l e R s m args below meth c H1 locs1 cells slots Q (F0 m (pc + 3) ls (.int r9 :: rest))) : W p l e R s m args below meth c H locs cells slots Q (F0 m pc ls (.int x :: .ref (ad 13 0 0) :: rest)) :=
  va_calli (rV hC hS hG h0 (As := [.int x]) (c_X7_classOf l) ⟨rfl, rfl⟩ wl im_X7_classOf sl_X7_X7_classOf in_X7 cd_X7_classOf (n := 1) (by decide +kernel) hR (recv hC hG (q := (RX7, TX7, 26)) rfl V_model) rfl hsz hst rfl hdg hcs) hS (fun _ _ h => h) (fun _ h => h) (fun r u t H1 locs1 ht _ hr hB _ _ hS1 => by
      subst hr
      have hB9 := hB; try dsimp only at hB9
      rw [ht] at hB9
      rcases hB9 with ⟨q0, rfl, hG1⟩ | ⟨t9, q0, q1, hG1⟩
      · exact k0 q0 _ _ hG1 hS1
      · exact k1 r t9 q0 q1 _ _ hG1 hS1)
set_option maxHeartbeats 4000000 in
set_option maxRecDepth 100000 in
theorem c_X7_watch (l : Launch) {D : va_G} {cy : Nat → ClassId} {sa : Nat → Nat} {de B : Nat} {ad : Ad} {S : St} {n : Nat → Nat} {T : St} {k : Nat → Nat} {th : Int32} {X : Rl} {x : Int32}  : Met l yX7_watch (Cond.code yX7_watch cX7_watch 4 (Option.some Jvm.ClassFile.FieldType.char) :: G0) ({ frames := 4, cells := 0, slots := 0, locals := 95 } : Room) (va_Pc [.ref (ad 13 0 0), .int x] (PW D cy sa de B ad (Vw cy de ad S n T k th X) (Inv T k))) (oI B (fun r H => (cd_watch T k x = 0 ∧ r = (exJ T k (ci x) 9 (ci x) 0) ∧ GW D B ad (Vw cy de ad S n (exJ T k (ci x)) (k) 0 X) H) ∨ (∃ (t9 : Nat), cd_watch T k x = t9 ∧ ¬ t9 = 0 ∧ GW D B ad (Vw cy de ad S n T k (nI t9) X) H))) 0 0 (AB B) := by
  refine E_met (own := RX7) rfl rfl (Nat.le_of_ble_eq_true rfl) ?_
  intro p e s m below meth c hC hr hlk hnm hG h0 ls hl
  have hx := hC.x
  have hb := hC.b
  have hS : va_S (AB B) s.heap s.heap [] := va_S.rf
  have hl : lo ls 4 [some (.ref (ad 13 0 0)), some (.int x), none, none] := lo_of hl
  have hI := h0
  obtain ⟨hCI, hD0, hD1, hD2, hB01, hF30, hK8, hMK, hU1, hU2, hS10, hEO, hCF, hFT, hME, hYR, hEK, hLA⟩ := h0
  obtain ⟨hW, hNE, hCH, hBL⟩ := hCI
  have hW9 := hW
  obtain ⟨hB0, hB1, hB2, hB3, hB4, hB5, hB6, hB7, hKI, hEI, hKY⟩ := hW9
  have hMB : MB k := ⟨hB0, hB1, hB2, hB3⟩
  have hKYm : KYm T k := hKY
  refine o_aload_n hx hb dX7_watch_0 hl rfl ?_
  refine o_aload_n hx hb dX7_watch_1 hl rfl ?_
  refine o_iload_n hx hb dX7_watch_2 hl rfl ?_
  refine k_X7_isNoAthlete hC hS hG hMB ml_X7_98 ⟨Nat.le_of_ble_eq_true rfl, Nat.le_of_ble_eq_true rfl⟩ hl.1 (Nat.le_of_ble_eq_true rfl) dX7_watch_3 ⟨Nat.le_of_ble_eq_true rfl, Nat.le_of_ble_eq_true rfl⟩ (fun h3 => ?_) (fun h3 => ?_)
  · skip
    refine lv_iconst (v := 1) hx hb dX7_watch_6 (by decide) ?_
    refine k_X7_isThrown hC hS hG (by first | exact Or.inl rfl | exact Or.inr rfl) ml_X7_94 ⟨Nat.le_of_ble_eq_true rfl, Nat.le_of_ble_eq_true rfl⟩ hl.1 (Nat.le_of_ble_eq_true rfl) dX7_watch_7 ⟨Nat.le_of_ble_eq_true rfl, Nat.le_of_ble_eq_true rfl⟩ (fun h7_0 H locs hG hS => ?_) (fun h7_0 H locs hG hS => ?_)
    · skip
      refine lv_if_eq (tgt := 16) hx hb dX7_watch_10 (by decide) (fun h10 => ?_) (fun h10 => ?_)
      · exact absurd h10 (by decide)
      · skip
        refine lv_bipush (v := 32) hx hb dX7_watch_13 (by decide) ?_
        exact R_I hC hS hr hlk rfl (Or.inr ⟨1, (by simp only [cd_watch]; exact cif_f h3), (by decide), hG⟩) (Nat.le_of_ble_eq_true rfl) (Nat.le_of_ble_eq_true rfl) dX7_watch_15
    · skip
      exact absurd h7_0 (by decide)
  · skip
    refine lv_iconst (v := 1) hx hb dX7_watch_6 (by decide) ?_
    refine k_X7_isThrown hC hS hG (by first | exact Or.inl rfl | exact Or.inr rfl) ml_X7_94 ⟨Nat.le_of_ble_eq_true rfl, Nat.le_of_ble_eq_true rfl⟩ hl.1 (Nat.le_of_ble_eq_true rfl) dX7_watch_7 ⟨Nat.le_of_ble_eq_true rfl, Nat.le_of_ble_eq_true rfl⟩ (fun h7_0 H locs hG hS => ?_) (fun h7_0 H locs hG hS => ?_)
    · skip
      exact absurd h7_0 (by decide)
    · skip
      refine lv_if_eq (tgt := 16) hx hb dX7_watch_10 (by decide) (fun h10 => ?_) (fun h10 => ?_)
      · skip
        obtain ⟨a3, ha3, hxa3⟩ := Classical.not_not.mp h3
        subst hxa3
        have za3 : ci (nI a3) = a3 := nI_clamp (by omega)
        refine lv_iconst (v := 0) hx hb dX7_watch_16 (by decide) ?_
        refine o_istore_n hx hb dX7_watch_17 hl (by decide) rfl (fun ls hl => ?_)
        refine lv_iconst (v := 0) hx hb dX7_watch_18 (by decide) ?_
        refine o_istore_n hx hb dX7_watch_19 hl (by decide) rfl (fun ls hl => ?_)
        have loop20 : ∀ (q9 : Nat) (y : Nat), y ≤ k 3 ∧ k 3 < y + q9 → ∀ ls : Array Slot, lo ls 4 [some (.ref (ad 13 0 0)), some (.int (nI a3)), some (.int (rsF T a3 y)), some (.int (nI y))] → W p l e ({ frames := 4, cells := 0, slots := 0, locals := 95 } : Room) s m [.ref (ad 13 0 0), .int (nI a3)].toArray below meth c H locs 0 0 (MQ below (oI B (fun r H => (cd_watch T k (nI a3) = 0 ∧ r = (exJ T k (ci (nI a3)) 9 (ci (nI a3)) 0) ∧ GW D B ad (Vw cy de ad S n (exJ T k (ci (nI a3))) (k) 0 X) H) ∨ (∃ (t9 : Nat), cd_watch T k (nI a3) = t9 ∧ ¬ t9 = 0 ∧ GW D B ad (Vw cy de ad S n T k (nI t9) X) H))) [.ref (ad 13 0 0), .int (nI a3)].toArray s 0 0 (AB B)) (F0 m 20 ls []) := by
          intro q9
          induction q9 with
          | zero => intro y hq9; exact absurd hq9 (by omega)
          | succ q9 ih20 =>
            intro y hq9   ls hl
            refine o_iload_n hx hb dX7_watch_20 hl rfl ?_
            refine o_aload_n hx hb dX7_watch_21 hl rfl ?_
            refine g_get hC hG us_X7 rfl 23 (by decide) fl_X7_119 V_model rfl dX7_watch_22 ?_
            refine n_icmp_ge (tgt := 54) hx hb y (k 3) rfl rfl (by omega) (by omega) dX7_watch_25 (by decide) (fun h25 => ?_) (fun h25 => ?_)
            · skip
              have hrs := rsF_01 (T := T) (a := a3) y
              rw [show y = k 3 by omega] at hrs hl
              refine o_aload_n hx hb dX7_watch_54 hl rfl ?_
              refine o_aload_n hx hb dX7_watch_55 hl rfl ?_
              refine g_get hC hG us_X7 rfl 5 (by decide) fl_X7_28 V_model rfl dX7_watch_56 ?_
              refine o_iload_n hx hb dX7_watch_59 hl rfl ?_
              refine g_cald hC hG V_m5 _ rfl (by omega) (by omega) dX7_watch_60 ?_
              refine lv_bipush (v := 110) hx hb dX7_watch_61 (by decide) ?_
              refine lv_icmp_eq (tgt := 77) hx hb dX7_watch_63 (by decide) (fun h63 => ?_) (fun h63 => ?_)
              · skip
                refine o_iload_n hx hb dX7_watch_77 hl rfl ?_
                refine lv_if_ne (tgt := 85) hx hb dX7_watch_78 (by decide) (fun h78 => ?_) (fun h78 => ?_)
                · skip
                  refine lv_iconst (v := 0) hx hb dX7_watch_85 (by decide) ?_
                  refine lv_iconst (v := 2) hx hb dX7_watch_86 (by decide) ?_
                  refine k_X7_isThrown hC hS hG (by first | exact Or.inl rfl | exact Or.inr rfl) ml_X7_94 ⟨Nat.le_of_ble_eq_true rfl, Nat.le_of_ble_eq_true rfl⟩ hl.1 (Nat.le_of_ble_eq_true rfl) dX7_watch_87 ⟨Nat.le_of_ble_eq_true rfl, Nat.le_of_ble_eq_true rfl⟩ (fun h87_0 H locs hG hS => ?_) (fun h87_0 H locs hG hS => ?_)
                  · skip
                    exact absurd h87_0 (by decide)
                  · skip
                    refine lv_if_eq (tgt := 96) hx hb dX7_watch_90 (by decide) (fun h90 => ?_) (fun h90 => ?_)
                    · skip
                      have hmay : mayP T a3 := by first | exact Or.inl h63 | exact Or.inr (Or.inr h74)
                      have h8n := (hK8 a3 ha3 (hMK a3 ha3 hmay)).1
                      have hfj := fi_joint (k := k) hKYm (hB01 a3).2.1 ((hB01 a3).1.resolve_left h8n) (hF30 a3 ha3 h8n) (fun y hy => ⟨(hME a3 y ha3 hy).1, (hME a3 y ha3 hy).2.2 h8n⟩)
                      refine o_aload_n hx hb dX7_watch_96 hl rfl ?_
                      refine o_iload_n hx hb dX7_watch_97 hl rfl ?_
                      refine k_X7_finds hC hS hG ⟨by omega, hMB, hKYm, (hB01 _).2.1⟩ ml_X7_129 ⟨Nat.le_of_ble_eq_true rfl, Nat.le_of_ble_eq_true rfl⟩ hl.1 (Nat.le_of_ble_eq_true rfl) dX7_watch_98 ⟨Nat.le_of_ble_eq_true rfl, Nat.le_of_ble_eq_true rfl⟩ (fun H locs hG hS => ?_)
                      refine o_aload_n hx hb dX7_watch_101 hl rfl ?_
                      refine g_get hC hG us_X7 rfl 5 (by decide) fl_X7_28 V_model rfl dX7_watch_102 ?_
                      refine o_iload_n hx hb dX7_watch_105 hl rfl ?_
                      refine g_cald hC hG V_m5 _ rfl (by omega) (by omega) dX7_watch_106 ?_
                      exact R_I hC hS hr hlk (by rw [show fiM T k a3 9 a3 0 = exS T k a3 9 a3 0 from congrFun (congrFun ((hfj 9 (by decide) (by decide) (by decide)).trans (exJ_c 9 (by decide) (by decide))) a3) 0]; exact ch_ex.1) (Or.inl ⟨(by simp only [cd_watch, za3]; exact (cif_t (ix_nI ha3)).trans (cif_t ⟨by first | exact Or.inl h63 | exact Or.inr h74, hrs.elim (fun t => t.2) (fun t => absurd t.1 h78)⟩)), (by rw [za3]; exact congrFun (congrFun (hfj 9 (by decide) (by decide) (by decide)) a3) 0), (by rw [za3, ← Vw_mod hfj]; exact hG)⟩) (Nat.le_of_ble_eq_true rfl) (Nat.le_of_ble_eq_true rfl) dX7_watch_107
                    · exact absurd h90 (by decide)
                · skip
                  refine lv_iconst (v := 1) hx hb dX7_watch_81 (by decide) ?_
                  refine lv_goto (tgt := 86) hx hb dX7_watch_82 (by decide) ?_
                  refine lv_iconst (v := 2) hx hb dX7_watch_86 (by decide) ?_
                  refine k_X7_isThrown hC hS hG (by first | exact Or.inl rfl | exact Or.inr rfl) ml_X7_94 ⟨Nat.le_of_ble_eq_true rfl, Nat.le_of_ble_eq_true rfl⟩ hl.1 (Nat.le_of_ble_eq_true rfl) dX7_watch_87 ⟨Nat.le_of_ble_eq_true rfl, Nat.le_of_ble_eq_true rfl⟩ (fun h87_0 H locs hG hS => ?_) (fun h87_0 H locs hG hS => ?_)
                  · skip
                    refine lv_if_eq (tgt := 96) hx hb dX7_watch_90 (by decide) (fun h90 => ?_) (fun h90 => ?_)
                    · exact absurd h90 (by decide)
                    · skip
                      refine lv_bipush (v := 32) hx hb dX7_watch_93 (by decide) ?_
                      exact R_I hC hS hr hlk rfl (Or.inr ⟨2, (by simp only [cd_watch, za3]; exact (cif_t (ix_nI ha3)).trans (cif_f (fun z => by first | exact z.1.elim h63 h74 | exact hrs.elim (fun t => absurd (t.1.symm.trans h78) (by decide)) (fun t => t.2 z.2)))), (by decide), hG⟩) (Nat.le_of_ble_eq_true rfl) (Nat.le_of_ble_eq_true rfl) dX7_watch_95
                  · skip
                    exact absurd h87_0 (by decide)
              · skip
                refine o_aload_n hx hb dX7_watch_66 hl rfl ?_
                refine g_get hC hG us_X7 rfl 5 (by decide) fl_X7_28 V_model rfl dX7_watch_67 ?_
                refine o_iload_n hx hb dX7_watch_70 hl rfl ?_
                refine g_cald hC hG V_m5 _ rfl (by omega) (by omega) dX7_watch_71 ?_
                refine lv_bipush (v := 114) hx hb dX7_watch_72 (by decide) ?_
                refine lv_icmp_ne (tgt := 81) hx hb dX7_watch_74 (by decide) (fun h74 => ?_) (fun h74 => ?_)
                · skip
                  refine lv_iconst (v := 1) hx hb dX7_watch_81 (by decide) ?_
                  refine lv_goto (tgt := 86) hx hb dX7_watch_82 (by decide) ?_
                  refine lv_iconst (v := 2) hx hb dX7_watch_86 (by decide) ?_
                  refine k_X7_isThrown hC hS hG (by first | exact Or.inl rfl | exact Or.inr rfl) ml_X7_94 ⟨Nat.le_of_ble_eq_true rfl, Nat.le_of_ble_eq_true rfl⟩ hl.1 (Nat.le_of_ble_eq_true rfl) dX7_watch_87 ⟨Nat.le_of_ble_eq_true rfl, Nat.le_of_ble_eq_true rfl⟩ (fun h87_0 H locs hG hS => ?_) (fun h87_0 H locs hG hS => ?_)
                  · skip
                    refine lv_if_eq (tgt := 96) hx hb dX7_watch_90 (by decide) (fun h90 => ?_) (fun h90 => ?_)
                    · exact absurd h90 (by decide)
                    · skip
                      refine lv_bipush (v := 32) hx hb dX7_watch_93 (by decide) ?_
                      exact R_I hC hS hr hlk rfl (Or.inr ⟨2, (by simp only [cd_watch, za3]; exact (cif_t (ix_nI ha3)).trans (cif_f (fun z => by first | exact z.1.elim h63 h74 | exact hrs.elim (fun t => absurd (t.1.symm.trans h78) (by decide)) (fun t => t.2 z.2)))), (by decide), hG⟩) (Nat.le_of_ble_eq_true rfl) (Nat.le_of_ble_eq_true rfl) dX7_watch_95
                  · skip
                    exact absurd h87_0 (by decide)
                · skip
                  refine o_iload_n hx hb dX7_watch_77 hl rfl ?_
                  refine lv_if_ne (tgt := 85) hx hb dX7_watch_78 (by decide) (fun h78 => ?_) (fun h78 => ?_)
                  · skip
                    refine lv_iconst (v := 0) hx hb dX7_watch_85 (by decide) ?_
                    refine lv_iconst (v := 2) hx hb dX7_watch_86 (by decide) ?_
                    refine k_X7_isThrown hC hS hG (by first | exact Or.inl rfl | exact Or.inr rfl) ml_X7_94 ⟨Nat.le_of_ble_eq_true rfl, Nat.le_of_ble_eq_true rfl⟩ hl.1 (Nat.le_of_ble_eq_true rfl) dX7_watch_87 ⟨Nat.le_of_ble_eq_true rfl, Nat.le_of_ble_eq_true rfl⟩ (fun h87_0 H locs hG hS => ?_) (fun h87_0 H locs hG hS => ?_)
                    · skip
                      exact absurd h87_0 (by decide)
                    · skip
                      refine lv_if_eq (tgt := 96) hx hb dX7_watch_90 (by decide) (fun h90 => ?_) (fun h90 => ?_)
                      · skip
                        have hmay : mayP T a3 := by first | exact Or.inl h63 | exact Or.inr (Or.inr h74)
                        have h8n := (hK8 a3 ha3 (hMK a3 ha3 hmay)).1
                        have hfj := fi_joint (k := k) hKYm (hB01 a3).2.1 ((hB01 a3).1.resolve_left h8n) (hF30 a3 ha3 h8n) (fun y hy => ⟨(hME a3 y ha3 hy).1, (hME a3 y ha3 hy).2.2 h8n⟩)
                        refine o_aload_n hx hb dX7_watch_96 hl rfl ?_
                        refine o_iload_n hx hb dX7_watch_97 hl rfl ?_
                        refine k_X7_finds hC hS hG ⟨by omega, hMB, hKYm, (hB01 _).2.1⟩ ml_X7_129 ⟨Nat.le_of_ble_eq_true rfl, Nat.le_of_ble_eq_true rfl⟩ hl.1 (Nat.le_of_ble_eq_true rfl) dX7_watch_98 ⟨Nat.le_of_ble_eq_true rfl, Nat.le_of_ble_eq_true rfl⟩ (fun H locs hG hS => ?_)
                        refine o_aload_n hx hb dX7_watch_101 hl rfl ?_
                        refine g_get hC hG us_X7 rfl 5 (by decide) fl_X7_28 V_model rfl dX7_watch_102 ?_
                        refine o_iload_n hx hb dX7_watch_105 hl rfl ?_
                        refine g_cald hC hG V_m5 _ rfl (by omega) (by omega) dX7_watch_106 ?_
                        exact R_I hC hS hr hlk (by rw [show fiM T k a3 9 a3 0 = exS T k a3 9 a3 0 from congrFun (congrFun ((hfj 9 (by decide) (by decide) (by decide)).trans (exJ_c 9 (by decide) (by decide))) a3) 0]; exact ch_ex.1) (Or.inl ⟨(by simp only [cd_watch, za3]; exact (cif_t (ix_nI ha3)).trans (cif_t ⟨by first | exact Or.inl h63 | exact Or.inr h74, hrs.elim (fun t => t.2) (fun t => absurd t.1 h78)⟩)), (by rw [za3]; exact congrFun (congrFun (hfj 9 (by decide) (by decide) (by decide)) a3) 0), (by rw [za3, ← Vw_mod hfj]; exact hG)⟩) (Nat.le_of_ble_eq_true rfl) (Nat.le_of_ble_eq_true rfl) dX7_watch_107
                      · exact absurd h90 (by decide)
                  · skip
                    refine lv_iconst (v := 1) hx hb dX7_watch_81 (by decide) ?_
                    refine lv_goto (tgt := 86) hx hb dX7_watch_82 (by decide) ?_
                    refine lv_iconst (v := 2) hx hb dX7_watch_86 (by decide) ?_
                    refine k_X7_isThrown hC hS hG (by first | exact Or.inl rfl | exact Or.inr rfl) ml_X7_94 ⟨Nat.le_of_ble_eq_true rfl, Nat.le_of_ble_eq_true rfl⟩ hl.1 (Nat.le_of_ble_eq_true rfl) dX7_watch_87 ⟨Nat.le_of_ble_eq_true rfl, Nat.le_of_ble_eq_true rfl⟩ (fun h87_0 H locs hG hS => ?_) (fun h87_0 H locs hG hS => ?_)
                    · skip
                      refine lv_if_eq (tgt := 96) hx hb dX7_watch_90 (by decide) (fun h90 => ?_) (fun h90 => ?_)
                      · exact absurd h90 (by decide)
                      · skip
                        refine lv_bipush (v := 32) hx hb dX7_watch_93 (by decide) ?_
                        exact R_I hC hS hr hlk rfl (Or.inr ⟨2, (by simp only [cd_watch, za3]; exact (cif_t (ix_nI ha3)).trans (cif_f (fun z => by first | exact z.1.elim h63 h74 | exact hrs.elim (fun t => absurd (t.1.symm.trans h78) (by decide)) (fun t => t.2 z.2)))), (by decide), hG⟩) (Nat.le_of_ble_eq_true rfl) (Nat.le_of_ble_eq_true rfl) dX7_watch_95
                    · skip
                      exact absurd h87_0 (by decide)
            · skip
              refine o_iload_n hx hb dX7_watch_28 hl rfl ?_
              refine o_aload_n hx hb dX7_watch_29 hl rfl ?_
              refine g_get hC hG us_X7 rfl 19 (by decide) fl_X7_73 V_model rfl dX7_watch_30 ?_
              refine o_iload_n hx hb dX7_watch_33 hl rfl ?_
              refine g_aald hC hG 7 rfl rfl V_o19 _ rfl (by omega) (by omega) dX7_watch_34 ?_
              refine o_iload_n hx hb dX7_watch_35 hl rfl ?_
              refine g_iald hC hG (V_r19 (by omega)) _ rfl (by omega) (by omega) dX7_watch_36 ?_
              refine lv_iconst (v := (-1)) hx hb dX7_watch_37 (by decide) ?_
              refine lv_icmp_eq (tgt := 45) hx hb dX7_watch_38 (by decide) (fun h38 => ?_) (fun h38 => ?_)
              · skip
                refine lv_iconst (v := 0) hx hb dX7_watch_45 (by decide) ?_
                refine lv_ior hx hb dX7_watch_46 ?_
                refine o_istore_n hx hb dX7_watch_47 hl (by decide) rfl (fun ls hl => ?_)
                refine o_iinc1 hx hb dX7_watch_48 hl rfl (by decide) rfl (fun ls hl => ?_)
                refine lv_goto (tgt := 20) hx hb dX7_watch_51 (by decide) ?_
                exact ih20 (y + 1) (by omega) ls (by rw [show rsF T a3 (y + 1) = rsF T a3 y ||| cif (timeP T y a3) 1 0 from rfl]; first | (rw [cif_t (P := timeP T y a3) h38]; exact hl) | (rw [cif_f (P := timeP T y a3) (fun z => z h38)]; exact hl))
              · skip
                refine lv_iconst (v := 1) hx hb dX7_watch_41 (by decide) ?_
                refine lv_goto (tgt := 46) hx hb dX7_watch_42 (by decide) ?_
                refine lv_ior hx hb dX7_watch_46 ?_
                refine o_istore_n hx hb dX7_watch_47 hl (by decide) rfl (fun ls hl => ?_)
                refine o_iinc1 hx hb dX7_watch_48 hl rfl (by decide) rfl (fun ls hl => ?_)
                refine lv_goto (tgt := 20) hx hb dX7_watch_51 (by decide) ?_
                exact ih20 (y + 1) (by omega) ls (by rw [show rsF T a3 (y + 1) = rsF T a3 y ||| cif (timeP T y a3) 1 0 from rfl]; first | (rw [cif_t (P := timeP T y a3) h38]; exact hl) | (rw [cif_f (P := timeP T y a3) (fun z => z h38)]; exact hl))
        exact loop20 (k 3 + 1) 0 (by omega) ls hl
      · exact absurd h10 (by decide)
theorem k_X7_watch {p : Program} {l : Launch} {e : Env} {R : Room} {s : State} {m : MethodId} {args : Array Value} {below : List Frame} {meth : Method} {c : Code} {H : Heap} {locs : List Loc} {cells slots : Nat} {Q : State → Prop} {cc : ByteArray} {pc nL : Nat} {ls : Array Slot} {rest : List Value} {own : String} {D : va_G} {cy : Nat → ClassId} {sa : Nat → Nat} {de B : Nat} {ad : Ad} {S : St} {n : Nat → Nat} {T : St} {k : Nat → Nat} {th : Int32} {X : Rl} {x : Int32}  (hC : Cx p m c cc nL s args own D cy sa de B) (hS : va_S (AB B) s.heap H locs) (hG : GW D B ad (Vw cy de ad S n T k th X) H) (h0 : Inv T k)  {idx : Nat} (wl : Cond.methodLink own idx yX7_watch ∈ G0) (hR : 4 + 1 ≤ R.frames ∧ 8 + (4 + 11) + 95 ≤ R.locals) (hsz : ls.size = nL) (hst : (rest.map fun v => v.category).sum ≤ 8) (hdg : decode cc pc = .ok (.invokevirtual idx, 3)) (hcs : cells + 0 ≤ R.cells ∧ slots + 0 ≤ R.slots) (k0 : (cd_watch T k x = 0) → ∀ (H1 : Heap) (locs1 : List Loc), GW D B ad (Vw cy de ad S n (exJ T k (ci x)) (k) 0 X) H1 → va_S (AB B) s.heap H1 locs1 → W p l e R s m args below meth c H1 locs1 cells slots Q (F0 m (pc + 3) ls (.int (exJ T k (ci x) 9 (ci x) 0) :: rest))) (k1 : ∀ (r9 : Int32), ∀ (t9 : Nat), (cd_watch T k x = t9) → (¬ t9 = 0) → ∀ (H1 : Heap) (locs1 : List Loc), GW D B ad (Vw cy de ad S n T k (nI t9) X) H1 → va_S (AB B) s.heap H1 locs1 → W p l e R s m args below meth c H1 locs1 cells slots Q (F0 m (pc + 3) ls (.int r9 :: rest))) : W p l e R s m args below meth c H locs cells slots Q (F0 m pc ls (.int x :: .ref (ad 13 0 0) :: rest)) :=
  va_calli (rV hC hS hG h0 (As := [.int x]) (c_X7_watch l) ⟨rfl, rfl⟩ wl im_X7_watch sl_X7_X7_watch in_X7 cd_X7_watch (n := 1) (by decide +kernel) hR (recv hC hG (q := (RX7, TX7, 26)) rfl V_model) rfl hsz hst rfl hdg hcs) hS (fun _ _ h => h) (fun _ h => h) (fun r u t H1 locs1 ht _ hr hB _ _ hS1 => by
      subst hr
      have hB9 := hB; try dsimp only at hB9
      rw [ht] at hB9
      rcases hB9 with ⟨q0, rfl, hG1⟩ | ⟨t9, q0, q1, hG1⟩
      · exact k0 q0 _ _ hG1 hS1
      · exact k1 r t9 q0 q1 _ _ hG1 hS1)
set_option maxHeartbeats 4000000 in
set_option maxRecDepth 100000 in
theorem c_X7_protest (l : Launch) {D : va_G} {cy : Nat → ClassId} {sa : Nat → Nat} {de B : Nat} {ad : Ad} {S : St} {n : Nat → Nat} {T : St} {k : Nat → Nat} {th : Int32} {X : Rl} {x y : Int32}  : Met l yX7_protest (Cond.code yX7_protest cX7_protest 5 (Option.some Jvm.ClassFile.FieldType.boolean) :: G0) ({ frames := 4, cells := 0, slots := 0, locals := 95 } : Room) (va_Pc [.ref (ad 13 0 0), .int x, .int y] (PW D cy sa de B ad (Vw cy de ad S n T k th X) (Inv T k))) (oI B (fun r H => (cd_protest T k x y = 0 ∧ r = (vl_protest T k (ci y)) ∧ GW D B ad (Vw cy de ad S n (prS T k (ci x) (ci y)) (k) 0 X) H) ∨ (∃ (t9 : Nat), cd_protest T k x y = t9 ∧ ¬ t9 = 0 ∧ GW D B ad (Vw cy de ad S n T k (nI t9) X) H))) 0 0 (AB B) := by
  refine E_met (own := RX7) rfl rfl (Nat.le_of_ble_eq_true rfl) ?_
  intro p e s m below meth c hC hr hlk hnm hG h0 ls hl
  have hx := hC.x
  have hb := hC.b
  have hS : va_S (AB B) s.heap s.heap [] := va_S.rf
  have hl : lo ls 5 [some (.ref (ad 13 0 0)), some (.int x), some (.int y), none, none] := lo_of hl
  have hI := h0
  obtain ⟨hCI, hD0, hD1, hD2, hB01, hF30, hK8, hMK, hU1, hU2, hS10, hEO, hCF, hFT, hME, hYR, hEK, hLA⟩ := h0
  obtain ⟨hW, hNE, hCH, hBL⟩ := hCI
  have hW9 := hW
  obtain ⟨hB0, hB1, hB2, hB3, hB4, hB5, hB6, hB7, hKI, hEI, hKY⟩ := hW9
  have hMB : MB k := ⟨hB0, hB1, hB2, hB3⟩
  have hKYm : KYm T k := hKY
  refine o_aload_n hx hb dX7_protest_0 hl rfl ?_
  refine o_iload_n hx hb dX7_protest_1 hl rfl ?_
  refine k_X7_isNoLand hC hS hG trivial ml_X7_90 ⟨Nat.le_of_ble_eq_true rfl, Nat.le_of_ble_eq_true rfl⟩ hl.1 (Nat.le_of_ble_eq_true rfl) dX7_protest_2 ⟨Nat.le_of_ble_eq_true rfl, Nat.le_of_ble_eq_true rfl⟩ (fun h2 => ?_) (fun h2 => ?_)
  · skip
    refine lv_if_ne (tgt := 16) hx hb dX7_protest_5 (by decide) (fun h5 => ?_) (fun h5 => ?_)
    · skip
      refine lv_iconst (v := 1) hx hb dX7_protest_16 (by decide) ?_
      refine lv_goto (tgt := 21) hx hb dX7_protest_17 (by decide) ?_
      refine lv_iconst (v := 1) hx hb dX7_protest_21 (by decide) ?_
      refine k_X7_isThrown hC hS hG (by first | exact Or.inl rfl | exact Or.inr rfl) ml_X7_94 ⟨Nat.le_of_ble_eq_true rfl, Nat.le_of_ble_eq_true rfl⟩ hl.1 (Nat.le_of_ble_eq_true rfl) dX7_protest_22 ⟨Nat.le_of_ble_eq_true rfl, Nat.le_of_ble_eq_true rfl⟩ (fun h22_0 H locs hG hS => ?_) (fun h22_0 H locs hG hS => ?_)
      · skip
        refine lv_if_ne (tgt := 60) hx hb dX7_protest_25 (by decide) (fun h25 => ?_) (fun h25 => ?_)
        · skip
          refine lv_iconst (v := 0) hx hb dX7_protest_60 (by decide) ?_
          exact R_I hC hS hr hlk rfl (by first | exact Or.inr ⟨1, (by simp only [cd_protest]; exact cif_f (fun z => by first | exact h2 z.1 | exact h10 z.2)), (by decide), hG⟩ | exact Or.inr ⟨2, (by simp only [cd_protest, za2, za10]; exact (cif_t ⟨ix_nI ha2, ix_nI ha10⟩).trans (cif_f (fun z => by first | exact h31 z.1 | exact h45 z.2))), (by decide), hG⟩) (Nat.le_of_ble_eq_true rfl) (Nat.le_of_ble_eq_true rfl) dX7_protest_61
        · exact absurd h25 (by decide)
      · skip
        exact absurd h22_0 (by decide)
    · exact absurd h5 (by decide)
  · skip
    refine lv_if_ne (tgt := 16) hx hb dX7_protest_5 (by decide) (fun h5 => ?_) (fun h5 => ?_)
    · exact absurd h5 (by decide)
    · skip
      refine o_aload_n hx hb dX7_protest_8 hl rfl ?_
      refine o_iload_n hx hb dX7_protest_9 hl rfl ?_
      refine k_X7_isNoAthlete hC hS hG hMB ml_X7_98 ⟨Nat.le_of_ble_eq_true rfl, Nat.le_of_ble_eq_true rfl⟩ hl.1 (Nat.le_of_ble_eq_true rfl) dX7_protest_10 ⟨Nat.le_of_ble_eq_true rfl, Nat.le_of_ble_eq_true rfl⟩ (fun h10 => ?_) (fun h10 => ?_)
      · skip
        refine lv_if_eq (tgt := 20) hx hb dX7_protest_13 (by decide) (fun h13 => ?_) (fun h13 => ?_)
        · exact absurd h13 (by decide)
        · skip
          refine lv_iconst (v := 1) hx hb dX7_protest_16 (by decide) ?_
          refine lv_goto (tgt := 21) hx hb dX7_protest_17 (by decide) ?_
          refine lv_iconst (v := 1) hx hb dX7_protest_21 (by decide) ?_
          refine k_X7_isThrown hC hS hG (by first | exact Or.inl rfl | exact Or.inr rfl) ml_X7_94 ⟨Nat.le_of_ble_eq_true rfl, Nat.le_of_ble_eq_true rfl⟩ hl.1 (Nat.le_of_ble_eq_true rfl) dX7_protest_22 ⟨Nat.le_of_ble_eq_true rfl, Nat.le_of_ble_eq_true rfl⟩ (fun h22_0 H locs hG hS => ?_) (fun h22_0 H locs hG hS => ?_)
          · skip
            refine lv_if_ne (tgt := 60) hx hb dX7_protest_25 (by decide) (fun h25 => ?_) (fun h25 => ?_)
            · skip
              refine lv_iconst (v := 0) hx hb dX7_protest_60 (by decide) ?_
              exact R_I hC hS hr hlk rfl (by first | exact Or.inr ⟨1, (by simp only [cd_protest]; exact cif_f (fun z => by first | exact h2 z.1 | exact h10 z.2)), (by decide), hG⟩ | exact Or.inr ⟨2, (by simp only [cd_protest, za2, za10]; exact (cif_t ⟨ix_nI ha2, ix_nI ha10⟩).trans (cif_f (fun z => by first | exact h31 z.1 | exact h45 z.2))), (by decide), hG⟩) (Nat.le_of_ble_eq_true rfl) (Nat.le_of_ble_eq_true rfl) dX7_protest_61
            · exact absurd h25 (by decide)
          · skip
            exact absurd h22_0 (by decide)
      · skip
        refine lv_if_eq (tgt := 20) hx hb dX7_protest_13 (by decide) (fun h13 => ?_) (fun h13 => ?_)
        · skip
          refine lv_iconst (v := 0) hx hb dX7_protest_20 (by decide) ?_
          refine lv_iconst (v := 1) hx hb dX7_protest_21 (by decide) ?_
          refine k_X7_isThrown hC hS hG (by first | exact Or.inl rfl | exact Or.inr rfl) ml_X7_94 ⟨Nat.le_of_ble_eq_true rfl, Nat.le_of_ble_eq_true rfl⟩ hl.1 (Nat.le_of_ble_eq_true rfl) dX7_protest_22 ⟨Nat.le_of_ble_eq_true rfl, Nat.le_of_ble_eq_true rfl⟩ (fun h22_0 H locs hG hS => ?_) (fun h22_0 H locs hG hS => ?_)
          · skip
            exact absurd h22_0 (by decide)
          · skip
            refine lv_if_ne (tgt := 60) hx hb dX7_protest_25 (by decide) (fun h25 => ?_) (fun h25 => ?_)
            · exact absurd h25 (by decide)
            · skip
              obtain ⟨a2, ha2, hxa2⟩ := Classical.not_not.mp h2
              subst hxa2
              have za2 : ci (nI a2) = a2 := nI_clamp (by omega)
              obtain ⟨a10, ha10, hxa10⟩ := Classical.not_not.mp h10
              subst hxa10
              have za10 : ci (nI a10) = a10 := nI_clamp (by omega)
              refine o_aload_n hx hb dX7_protest_28 hl rfl ?_
              refine o_aload_n hx hb dX7_protest_29 hl rfl ?_
              refine o_iload_n hx hb dX7_protest_30 hl rfl ?_
              refine k_X7_hasClass hC hS hG (by omega) ml_X7_133 ⟨Nat.le_of_ble_eq_true rfl, Nat.le_of_ble_eq_true rfl⟩ hl.1 (Nat.le_of_ble_eq_true rfl) dX7_protest_31 ⟨Nat.le_of_ble_eq_true rfl, Nat.le_of_ble_eq_true rfl⟩ (fun h31 => ?_) (fun h31 => ?_)
              · skip
                refine lv_if_eq (tgt := 48) hx hb dX7_protest_34 (by decide) (fun h34 => ?_) (fun h34 => ?_)
                · exact absurd h34 (by decide)
                · skip
                  refine o_aload_n hx hb dX7_protest_37 hl rfl ?_
                  refine g_get hC hG us_X7 rfl 12 (by decide) fl_X7_50 V_model rfl dX7_protest_38 ?_
                  refine o_iload_n hx hb dX7_protest_41 hl rfl ?_
                  refine g_iald hC hG V_m12 _ rfl (by omega) (by omega) dX7_protest_42 ?_
                  refine lv_bipush (v := 100) hx hb dX7_protest_43 (by decide) ?_
                  refine lv_icmp_ge (tgt := 52) hx hb dX7_protest_45 (by decide) (fun h45 => ?_) (fun h45 => ?_)
                  · skip
                    refine lv_iconst (v := 0) hx hb dX7_protest_52 (by decide) ?_
                    refine lv_iconst (v := 2) hx hb dX7_protest_53 (by decide) ?_
                    refine k_X7_isThrown hC hS hG (by first | exact Or.inl rfl | exact Or.inr rfl) ml_X7_94 ⟨Nat.le_of_ble_eq_true rfl, Nat.le_of_ble_eq_true rfl⟩ hl.1 (Nat.le_of_ble_eq_true rfl) dX7_protest_54 ⟨Nat.le_of_ble_eq_true rfl, Nat.le_of_ble_eq_true rfl⟩ (fun h54_0 H locs hG hS => ?_) (fun h54_0 H locs hG hS => ?_)
                    · skip
                      exact absurd h54_0 (by decide)
                    · skip
                      refine lv_if_eq (tgt := 62) hx hb dX7_protest_57 (by decide) (fun h57 => ?_) (fun h57 => ?_)
                      · skip
                        have hmay : mayP T a10 := h31
                        have h8n := (hK8 a10 ha10 (hMK a10 ha10 hmay)).1
                        have hfj := fi_joint (k := k) hKYm (hB01 a10).2.1 ((hB01 a10).1.resolve_left h8n) (hF30 a10 ha10 h8n) (fun y hy => ⟨(hME a10 y ha10 hy).1, (hME a10 y ha10 hy).2.2 h8n⟩)
                        have e10 : fiM T k a10 10 = exS T k a10 10 := (hfj 10 (by decide) (by decide) (by decide)).trans (exJ_c 10 (by decide) (by decide))
                        have e15 : fiM T k a10 15 = T 15 := ((hfj 15 (by decide) (by decide) (by decide)).trans (exJ_c 15 (by decide) (by decide))).trans (exS_c (by decide) (by decide) (by decide) (by decide) (by decide) (by decide) (by decide) (by decide))
                        refine o_aload_n hx hb dX7_protest_62 hl rfl ?_
                        refine g_get hC hG us_X7 rfl 6 (by decide) fl_X7_32 V_model rfl dX7_protest_63 ?_
                        refine o_iload_n hx hb dX7_protest_66 hl rfl ?_
                        refine g_iald hC hG V_m6 _ rfl (by omega) (by omega) dX7_protest_67 ?_
                        refine o_istore_n hx hb dX7_protest_68 hl (by decide) rfl (fun ls hl => ?_)
                        refine o_aload_n hx hb dX7_protest_69 hl rfl ?_
                        refine o_iload_n hx hb dX7_protest_70 hl rfl ?_
                        refine k_X7_finds hC hS hG ⟨by omega, hMB, hKYm, (hB01 _).2.1⟩ ml_X7_129 ⟨Nat.le_of_ble_eq_true rfl, Nat.le_of_ble_eq_true rfl⟩ hl.1 (Nat.le_of_ble_eq_true rfl) dX7_protest_71 ⟨Nat.le_of_ble_eq_true rfl, Nat.le_of_ble_eq_true rfl⟩ (fun H locs hG hS => ?_)
                        refine o_aload_n hx hb dX7_protest_74 hl rfl ?_
                        refine g_get hC hG us_X7 rfl 6 (by decide) fl_X7_32 V_model rfl dX7_protest_75 ?_
                        refine o_iload_n hx hb dX7_protest_78 hl rfl ?_
                        refine g_iald hC hG V_m6 _ rfl (by omega) (by omega) dX7_protest_79 ?_
                        refine o_iload_n hx hb dX7_protest_80 hl rfl ?_
                        refine lv_icmp_eq (tgt := 88) hx hb dX7_protest_81 (by decide) (fun h81 => ?_) (fun h81 => ?_)
                        · skip
                          refine lv_iconst (v := 0) hx hb dX7_protest_88 (by decide) ?_
                          refine o_istore hx hb dX7_protest_89 hl (by decide) rfl (fun ls hl => ?_)
                          refine o_aload_n hx hb dX7_protest_91 hl rfl ?_
                          refine g_get hC hG us_X7 rfl 12 (by decide) fl_X7_50 V_model rfl dX7_protest_92 ?_
                          refine o_iload_n hx hb dX7_protest_95 hl rfl ?_
                          refine lv_dup2_11 hx hb dX7_protest_96 rfl rfl ?_
                          refine g_iald hC hG V_m12 a2 rfl (by omega) (by omega) dX7_protest_97 ?_
                          refine o_iload hx hb dX7_protest_98 hl rfl ?_
                          refine lv_if_eq (tgt := 107) hx hb dX7_protest_100 (by decide) (fun h100 => ?_) (fun h100 => ?_)
                          · skip
                            refine lv_bipush (v := 100) hx hb dX7_protest_107 (by decide) ?_
                            refine lv_isub hx hb dX7_protest_109 ?_
                            refine g_iast hC hG hS V_m12 a2 rfl (by omega) (by omega) P_m12 dX7_protest_110 (fun H locs hG hS => ?_)
                            refine o_iload hx hb dX7_protest_111 hl rfl ?_
                            exact R_I hC hS hr hlk rfl (by first | exact Or.inl ⟨(by simp only [cd_protest, za2, za10]; exact (cif_t ⟨ix_nI ha2, ix_nI ha10⟩).trans (cif_t ⟨h31, h45⟩)), (by rw [za10]; exact (cif_t (by rw [← e10]; exact h81)).symm), (by rw [za2, za10, show prS T k a2 a10 = up3 (exJ T k a10) 15 a2 0 (T 15 a2 0 - 100) from cif_t (by rw [← e10]; exact h81), ← Vw_mod (T2 := up3 (fiM T k a10) 15 a2 0 (fiM T k a10 15 a2 0 - 100)) (fun c h0 h1 h2 => by rw [e15]; exact up3_congr (hfj c h0 h1 h2))]; exact hG)⟩ | exact Or.inl ⟨(by simp only [cd_protest, za2, za10]; exact (cif_t ⟨ix_nI ha2, ix_nI ha10⟩).trans (cif_t ⟨h31, h45⟩)), (by rw [za10]; exact (cif_f (by rw [← e10]; exact h81)).symm), (by rw [za2, za10, show prS T k a2 a10 = exJ T k a10 from cif_f (by rw [← e10]; exact h81), ← Vw_mod hfj]; rw [up3_same (Int32.sub_zero _).symm] at hG; exact hG)⟩) (Nat.le_of_ble_eq_true rfl) (Nat.le_of_ble_eq_true rfl) dX7_protest_113
                          · exact absurd h100 (by decide)
                        · skip
                          refine lv_iconst (v := 1) hx hb dX7_protest_84 (by decide) ?_
                          refine lv_goto (tgt := 89) hx hb dX7_protest_85 (by decide) ?_
                          refine o_istore hx hb dX7_protest_89 hl (by decide) rfl (fun ls hl => ?_)
                          refine o_aload_n hx hb dX7_protest_91 hl rfl ?_
                          refine g_get hC hG us_X7 rfl 12 (by decide) fl_X7_50 V_model rfl dX7_protest_92 ?_
                          refine o_iload_n hx hb dX7_protest_95 hl rfl ?_
                          refine lv_dup2_11 hx hb dX7_protest_96 rfl rfl ?_
                          refine g_iald hC hG V_m12 a2 rfl (by omega) (by omega) dX7_protest_97 ?_
                          refine o_iload hx hb dX7_protest_98 hl rfl ?_
                          refine lv_if_eq (tgt := 107) hx hb dX7_protest_100 (by decide) (fun h100 => ?_) (fun h100 => ?_)
                          · exact absurd h100 (by decide)
                          · skip
                            refine lv_iconst (v := 0) hx hb dX7_protest_103 (by decide) ?_
                            refine lv_goto (tgt := 109) hx hb dX7_protest_104 (by decide) ?_
                            refine lv_isub hx hb dX7_protest_109 ?_
                            refine g_iast hC hG hS V_m12 a2 rfl (by omega) (by omega) P_m12 dX7_protest_110 (fun H locs hG hS => ?_)
                            refine o_iload hx hb dX7_protest_111 hl rfl ?_
                            exact R_I hC hS hr hlk rfl (by first | exact Or.inl ⟨(by simp only [cd_protest, za2, za10]; exact (cif_t ⟨ix_nI ha2, ix_nI ha10⟩).trans (cif_t ⟨h31, h45⟩)), (by rw [za10]; exact (cif_t (by rw [← e10]; exact h81)).symm), (by rw [za2, za10, show prS T k a2 a10 = up3 (exJ T k a10) 15 a2 0 (T 15 a2 0 - 100) from cif_t (by rw [← e10]; exact h81), ← Vw_mod (T2 := up3 (fiM T k a10) 15 a2 0 (fiM T k a10 15 a2 0 - 100)) (fun c h0 h1 h2 => by rw [e15]; exact up3_congr (hfj c h0 h1 h2))]; exact hG)⟩ | exact Or.inl ⟨(by simp only [cd_protest, za2, za10]; exact (cif_t ⟨ix_nI ha2, ix_nI ha10⟩).trans (cif_t ⟨h31, h45⟩)), (by rw [za10]; exact (cif_f (by rw [← e10]; exact h81)).symm), (by rw [za2, za10, show prS T k a2 a10 = exJ T k a10 from cif_f (by rw [← e10]; exact h81), ← Vw_mod hfj]; rw [up3_same (Int32.sub_zero _).symm] at hG; exact hG)⟩) (Nat.le_of_ble_eq_true rfl) (Nat.le_of_ble_eq_true rfl) dX7_protest_113
                      · exact absurd h57 (by decide)
                  · skip
                    refine lv_iconst (v := 1) hx hb dX7_protest_48 (by decide) ?_
                    refine lv_goto (tgt := 53) hx hb dX7_protest_49 (by decide) ?_
                    refine lv_iconst (v := 2) hx hb dX7_protest_53 (by decide) ?_
                    refine k_X7_isThrown hC hS hG (by first | exact Or.inl rfl | exact Or.inr rfl) ml_X7_94 ⟨Nat.le_of_ble_eq_true rfl, Nat.le_of_ble_eq_true rfl⟩ hl.1 (Nat.le_of_ble_eq_true rfl) dX7_protest_54 ⟨Nat.le_of_ble_eq_true rfl, Nat.le_of_ble_eq_true rfl⟩ (fun h54_0 H locs hG hS => ?_) (fun h54_0 H locs hG hS => ?_)
                    · skip
                      refine lv_if_eq (tgt := 62) hx hb dX7_protest_57 (by decide) (fun h57 => ?_) (fun h57 => ?_)
                      · exact absurd h57 (by decide)
                      · skip
                        refine lv_iconst (v := 0) hx hb dX7_protest_60 (by decide) ?_
                        exact R_I hC hS hr hlk rfl (by first | exact Or.inr ⟨1, (by simp only [cd_protest]; exact cif_f (fun z => by first | exact h2 z.1 | exact h10 z.2)), (by decide), hG⟩ | exact Or.inr ⟨2, (by simp only [cd_protest, za2, za10]; exact (cif_t ⟨ix_nI ha2, ix_nI ha10⟩).trans (cif_f (fun z => by first | exact h31 z.1 | exact h45 z.2))), (by decide), hG⟩) (Nat.le_of_ble_eq_true rfl) (Nat.le_of_ble_eq_true rfl) dX7_protest_61
                    · skip
                      exact absurd h54_0 (by decide)
              · skip
                refine lv_if_eq (tgt := 48) hx hb dX7_protest_34 (by decide) (fun h34 => ?_) (fun h34 => ?_)
                · skip
                  refine lv_iconst (v := 1) hx hb dX7_protest_48 (by decide) ?_
                  refine lv_goto (tgt := 53) hx hb dX7_protest_49 (by decide) ?_
                  refine lv_iconst (v := 2) hx hb dX7_protest_53 (by decide) ?_
                  refine k_X7_isThrown hC hS hG (by first | exact Or.inl rfl | exact Or.inr rfl) ml_X7_94 ⟨Nat.le_of_ble_eq_true rfl, Nat.le_of_ble_eq_true rfl⟩ hl.1 (Nat.le_of_ble_eq_true rfl) dX7_protest_54 ⟨Nat.le_of_ble_eq_true rfl, Nat.le_of_ble_eq_true rfl⟩ (fun h54_0 H locs hG hS => ?_) (fun h54_0 H locs hG hS => ?_)
                  · skip
                    refine lv_if_eq (tgt := 62) hx hb dX7_protest_57 (by decide) (fun h57 => ?_) (fun h57 => ?_)
                    · exact absurd h57 (by decide)
                    · skip
                      refine lv_iconst (v := 0) hx hb dX7_protest_60 (by decide) ?_
                      exact R_I hC hS hr hlk rfl (by first | exact Or.inr ⟨1, (by simp only [cd_protest]; exact cif_f (fun z => by first | exact h2 z.1 | exact h10 z.2)), (by decide), hG⟩ | exact Or.inr ⟨2, (by simp only [cd_protest, za2, za10]; exact (cif_t ⟨ix_nI ha2, ix_nI ha10⟩).trans (cif_f (fun z => by first | exact h31 z.1 | exact h45 z.2))), (by decide), hG⟩) (Nat.le_of_ble_eq_true rfl) (Nat.le_of_ble_eq_true rfl) dX7_protest_61
                  · skip
                    exact absurd h54_0 (by decide)
                · exact absurd h34 (by decide)
        · exact absurd h13 (by decide)
theorem k_X7_protest {p : Program} {l : Launch} {e : Env} {R : Room} {s : State} {m : MethodId} {args : Array Value} {below : List Frame} {meth : Method} {c : Code} {H : Heap} {locs : List Loc} {cells slots : Nat} {Q : State → Prop} {cc : ByteArray} {pc nL : Nat} {ls : Array Slot} {rest : List Value} {own : String} {D : va_G} {cy : Nat → ClassId} {sa : Nat → Nat} {de B : Nat} {ad : Ad} {S : St} {n : Nat → Nat} {T : St} {k : Nat → Nat} {th : Int32} {X : Rl} {x y : Int32}  (hC : Cx p m c cc nL s args own D cy sa de B) (hS : va_S (AB B) s.heap H locs) (hG : GW D B ad (Vw cy de ad S n T k th X) H) (h0 : Inv T k)  {idx : Nat} (wl : Cond.methodLink own idx yX7_protest ∈ G0) (hR : 4 + 1 ≤ R.frames ∧ 8 + (5 + 11) + 95 ≤ R.locals) (hsz : ls.size = nL) (hst : (rest.map fun v => v.category).sum ≤ 8) (hdg : decode cc pc = .ok (.invokevirtual idx, 3)) (hcs : cells + 0 ≤ R.cells ∧ slots + 0 ≤ R.slots) (k0 : (cd_protest T k x y = 0) → ∀ (H1 : Heap) (locs1 : List Loc), GW D B ad (Vw cy de ad S n (prS T k (ci x) (ci y)) (k) 0 X) H1 → va_S (AB B) s.heap H1 locs1 → W p l e R s m args below meth c H1 locs1 cells slots Q (F0 m (pc + 3) ls (.int (vl_protest T k (ci y)) :: rest))) (k1 : ∀ (r9 : Int32), ∀ (t9 : Nat), (cd_protest T k x y = t9) → (¬ t9 = 0) → ∀ (H1 : Heap) (locs1 : List Loc), GW D B ad (Vw cy de ad S n T k (nI t9) X) H1 → va_S (AB B) s.heap H1 locs1 → W p l e R s m args below meth c H1 locs1 cells slots Q (F0 m (pc + 3) ls (.int r9 :: rest))) : W p l e R s m args below meth c H locs cells slots Q (F0 m pc ls (.int y :: .int x :: .ref (ad 13 0 0) :: rest)) :=
  va_calli (rV hC hS hG h0 (As := [.int x, .int y]) (c_X7_protest l) ⟨rfl, rfl⟩ wl im_X7_protest sl_X7_X7_protest in_X7 cd_X7_protest (n := 2) (by decide +kernel) hR (recv hC hG (q := (RX7, TX7, 26)) rfl V_model) rfl hsz hst rfl hdg hcs) hS (fun _ _ h => h) (fun _ h => h) (fun r u t H1 locs1 ht _ hr hB _ _ hS1 => by
      subst hr
      have hB9 := hB; try dsimp only at hB9
      rw [ht] at hB9
      rcases hB9 with ⟨q0, rfl, hG1⟩ | ⟨t9, q0, q1, hG1⟩
      · exact k0 q0 _ _ hG1 hS1
      · exact k1 r t9 q0 q1 _ _ hG1 hS1)
set_option maxHeartbeats 4000000 in
set_option maxRecDepth 100000 in
theorem c_X7_money (l : Launch) {D : va_G} {cy : Nat → ClassId} {sa : Nat → Nat} {de B : Nat} {ad : Ad} {S : St} {n : Nat → Nat} {T : St} {k : Nat → Nat} {th : Int32} {X : Rl} {x : Int32}  : Met l yX7_money (Cond.code yX7_money cX7_money 2 (Option.some Jvm.ClassFile.FieldType.int) :: G0) ({ frames := 2, cells := 0, slots := 0, locals := 42 } : Room) (va_Pc [.ref (ad 13 0 0), .int x] (PW D cy sa de B ad (Vw cy de ad S n T k th X) (Inv T k))) (oI B (fun r H => (cd_money x = 0 ∧ r = (T 15 (ci x) 0) ∧ GW D B ad (Vw cy de ad S n (T) (k) 0 X) H) ∨ (∃ (t9 : Nat), cd_money x = t9 ∧ ¬ t9 = 0 ∧ GW D B ad (Vw cy de ad S n T k (nI t9) X) H))) 0 0 (AB B) := by
  refine E_met (own := RX7) rfl rfl (Nat.le_of_ble_eq_true rfl) ?_
  intro p e s m below meth c hC hr hlk hnm hG h0 ls hl
  have hx := hC.x
  have hb := hC.b
  have hS : va_S (AB B) s.heap s.heap [] := va_S.rf
  have hl : lo ls 2 [some (.ref (ad 13 0 0)), some (.int x)] := lo_of hl
  have hI := h0
  obtain ⟨hCI, hD0, hD1, hD2, hB01, hF30, hK8, hMK, hU1, hU2, hS10, hEO, hCF, hFT, hME, hYR, hEK, hLA⟩ := h0
  obtain ⟨hW, hNE, hCH, hBL⟩ := hCI
  have hW9 := hW
  obtain ⟨hB0, hB1, hB2, hB3, hB4, hB5, hB6, hB7, hKI, hEI, hKY⟩ := hW9
  have hMB : MB k := ⟨hB0, hB1, hB2, hB3⟩
  have hKYm : KYm T k := hKY
  refine o_aload_n hx hb dX7_money_0 hl rfl ?_
  refine o_iload_n hx hb dX7_money_1 hl rfl ?_
  refine k_X7_isNoLand hC hS hG trivial ml_X7_90 ⟨Nat.le_of_ble_eq_true rfl, Nat.le_of_ble_eq_true rfl⟩ hl.1 (Nat.le_of_ble_eq_true rfl) dX7_money_2 ⟨Nat.le_of_ble_eq_true rfl, Nat.le_of_ble_eq_true rfl⟩ (fun h2 => ?_) (fun h2 => ?_)
  · skip
    refine lv_iconst (v := 1) hx hb dX7_money_5 (by decide) ?_
    refine k_X7_isThrown hC hS hG (by first | exact Or.inl rfl | exact Or.inr rfl) ml_X7_94 ⟨Nat.le_of_ble_eq_true rfl, Nat.le_of_ble_eq_true rfl⟩ hl.1 (Nat.le_of_ble_eq_true rfl) dX7_money_6 ⟨Nat.le_of_ble_eq_true rfl, Nat.le_of_ble_eq_true rfl⟩ (fun h6_0 H locs hG hS => ?_) (fun h6_0 H locs hG hS => ?_)
    · skip
      refine lv_if_eq (tgt := 16) hx hb dX7_money_9 (by decide) (fun h9 => ?_) (fun h9 => ?_)
      · exact absurd h9 (by decide)
      · skip
        refine lv_iconst (v := 0) hx hb dX7_money_12 (by decide) ?_
        refine lv_goto (tgt := 22) hx hb dX7_money_13 (by decide) ?_
        exact R_I hC hS hr hlk rfl (by first | exact Or.inr ⟨1, (by simp only [cd_money]; exact cif_f h2), (by decide), hG⟩ | exact Or.inl ⟨(by simp only [cd_money]; exact cif_t (ix_nI ha2)), (by rw [za2]), (by exact hG)⟩) (Nat.le_of_ble_eq_true rfl) (Nat.le_of_ble_eq_true rfl) dX7_money_22
    · skip
      exact absurd h6_0 (by decide)
  · skip
    refine lv_iconst (v := 1) hx hb dX7_money_5 (by decide) ?_
    refine k_X7_isThrown hC hS hG (by first | exact Or.inl rfl | exact Or.inr rfl) ml_X7_94 ⟨Nat.le_of_ble_eq_true rfl, Nat.le_of_ble_eq_true rfl⟩ hl.1 (Nat.le_of_ble_eq_true rfl) dX7_money_6 ⟨Nat.le_of_ble_eq_true rfl, Nat.le_of_ble_eq_true rfl⟩ (fun h6_0 H locs hG hS => ?_) (fun h6_0 H locs hG hS => ?_)
    · skip
      exact absurd h6_0 (by decide)
    · skip
      refine lv_if_eq (tgt := 16) hx hb dX7_money_9 (by decide) (fun h9 => ?_) (fun h9 => ?_)
      · skip
        obtain ⟨a2, ha2, hxa2⟩ := Classical.not_not.mp h2
        subst hxa2
        have za2 : ci (nI a2) = a2 := nI_clamp (by omega)
        refine o_aload_n hx hb dX7_money_16 hl rfl ?_
        refine g_get hC hG us_X7 rfl 12 (by decide) fl_X7_50 V_model rfl dX7_money_17 ?_
        refine o_iload_n hx hb dX7_money_20 hl rfl ?_
        refine g_iald hC hG V_m12 _ rfl (by omega) (by omega) dX7_money_21 ?_
        exact R_I hC hS hr hlk rfl (by first | exact Or.inr ⟨1, (by simp only [cd_money]; exact cif_f h2), (by decide), hG⟩ | exact Or.inl ⟨(by simp only [cd_money]; exact cif_t (ix_nI ha2)), (by rw [za2]), (by exact hG)⟩) (Nat.le_of_ble_eq_true rfl) (Nat.le_of_ble_eq_true rfl) dX7_money_22
      · exact absurd h9 (by decide)
theorem k_X7_money {p : Program} {l : Launch} {e : Env} {R : Room} {s : State} {m : MethodId} {args : Array Value} {below : List Frame} {meth : Method} {c : Code} {H : Heap} {locs : List Loc} {cells slots : Nat} {Q : State → Prop} {cc : ByteArray} {pc nL : Nat} {ls : Array Slot} {rest : List Value} {own : String} {D : va_G} {cy : Nat → ClassId} {sa : Nat → Nat} {de B : Nat} {ad : Ad} {S : St} {n : Nat → Nat} {T : St} {k : Nat → Nat} {th : Int32} {X : Rl} {x : Int32}  (hC : Cx p m c cc nL s args own D cy sa de B) (hS : va_S (AB B) s.heap H locs) (hG : GW D B ad (Vw cy de ad S n T k th X) H) (h0 : Inv T k)  {idx : Nat} (wl : Cond.methodLink own idx yX7_money ∈ G0) (hR : 2 + 1 ≤ R.frames ∧ 8 + (2 + 11) + 42 ≤ R.locals) (hsz : ls.size = nL) (hst : (rest.map fun v => v.category).sum ≤ 8) (hdg : decode cc pc = .ok (.invokevirtual idx, 3)) (hcs : cells + 0 ≤ R.cells ∧ slots + 0 ≤ R.slots) (k0 : (cd_money x = 0) → ∀ (H1 : Heap) (locs1 : List Loc), GW D B ad (Vw cy de ad S n (T) (k) 0 X) H1 → va_S (AB B) s.heap H1 locs1 → W p l e R s m args below meth c H1 locs1 cells slots Q (F0 m (pc + 3) ls (.int (T 15 (ci x) 0) :: rest))) (k1 : ∀ (r9 : Int32), ∀ (t9 : Nat), (cd_money x = t9) → (¬ t9 = 0) → ∀ (H1 : Heap) (locs1 : List Loc), GW D B ad (Vw cy de ad S n T k (nI t9) X) H1 → va_S (AB B) s.heap H1 locs1 → W p l e R s m args below meth c H1 locs1 cells slots Q (F0 m (pc + 3) ls (.int r9 :: rest))) : W p l e R s m args below meth c H locs cells slots Q (F0 m pc ls (.int x :: .ref (ad 13 0 0) :: rest)) :=
  va_calli (rV hC hS hG h0 (As := [.int x]) (c_X7_money l) ⟨rfl, rfl⟩ wl im_X7_money sl_X7_X7_money in_X7 cd_X7_money (n := 1) (by decide +kernel) hR (recv hC hG (q := (RX7, TX7, 26)) rfl V_model) rfl hsz hst rfl hdg hcs) hS (fun _ _ h => h) (fun _ h => h) (fun r u t H1 locs1 ht _ hr hB _ _ hS1 => by
      subst hr
      have hB9 := hB; try dsimp only at hB9
      rw [ht] at hB9
      rcases hB9 with ⟨q0, rfl, hG1⟩ | ⟨t9, q0, q1, hG1⟩
      · exact k0 q0 _ _ hG1 hS1
      · exact k1 r t9 q0 q1 _ _ hG1 hS1)
set_option maxHeartbeats 4000000 in
set_option maxRecDepth 100000 in
theorem c_X7_border (l : Launch) {D : va_G} {cy : Nat → ClassId} {sa : Nat → Nat} {de B : Nat} {ad : Ad} {S : St} {n : Nat → Nat} {T : St} {k : Nat → Nat} {th : Int32} {X : Rl} {x y z : Int32}  : Met l yX7_border (Cond.code yX7_border cX7_border 6 (Option.some Jvm.ClassFile.FieldType.int) :: G0) ({ frames := 2, cells := 0, slots := 0, locals := 49 } : Room) (va_Pc [.ref (ad 13 0 0), .int x, .int y, .int z] (PW D cy sa de B ad (Vw cy de ad S n T k th X) (Inv T k))) (oI B (fun r H => (cd_border k x y z = 0 ∧ r = (boN (drS T (ci x) y z) (k 3) (ci x) (k 0)) ∧ GW D B ad (Vw cy de ad S n (boS (drS T (ci x) y z) (k 3) (ci x) (k 0)) (k) 0 X) H) ∨ (∃ (t9 : Nat), cd_border k x y z = t9 ∧ ¬ t9 = 0 ∧ GW D B ad (Vw cy de ad S n T k (nI t9) X) H))) 0 0 (AB B) := by
  refine E_met (own := RX7) rfl rfl (Nat.le_of_ble_eq_true rfl) ?_
  intro p e s m below meth c hC hr hlk hnm hG h0 ls hl
  have hx := hC.x
  have hb := hC.b
  have hS : va_S (AB B) s.heap s.heap [] := va_S.rf
  have hl : lo ls 6 [some (.ref (ad 13 0 0)), some (.int x), some (.int y), some (.int z), none, none] := lo_of hl
  have hI := h0
  obtain ⟨hCI, hD0, hD1, hD2, hB01, hF30, hK8, hMK, hU1, hU2, hS10, hEO, hCF, hFT, hME, hYR, hEK, hLA⟩ := h0
  obtain ⟨hW, hNE, hCH, hBL⟩ := hCI
  have hW9 := hW
  obtain ⟨hB0, hB1, hB2, hB3, hB4, hB5, hB6, hB7, hKI, hEI, hKY⟩ := hW9
  have hMB : MB k := ⟨hB0, hB1, hB2, hB3⟩
  have hKYm : KYm T k := hKY
  refine o_aload_n hx hb dX7_border_0 hl rfl ?_
  refine o_aload_n hx hb dX7_border_1 hl rfl ?_
  refine o_iload_n hx hb dX7_border_2 hl rfl ?_
  refine k_X7_isNoKind hC hS hG hMB ml_X7_136 ⟨Nat.le_of_ble_eq_true rfl, Nat.le_of_ble_eq_true rfl⟩ hl.1 (Nat.le_of_ble_eq_true rfl) dX7_border_3 ⟨Nat.le_of_ble_eq_true rfl, Nat.le_of_ble_eq_true rfl⟩ (fun h3 => ?_) (fun h3 => ?_)
  · skip
    refine lv_iconst (v := 1) hx hb dX7_border_6 (by decide) ?_
    refine k_X7_isThrown hC hS hG (by first | exact Or.inl rfl | exact Or.inr rfl) ml_X7_94 ⟨Nat.le_of_ble_eq_true rfl, Nat.le_of_ble_eq_true rfl⟩ hl.1 (Nat.le_of_ble_eq_true rfl) dX7_border_7 ⟨Nat.le_of_ble_eq_true rfl, Nat.le_of_ble_eq_true rfl⟩ (fun h7_0 H locs hG hS => ?_) (fun h7_0 H locs hG hS => ?_)
    · skip
      refine lv_if_ne (tgt := 48) hx hb dX7_border_10 (by decide) (fun h10 => ?_) (fun h10 => ?_)
      · skip
        refine lv_iconst (v := 0) hx hb dX7_border_48 (by decide) ?_
        exact R_I hC hS hr hlk rfl (by first | exact Or.inr ⟨1, (by simp only [cd_border]; exact cif_f h3), (by decide), hG⟩ | exact Or.inr ⟨2, (by simp only [cd_border]; exact (cif_t (ix_nI ha3)).trans (cif_f (fun v => by first | exact h19 ⟨v.1, Int32.le_trans v.2.1 v.2.2⟩ | exact h30 ⟨v.2.1, v.2.2⟩))), (by decide), hG⟩) (Nat.le_of_ble_eq_true rfl) (Nat.le_of_ble_eq_true rfl) dX7_border_49
      · exact absurd h10 (by decide)
    · skip
      exact absurd h7_0 (by decide)
  · skip
    refine lv_iconst (v := 1) hx hb dX7_border_6 (by decide) ?_
    refine k_X7_isThrown hC hS hG (by first | exact Or.inl rfl | exact Or.inr rfl) ml_X7_94 ⟨Nat.le_of_ble_eq_true rfl, Nat.le_of_ble_eq_true rfl⟩ hl.1 (Nat.le_of_ble_eq_true rfl) dX7_border_7 ⟨Nat.le_of_ble_eq_true rfl, Nat.le_of_ble_eq_true rfl⟩ (fun h7_0 H locs hG hS => ?_) (fun h7_0 H locs hG hS => ?_)
    · skip
      exact absurd h7_0 (by decide)
    · skip
      refine lv_if_ne (tgt := 48) hx hb dX7_border_10 (by decide) (fun h10 => ?_) (fun h10 => ?_)
      · exact absurd h10 (by decide)
      · skip
        obtain ⟨a3, ha3, hxa3⟩ := Classical.not_not.mp h3
        subst hxa3
        have za3 : ci (nI a3) = a3 := nI_clamp (by omega)
        refine o_aload_n hx hb dX7_border_13 hl rfl ?_
        refine o_iload_n hx hb dX7_border_14 hl rfl ?_
        refine lv_iconst (v := 0) hx hb dX7_border_15 (by decide) ?_
        refine lv_sipush (v := 500) hx hb dX7_border_16 (by decide) ?_
        refine k_X7_isIn hC hS hG trivial ml_X7_83 ⟨Nat.le_of_ble_eq_true rfl, Nat.le_of_ble_eq_true rfl⟩ hl.1 (Nat.le_of_ble_eq_true rfl) dX7_border_19 ⟨Nat.le_of_ble_eq_true rfl, Nat.le_of_ble_eq_true rfl⟩ (fun h19 => ?_) (fun h19 => ?_)
        · skip
          refine lv_if_eq (tgt := 36) hx hb dX7_border_22 (by decide) (fun h22 => ?_) (fun h22 => ?_)
          · exact absurd h22 (by decide)
          · skip
            refine o_iload_n hx hb dX7_border_25 hl rfl ?_
            refine o_iload_n hx hb dX7_border_26 hl rfl ?_
            refine lv_sipush (v := 500) hx hb dX7_border_27 (by decide) ?_
            refine k_X7_isIn hC hS hG trivial ml_X7_83 ⟨Nat.le_of_ble_eq_true rfl, Nat.le_of_ble_eq_true rfl⟩ hl.1 (Nat.le_of_ble_eq_true rfl) dX7_border_30 ⟨Nat.le_of_ble_eq_true rfl, Nat.le_of_ble_eq_true rfl⟩ (fun h30 => ?_) (fun h30 => ?_)
            · skip
              refine lv_if_ne (tgt := 40) hx hb dX7_border_33 (by decide) (fun h33 => ?_) (fun h33 => ?_)
              · skip
                refine lv_iconst (v := 0) hx hb dX7_border_40 (by decide) ?_
                refine lv_iconst (v := 2) hx hb dX7_border_41 (by decide) ?_
                refine k_X7_isThrown hC hS hG (by first | exact Or.inl rfl | exact Or.inr rfl) ml_X7_94 ⟨Nat.le_of_ble_eq_true rfl, Nat.le_of_ble_eq_true rfl⟩ hl.1 (Nat.le_of_ble_eq_true rfl) dX7_border_42 ⟨Nat.le_of_ble_eq_true rfl, Nat.le_of_ble_eq_true rfl⟩ (fun h42_0 H locs hG hS => ?_) (fun h42_0 H locs hG hS => ?_)
                · skip
                  exact absurd h42_0 (by decide)
                · skip
                  refine lv_if_eq (tgt := 50) hx hb dX7_border_45 (by decide) (fun h45 => ?_) (fun h45 => ?_)
                  · skip
                    refine o_aload_n hx hb dX7_border_50 hl rfl ?_
                    refine g_get hC hG us_X7 rfl 10 (by decide) fl_X7_44 V_model rfl dX7_border_51 ?_
                    refine o_iload_n hx hb dX7_border_54 hl rfl ?_
                    refine g_aald hC hG 7 rfl rfl V_o10 _ rfl (by omega) (by omega) dX7_border_55 ?_
                    refine lv_iconst (v := 2) hx hb dX7_border_56 (by decide) ?_
                    refine o_iload_n hx hb dX7_border_57 hl rfl ?_
                    refine g_iast hC hG hS (V_r10 (by omega)) 2 rfl (by omega) (by omega) (P_r10 (by omega)) dX7_border_58 (fun H locs hG hS => ?_)
                    refine o_aload_n hx hb dX7_border_59 hl rfl ?_
                    refine g_get hC hG us_X7 rfl 10 (by decide) fl_X7_44 V_model rfl dX7_border_60 ?_
                    refine o_iload_n hx hb dX7_border_63 hl rfl ?_
                    refine g_aald hC hG 7 rfl rfl V_o10 _ rfl (by omega) (by omega) dX7_border_64 ?_
                    refine lv_iconst (v := 3) hx hb dX7_border_65 (by decide) ?_
                    refine o_iload_n hx hb dX7_border_66 hl rfl ?_
                    refine g_iast hC hG hS (V_r10 (by omega)) 3 rfl (by omega) (by omega) (P_r10 (by omega)) dX7_border_67 (fun H locs hG hS => ?_)
                    refine o_aload_n hx hb dX7_border_68 hl rfl ?_
                    refine g_get hC hG us_X7 rfl 11 (by decide) fl_X7_47 V_model rfl dX7_border_69 ?_
                    refine o_iload_n hx hb dX7_border_72 hl rfl ?_
                    refine lv_iconst (v := (-1)) hx hb dX7_border_73 (by decide) ?_
                    refine g_iast hC hG hS V_m11 _ rfl (by omega) (by omega) P_m11 dX7_border_74 (fun H locs hG hS => ?_)
                    have hG : GW D B ad (Vw cy de ad S n (drS T a3 y z) k 0 X) H := hG
                    refine lv_iconst (v := 0) hx hb dX7_border_75 (by decide) ?_
                    refine o_istore hx hb dX7_border_76 hl (by decide) rfl (fun ls hl => ?_)
                    refine lv_iconst (v := 0) hx hb dX7_border_78 (by decide) ?_
                    refine o_istore hx hb dX7_border_79 hl (by decide) rfl (fun ls hl => ?_)
                    have loop81 : ∀ (q9 : Nat) (w : Nat), w ≤ k 0 ∧ k 0 < w + q9 → ∀ (H : Heap) (locs : List Loc), GW D B ad (Vw cy de ad S n (boS (drS T a3 y z) (k 3) a3 w) k 0 X) H → va_S (AB B) s.heap H locs → ∀ ls : Array Slot, lo ls 6 [some (.ref (ad 13 0 0)), some (.int (nI a3)), some (.int y), some (.int z), some (.int (boN (drS T a3 y z) (k 3) a3 w)), some (.int (nI w))] → W p l e ({ frames := 2, cells := 0, slots := 0, locals := 49 } : Room) s m [.ref (ad 13 0 0), .int (nI a3), .int y, .int z].toArray below meth c H locs 0 0 (MQ below (oI B (fun r H => (cd_border k (nI a3) y z = 0 ∧ r = (boN (drS T (ci (nI a3)) y z) (k 3) (ci (nI a3)) (k 0)) ∧ GW D B ad (Vw cy de ad S n (boS (drS T (ci (nI a3)) y z) (k 3) (ci (nI a3)) (k 0)) (k) 0 X) H) ∨ (∃ (t9 : Nat), cd_border k (nI a3) y z = t9 ∧ ¬ t9 = 0 ∧ GW D B ad (Vw cy de ad S n T k (nI t9) X) H))) [.ref (ad 13 0 0), .int (nI a3), .int y, .int z].toArray s 0 0 (AB B)) (F0 m 81 ls []) := by
                      intro q9
                      induction q9 with
                      | zero => intro w hq9; exact absurd hq9 (by omega)
                      | succ q9 ih81 =>
                        intro w hq9  H locs hG hS ls hl
                        have o1 : ∀ x, x ≠ 21 → x ≠ 22 → x ≠ 13 → x ≠ 14 → ∀ v, boS (drS T a3 y z) (k 3) a3 w x w v = T x w v := fun x h1 h2 h3 h4 v => by rw [boS_o w (Nat.le_refl w) h1 h2]; unfold drS; rw [up3_c h4, up3_c h3, up3_c h3]
                        have t10 : boS (drS T a3 y z) (k 3) a3 w 10 w 0 = T 10 w 0 := o1 10 (by decide) (by decide) (by decide) (by decide) 0
                        have hKw : KYm (boS (drS T a3 y z) (k 3) a3 w) k := fun q hq => by
                          rw [boS_c w (x := 13) (by decide) (by decide) (by decide) (by decide) (by decide) (by decide) (by decide)]
                          exact KY_of (WF_dr hW) q hq
                        have hcg0 : ¬ T 8 w 0 = 0 → (holdsP (boS (drS T a3 y z) (k 3) a3 w) a3 (boS (drS T a3 y z) (k 3) a3 w 30 w) ↔ holdsP (boS (drS T a3 y z) (k 3) a3 w) a3 (fMea (boS (drS T a3 y z) (k 3) a3 w) w 2)) := fun hwn => holds_congr (hKw a3 (by omega)) (fun v hv => by
                          show boS (drS T a3 y z) (k 3) a3 w 30 w v = boS (drS T a3 y z) (k 3) a3 w 1 w v
                          rw [o1 30 (by decide) (by decide) (by decide) (by decide), o1 1 (by decide) (by decide) (by decide) (by decide)]
                          by_cases hwk : w < k 0
                          · exact (hF30 w hwk hwn v hv).symm
                          · exact absurd (hD0 w (by omega)).1 hwn)
                        refine o_iload hx hb dX7_border_81 hl rfl ?_
                        refine o_aload_n hx hb dX7_border_83 hl rfl ?_
                        refine g_get hC hG us_X7 rfl 20 (by decide) fl_X7_80 V_model rfl dX7_border_84 ?_
                        refine n_icmp_ge (tgt := 147) hx hb w (k 0) rfl rfl (by omega) (by omega) dX7_border_87 (by decide) (fun h87 => ?_) (fun h87 => ?_)
                        · skip
                          refine o_iload hx hb dX7_border_147 hl rfl ?_
                          exact R_I hC hS hr hlk rfl (Or.inl ⟨(by simp only [cd_border, za3]; exact (cif_t (ix_nI ha3)).trans (cif_t ⟨h19.1, h30.1, h30.2⟩)), (by rw [za3, show k 0 = w by omega]), (by rw [za3, show k 0 = w by omega]; exact hG)⟩) (Nat.le_of_ble_eq_true rfl) (Nat.le_of_ble_eq_true rfl) dX7_border_149
                        · skip
                          refine o_aload_n hx hb dX7_border_90 hl rfl ?_
                          refine g_get hC hG us_X7 rfl 6 (by decide) fl_X7_32 V_model rfl dX7_border_91 ?_
                          refine o_iload hx hb dX7_border_94 hl rfl ?_
                          refine g_iald hC hG V_m6 _ rfl (by omega) (by omega) dX7_border_96 ?_
                          refine o_iload_n hx hb dX7_border_97 hl rfl ?_
                          refine lv_icmp_ne (tgt := 141) hx hb dX7_border_98 (by decide) (fun h98 => ?_) (fun h98 => ?_)
                          · skip
                            refine o_iinc1 hx hb dX7_border_141 hl rfl (by decide) rfl (fun ls hl => ?_)
                            refine lv_goto (tgt := 81) hx hb dX7_border_144 (by decide) ?_
                            first
                            | (have hwn : ¬ T 8 w 0 = 0 := (hK8 w (by omega) (by rw [← t10, h98]; exact nI_ne_m1 (by omega))).1
                               have hP : boP (boS (drS T a3 y z) (k 3) a3 w) a3 w := ⟨h98, fun z => h110 ((hcg0 hwn).mpr z)⟩
                               exact ih81 (w + 1) (by omega) H locs (by rw [boS_t hP, ← Vw_mod (bo_joint h98 (by omega))]; exact hG) hS ls (by rw [boN_t hP]; exact hl))
                            | (have hP : ¬ boP (boS (drS T a3 y z) (k 3) a3 w) a3 w := by first | exact fun z => h98 z.1 | (have hwn : ¬ T 8 w 0 = 0 := (hK8 w (by omega) (by rw [← t10, h98]; exact nI_ne_m1 (by omega))).1; exact fun z => z.2 ((hcg0 hwn).mp h110))
                               exact ih81 (w + 1) (by omega) H locs (by rw [boS_f hP]; exact hG) hS ls (by rw [boN_f hP]; exact hl))
                          · skip
                            refine o_aload_n hx hb dX7_border_101 hl rfl ?_
                            refine o_iload_n hx hb dX7_border_102 hl rfl ?_
                            refine o_aload_n hx hb dX7_border_103 hl rfl ?_
                            refine g_get hC hG us_X7 rfl 3 (by decide) fl_X7_21 V_model rfl dX7_border_104 ?_
                            refine o_iload hx hb dX7_border_107 hl rfl ?_
                            refine g_aald hC hG 7 rfl rfl V_o3 _ rfl (by omega) (by omega) dX7_border_109 ?_
                            refine k_X7_isWithin hC hS hG ⟨by omega, hMB, by omega, hKw, Or.inr ⟨rfl, rfl⟩⟩ ml_X7_111 ⟨Nat.le_of_ble_eq_true rfl, Nat.le_of_ble_eq_true rfl⟩ hl.1 (Nat.le_of_ble_eq_true rfl) dX7_border_110 ⟨Nat.le_of_ble_eq_true rfl, Nat.le_of_ble_eq_true rfl⟩ (fun h110 => ?_) (fun h110 => ?_)
                            · skip
                              refine lv_if_ne (tgt := 141) hx hb dX7_border_113 (by decide) (fun h113 => ?_) (fun h113 => ?_)
                              · skip
                                refine o_iinc1 hx hb dX7_border_141 hl rfl (by decide) rfl (fun ls hl => ?_)
                                refine lv_goto (tgt := 81) hx hb dX7_border_144 (by decide) ?_
                                first
                                | (have hwn : ¬ T 8 w 0 = 0 := (hK8 w (by omega) (by rw [← t10, h98]; exact nI_ne_m1 (by omega))).1
                                   have hP : boP (boS (drS T a3 y z) (k 3) a3 w) a3 w := ⟨h98, fun z => h110 ((hcg0 hwn).mpr z)⟩
                                   exact ih81 (w + 1) (by omega) H locs (by rw [boS_t hP, ← Vw_mod (bo_joint h98 (by omega))]; exact hG) hS ls (by rw [boN_t hP]; exact hl))
                                | (have hP : ¬ boP (boS (drS T a3 y z) (k 3) a3 w) a3 w := by first | exact fun z => h98 z.1 | (have hwn : ¬ T 8 w 0 = 0 := (hK8 w (by omega) (by rw [← t10, h98]; exact nI_ne_m1 (by omega))).1; exact fun z => z.2 ((hcg0 hwn).mp h110))
                                   exact ih81 (w + 1) (by omega) H locs (by rw [boS_f hP]; exact hG) hS ls (by rw [boN_f hP]; exact hl))
                              · exact absurd h113 (by decide)
                            · skip
                              refine lv_if_ne (tgt := 141) hx hb dX7_border_113 (by decide) (fun h113 => ?_) (fun h113 => ?_)
                              · exact absurd h113 (by decide)
                              · skip
                                refine o_aload_n hx hb dX7_border_116 hl rfl ?_
                                refine g_get hC hG us_X7 rfl 5 (by decide) fl_X7_28 V_model rfl dX7_border_117 ?_
                                refine o_iload hx hb dX7_border_120 hl rfl ?_
                                refine lv_bipush (v := 114) hx hb dX7_border_122 (by decide) ?_
                                refine g_cast hC hG hS V_m5 _ rfl (by omega) (by omega) rfl P_m5 dX7_border_124 (fun H locs hG hS => ?_)
                                refine o_aload_n hx hb dX7_border_125 hl rfl ?_
                                refine g_get hC hG us_X7 rfl 7 (by decide) fl_X7_35 V_model rfl dX7_border_126 ?_
                                refine o_iload hx hb dX7_border_129 hl rfl ?_
                                refine o_aload_n hx hb dX7_border_131 hl rfl ?_
                                refine g_get hC hG us_X7 rfl 24 (by decide) fl_X7_126 V_model rfl dX7_border_132 ?_
                                refine lv_iconst (v := 2) hx hb dX7_border_135 (by decide) ?_
                                refine lv_iadd hx hb dX7_border_136 ?_
                                refine g_iast hC hG hS V_m7 _ rfl (by omega) (by omega) P_m7 dX7_border_137 (fun H locs hG hS => ?_)
                                refine o_iinc hx hb dX7_border_138 hl rfl (show _ + 1 = _ from rfl) (by decide) rfl (fun ls hl => ?_)
                                refine o_iinc1 hx hb dX7_border_141 hl rfl (by decide) rfl (fun ls hl => ?_)
                                refine lv_goto (tgt := 81) hx hb dX7_border_144 (by decide) ?_
                                first
                                | (have hwn : ¬ T 8 w 0 = 0 := (hK8 w (by omega) (by rw [← t10, h98]; exact nI_ne_m1 (by omega))).1
                                   have hP : boP (boS (drS T a3 y z) (k 3) a3 w) a3 w := ⟨h98, fun z => h110 ((hcg0 hwn).mpr z)⟩
                                   exact ih81 (w + 1) (by omega) H locs (by rw [boS_t hP, ← Vw_mod (bo_joint h98 (by omega))]; exact hG) hS ls (by rw [boN_t hP]; exact hl))
                                | (have hP : ¬ boP (boS (drS T a3 y z) (k 3) a3 w) a3 w := by first | exact fun z => h98 z.1 | (have hwn : ¬ T 8 w 0 = 0 := (hK8 w (by omega) (by rw [← t10, h98]; exact nI_ne_m1 (by omega))).1; exact fun z => z.2 ((hcg0 hwn).mp h110))
                                   exact ih81 (w + 1) (by omega) H locs (by rw [boS_f hP]; exact hG) hS ls (by rw [boN_f hP]; exact hl))
                    exact loop81 (k 0 + 1) 0 (by omega) H locs hG hS ls hl
                  · exact absurd h45 (by decide)
              · exact absurd h33 (by decide)
            · skip
              refine lv_if_ne (tgt := 40) hx hb dX7_border_33 (by decide) (fun h33 => ?_) (fun h33 => ?_)
              · exact absurd h33 (by decide)
              · skip
                refine lv_iconst (v := 1) hx hb dX7_border_36 (by decide) ?_
                refine lv_goto (tgt := 41) hx hb dX7_border_37 (by decide) ?_
                refine lv_iconst (v := 2) hx hb dX7_border_41 (by decide) ?_
                refine k_X7_isThrown hC hS hG (by first | exact Or.inl rfl | exact Or.inr rfl) ml_X7_94 ⟨Nat.le_of_ble_eq_true rfl, Nat.le_of_ble_eq_true rfl⟩ hl.1 (Nat.le_of_ble_eq_true rfl) dX7_border_42 ⟨Nat.le_of_ble_eq_true rfl, Nat.le_of_ble_eq_true rfl⟩ (fun h42_0 H locs hG hS => ?_) (fun h42_0 H locs hG hS => ?_)
                · skip
                  refine lv_if_eq (tgt := 50) hx hb dX7_border_45 (by decide) (fun h45 => ?_) (fun h45 => ?_)
                  · exact absurd h45 (by decide)
                  · skip
                    refine lv_iconst (v := 0) hx hb dX7_border_48 (by decide) ?_
                    exact R_I hC hS hr hlk rfl (by first | exact Or.inr ⟨1, (by simp only [cd_border]; exact cif_f h3), (by decide), hG⟩ | exact Or.inr ⟨2, (by simp only [cd_border]; exact (cif_t (ix_nI ha3)).trans (cif_f (fun v => by first | exact h19 ⟨v.1, Int32.le_trans v.2.1 v.2.2⟩ | exact h30 ⟨v.2.1, v.2.2⟩))), (by decide), hG⟩) (Nat.le_of_ble_eq_true rfl) (Nat.le_of_ble_eq_true rfl) dX7_border_49
                · skip
                  exact absurd h42_0 (by decide)
        · skip
          refine lv_if_eq (tgt := 36) hx hb dX7_border_22 (by decide) (fun h22 => ?_) (fun h22 => ?_)
          · skip
            refine lv_iconst (v := 1) hx hb dX7_border_36 (by decide) ?_
            refine lv_goto (tgt := 41) hx hb dX7_border_37 (by decide) ?_
            refine lv_iconst (v := 2) hx hb dX7_border_41 (by decide) ?_
            refine k_X7_isThrown hC hS hG (by first | exact Or.inl rfl | exact Or.inr rfl) ml_X7_94 ⟨Nat.le_of_ble_eq_true rfl, Nat.le_of_ble_eq_true rfl⟩ hl.1 (Nat.le_of_ble_eq_true rfl) dX7_border_42 ⟨Nat.le_of_ble_eq_true rfl, Nat.le_of_ble_eq_true rfl⟩ (fun h42_0 H locs hG hS => ?_) (fun h42_0 H locs hG hS => ?_)
            · skip
              refine lv_if_eq (tgt := 50) hx hb dX7_border_45 (by decide) (fun h45 => ?_) (fun h45 => ?_)
              · exact absurd h45 (by decide)
              · skip
                refine lv_iconst (v := 0) hx hb dX7_border_48 (by decide) ?_
                exact R_I hC hS hr hlk rfl (by first | exact Or.inr ⟨1, (by simp only [cd_border]; exact cif_f h3), (by decide), hG⟩ | exact Or.inr ⟨2, (by simp only [cd_border]; exact (cif_t (ix_nI ha3)).trans (cif_f (fun v => by first | exact h19 ⟨v.1, Int32.le_trans v.2.1 v.2.2⟩ | exact h30 ⟨v.2.1, v.2.2⟩))), (by decide), hG⟩) (Nat.le_of_ble_eq_true rfl) (Nat.le_of_ble_eq_true rfl) dX7_border_49
            · skip
              exact absurd h42_0 (by decide)
          · exact absurd h22 (by decide)
theorem k_X7_border {p : Program} {l : Launch} {e : Env} {R : Room} {s : State} {m : MethodId} {args : Array Value} {below : List Frame} {meth : Method} {c : Code} {H : Heap} {locs : List Loc} {cells slots : Nat} {Q : State → Prop} {cc : ByteArray} {pc nL : Nat} {ls : Array Slot} {rest : List Value} {own : String} {D : va_G} {cy : Nat → ClassId} {sa : Nat → Nat} {de B : Nat} {ad : Ad} {S : St} {n : Nat → Nat} {T : St} {k : Nat → Nat} {th : Int32} {X : Rl} {x y z : Int32}  (hC : Cx p m c cc nL s args own D cy sa de B) (hS : va_S (AB B) s.heap H locs) (hG : GW D B ad (Vw cy de ad S n T k th X) H) (h0 : Inv T k)  {idx : Nat} (wl : Cond.methodLink own idx yX7_border ∈ G0) (hR : 2 + 1 ≤ R.frames ∧ 8 + (6 + 11) + 49 ≤ R.locals) (hsz : ls.size = nL) (hst : (rest.map fun v => v.category).sum ≤ 8) (hdg : decode cc pc = .ok (.invokevirtual idx, 3)) (hcs : cells + 0 ≤ R.cells ∧ slots + 0 ≤ R.slots) (k0 : (cd_border k x y z = 0) → ∀ (H1 : Heap) (locs1 : List Loc), GW D B ad (Vw cy de ad S n (boS (drS T (ci x) y z) (k 3) (ci x) (k 0)) (k) 0 X) H1 → va_S (AB B) s.heap H1 locs1 → W p l e R s m args below meth c H1 locs1 cells slots Q (F0 m (pc + 3) ls (.int (boN (drS T (ci x) y z) (k 3) (ci x) (k 0)) :: rest))) (k1 : ∀ (r9 : Int32), ∀ (t9 : Nat), (cd_border k x y z = t9) → (¬ t9 = 0) → ∀ (H1 : Heap) (locs1 : List Loc), GW D B ad (Vw cy de ad S n T k (nI t9) X) H1 → va_S (AB B) s.heap H1 locs1 → W p l e R s m args below meth c H1 locs1 cells slots Q (F0 m (pc + 3) ls (.int r9 :: rest))) : W p l e R s m args below meth c H locs cells slots Q (F0 m pc ls (.int z :: .int y :: .int x :: .ref (ad 13 0 0) :: rest)) :=
  va_calli (rV hC hS hG h0 (As := [.int x, .int y, .int z]) (c_X7_border l) ⟨rfl, rfl⟩ wl im_X7_border sl_X7_X7_border in_X7 cd_X7_border (n := 3) (by decide +kernel) hR (recv hC hG (q := (RX7, TX7, 26)) rfl V_model) rfl hsz hst rfl hdg hcs) hS (fun _ _ h => h) (fun _ h => h) (fun r u t H1 locs1 ht _ hr hB _ _ hS1 => by
      subst hr
      have hB9 := hB; try dsimp only at hB9
      rw [ht] at hB9
      rcases hB9 with ⟨q0, rfl, hG1⟩ | ⟨t9, q0, q1, hG1⟩
      · exact k0 q0 _ _ hG1 hS1
      · exact k1 r t9 q0 q1 _ _ hG1 hS1)
set_option maxHeartbeats 4000000 in
set_option maxRecDepth 100000 in
theorem c_X7_next (l : Launch) {D : va_G} {cy : Nat → ClassId} {sa : Nat → Nat} {de B : Nat} {ad : Ad} {S : St} {n : Nat → Nat} {T : St} {k : Nat → Nat} {th : Int32} {X : Rl}   : Met l yX7_next (Cond.code yX7_next cX7_next 3 (Option.some Jvm.ClassFile.FieldType.int) :: G0) ({ frames := 3, cells := 0, slots := 0, locals := 72 } : Room) (va_Pc [.ref (ad 13 0 0)] (PW D cy sa de B ad (Vw cy de ad S n T k th X) (Inv T k))) (oI B (fun r H => (cd_next T = 0 ∧ r = (nxtS T k 23 0 0) ∧ GW D B ad (Vw cy de ad S n (nxtS T k) (k) 0 X) H) ∨ (∃ (t9 : Nat), cd_next T = t9 ∧ ¬ t9 = 0 ∧ GW D B ad (Vw cy de ad S n T k (nI t9) X) H))) 0 0 (AB B) := by
  refine E_met (own := RX7) rfl rfl (Nat.le_of_ble_eq_true rfl) ?_
  intro p e s m below meth c hC hr hlk hnm hG h0 ls hl
  have hx := hC.x
  have hb := hC.b
  have hS : va_S (AB B) s.heap s.heap [] := va_S.rf
  have hl : lo ls 3 [some (.ref (ad 13 0 0)), none, none] := lo_of hl
  have hI := h0
  obtain ⟨hCI, hD0, hD1, hD2, hB01, hF30, hK8, hMK, hU1, hU2, hS10, hEO, hCF, hFT, hME, hYR, hEK, hLA⟩ := h0
  obtain ⟨hW, hNE, hCH, hBL⟩ := hCI
  have hW9 := hW
  obtain ⟨hB0, hB1, hB2, hB3, hB4, hB5, hB6, hB7, hKI, hEI, hKY⟩ := hW9
  have hMB : MB k := ⟨hB0, hB1, hB2, hB3⟩
  have hKYm : KYm T k := hKY
  refine o_aload_n hx hb dX7_next_0 hl rfl ?_
  refine o_aload_n hx hb dX7_next_1 hl rfl ?_
  refine g_get hC hG us_X7 rfl 24 (by decide) fl_X7_126 V_model rfl dX7_next_2 ?_
  refine lv_bipush (v := 40) hx hb dX7_next_5 (by decide) ?_
  refine lv_icmp_ne (tgt := 14) hx hb dX7_next_7 (by decide) (fun h7 => ?_) (fun h7 => ?_)
  · skip
    refine lv_iconst (v := 0) hx hb dX7_next_14 (by decide) ?_
    refine lv_iconst (v := 1) hx hb dX7_next_15 (by decide) ?_
    refine k_X7_isThrown hC hS hG (by first | exact Or.inl rfl | exact Or.inr rfl) ml_X7_94 ⟨Nat.le_of_ble_eq_true rfl, Nat.le_of_ble_eq_true rfl⟩ hl.1 (Nat.le_of_ble_eq_true rfl) dX7_next_16 ⟨Nat.le_of_ble_eq_true rfl, Nat.le_of_ble_eq_true rfl⟩ (fun h16_0 H locs hG hS => ?_) (fun h16_0 H locs hG hS => ?_)
    · skip
      exact absurd h16_0 (by decide)
    · skip
      refine lv_if_eq (tgt := 24) hx hb dX7_next_19 (by decide) (fun h19 => ?_) (fun h19 => ?_)
      · skip
        refine o_aload_n hx hb dX7_next_24 hl rfl ?_
        refine lv_dup hx hb dX7_next_25 rfl ?_
        refine g_get hC hG us_X7 rfl 24 (by decide) fl_X7_126 V_model rfl dX7_next_26 ?_
        refine lv_iconst (v := 1) hx hb dX7_next_29 (by decide) ?_
        refine lv_iadd hx hb dX7_next_30 ?_
        refine g_put hC hG hS us_X7 tyX7_ok nmX7 rfl 24 (by decide) fl_X7_126 rfl V_model rfl rfl (Nat.le_of_ble_eq_true rfl) P_myear dX7_next_31 (fun H locs hG hS => ?_)
        refine lv_iconst (v := 0) hx hb dX7_next_34 (by decide) ?_
        refine o_istore_n hx hb dX7_next_35 hl (by decide) rfl (fun ls hl => ?_)
        have loop36 : ∀ (q9 : Nat) (w : Nat), w ≤ k 0 ∧ k 0 < w + q9 → ∀ (H : Heap) (locs : List Loc), GW D B ad (Vw cy de ad S n (neS (up3 T 23 0 0 (T 23 0 0 + 1)) k w) k 0 X) H → va_S (AB B) s.heap H locs → ∀ ls : Array Slot, lo ls 3 [some (.ref (ad 13 0 0)), some (.int (nI w)), none] → W p l e ({ frames := 3, cells := 0, slots := 0, locals := 72 } : Room) s m [.ref (ad 13 0 0)].toArray below meth c H locs 0 0 (MQ below (oI B (fun r H => (cd_next T = 0 ∧ r = (nxtS T k 23 0 0) ∧ GW D B ad (Vw cy de ad S n (nxtS T k) (k) 0 X) H) ∨ (∃ (t9 : Nat), cd_next T = t9 ∧ ¬ t9 = 0 ∧ GW D B ad (Vw cy de ad S n T k (nI t9) X) H))) [.ref (ad 13 0 0)].toArray s 0 0 (AB B)) (F0 m 36 ls []) := by
          intro q9
          induction q9 with
          | zero => intro w hq9; exact absurd hq9 (by omega)
          | succ q9 ih36 =>
            intro w hq9  H locs hG hS ls hl
            have o1 : ∀ x, x ≠ 21 → x ≠ 22 → x ≠ 23 → ∀ v, neS (up3 T 23 0 0 (T 23 0 0 + 1)) k w x w v = T x w v := fun x h1 h2 h3 v => by rw [neS_o w (Nat.le_refl w) h1 h2, up3_c h3]
            have t23 : neS (up3 T 23 0 0 (T 23 0 0 + 1)) k w 23 0 0 = T 23 0 0 + 1 := by rw [neS_c w (x := 23) (by decide) (by decide) (by decide) (by decide) (by decide) (by decide) (by decide), up3_self]
            have t31 := o1 31 (by decide) (by decide) (by decide) 0
            have t2 := o1 2 (by decide) (by decide) (by decide) 0
            have t9 := o1 9 (by decide) (by decide) (by decide) 0
            have t11 := o1 11 (by decide) (by decide) (by decide) 0
            have hwt : waitP (neS (up3 T 23 0 0 (T 23 0 0 + 1)) k w) w ↔ waitP T w := by unfold waitP; rw [t9]
            have hKw : KYm (neS (up3 T 23 0 0 (T 23 0 0 + 1)) k w) k := fun q hq => by
              rw [neS_c w (x := 13) (by decide) (by decide) (by decide) (by decide) (by decide) (by decide) (by decide)]
              exact hKY q hq
            have hB11 : neS (up3 T 23 0 0 (T 23 0 0 + 1)) k w 11 w 0 = 0 ∨ neS (up3 T 23 0 0 (T 23 0 0 + 1)) k w 11 w 0 = 1 := by rw [t11]; exact (hB01 w).2.1
            refine o_iload_n hx hb dX7_next_36 hl rfl ?_
            refine o_aload_n hx hb dX7_next_37 hl rfl ?_
            refine g_get hC hG us_X7 rfl 20 (by decide) fl_X7_80 V_model rfl dX7_next_38 ?_
            refine n_icmp_ge (tgt := 114) hx hb w (k 0) rfl rfl (by omega) (by omega) dX7_next_41 (by decide) (fun h41 => ?_) (fun h41 => ?_)
            · skip
              refine o_aload_n hx hb dX7_next_114 hl rfl ?_
              refine g_get hC hG us_X7 rfl 24 (by decide) fl_X7_126 V_model rfl dX7_next_115 ?_
              exact R_I hC hS hr hlk rfl (Or.inl ⟨(by simp only [cd_next]; exact cif_t (year_lt hYR h7)), (by unfold nxtS; rw [show k 0 = w by omega]), (by unfold nxtS; rw [show k 0 = w by omega]; exact hG)⟩) (Nat.le_of_ble_eq_true rfl) (Nat.le_of_ble_eq_true rfl) dX7_next_118
            · skip
              refine o_aload_n hx hb dX7_next_44 hl rfl ?_
              refine g_get hC hG us_X7 rfl 7 (by decide) fl_X7_35 V_model rfl dX7_next_45 ?_
              refine o_iload_n hx hb dX7_next_48 hl rfl ?_
              refine g_iald hC hG V_m7 _ rfl (by omega) (by omega) dX7_next_49 ?_
              refine o_aload_n hx hb dX7_next_50 hl rfl ?_
              refine g_get hC hG us_X7 rfl 24 (by decide) fl_X7_126 V_model rfl dX7_next_51 ?_
              refine lv_icmp_ne (tgt := 108) hx hb dX7_next_54 (by decide) (fun h54 => ?_) (fun h54 => ?_)
              · skip
                refine o_iinc1 hx hb dX7_next_108 hl rfl (by decide) rfl (fun ls hl => ?_)
                refine lv_goto (tgt := 36) hx hb dX7_next_111 (by decide) ?_
                first
                | (have hP : ¬ neP (neS (up3 T 23 0 0 (T 23 0 0 + 1)) k w) w := fun z => h54 (by
                     rw [t31, t23]
                     have z1 := z.2
                     rw [t2, t23] at z1
                     rw [← z1]
                     exact ((hU1 w (by omega) (hwt.mp z.1)).1).symm)
                   exact ih36 (w + 1) (by omega) H locs (by rw [neS_f hP]; exact hG) hS ls (lo_none (i := 2) hl))
                | (have h31 : T 31 w 0 = T 23 0 0 + 1 := t31.symm.trans (h54.trans t23)
                   have hwa : waitP T w := Classical.byContradiction (fun z => year_ne hYR (h31.symm.trans (hU2 w (by omega) z)))
                   have hP : neP (neS (up3 T 23 0 0 (T 23 0 0 + 1)) k w) w := ⟨hwt.mpr hwa, by rw [t2, t23, (hU1 w (by omega) hwa).1]; exact h31⟩
                   first
                   | exact ih36 (w + 1) (by omega) H locs (by rw [neS_t hP, ← Vw_mod (ew_ban (k := k) hB11 h65)]; exact hG) hS ls (lo_none (i := 2) hl)
                   | (have hr : T 9 w 0 = 114 := hwa.elim (fun z => absurd (t9.trans z) h65) id
                      have h8n := (hK8 w (by omega) (hMK w (by omega) (Or.inr (Or.inr hr)))).1
                      exact ih36 (w + 1) (by omega) H locs (by rw [neS_t hP, ← Vw_mod (ew_review (k := k) hKw hB11 h65 (fun v hv => by rw [o1 1 (by decide) (by decide) (by decide), o1 30 (by decide) (by decide) (by decide)]; exact hF30 w (by omega) h8n v hv))]; exact hG) hS ls (lo_none (i := 2) hl)))
              · skip
                refine o_aload_n hx hb dX7_next_57 hl rfl ?_
                refine g_get hC hG us_X7 rfl 5 (by decide) fl_X7_28 V_model rfl dX7_next_58 ?_
                refine o_iload_n hx hb dX7_next_61 hl rfl ?_
                refine g_cald hC hG V_m5 _ rfl (by omega) (by omega) dX7_next_62 ?_
                refine lv_bipush (v := 120) hx hb dX7_next_63 (by decide) ?_
                refine lv_icmp_ne (tgt := 72) hx hb dX7_next_65 (by decide) (fun h65 => ?_) (fun h65 => ?_)
                · skip
                  refine lv_iconst (v := 0) hx hb dX7_next_72 (by decide) ?_
                  refine o_istore_n hx hb dX7_next_73 hl (by decide) rfl (fun ls hl => ?_)
                  refine o_aload_n hx hb dX7_next_74 hl rfl ?_
                  refine o_iload_n hx hb dX7_next_75 hl rfl ?_
                  refine o_iload_n hx hb dX7_next_76 hl rfl ?_
                  refine lv_if_eq (tgt := 84) hx hb dX7_next_77 (by decide) (fun h77 => ?_) (fun h77 => ?_)
                  · skip
                    refine o_aload_n hx hb dX7_next_84 hl rfl ?_
                    refine o_aload_n hx hb dX7_next_85 hl rfl ?_
                    refine g_get hC hG us_X7 rfl 3 (by decide) fl_X7_21 V_model rfl dX7_next_86 ?_
                    refine o_iload_n hx hb dX7_next_89 hl rfl ?_
                    refine g_aald hC hG 7 rfl rfl V_o3 _ rfl (by omega) (by omega) dX7_next_90 ?_
                    refine k_X7_classBy hC hS hG ⟨hMB, by omega, hKw, Or.inr ⟨rfl, rfl⟩⟩ ml_X7_115 ⟨Nat.le_of_ble_eq_true rfl, Nat.le_of_ble_eq_true rfl⟩ hl.1 (Nat.le_of_ble_eq_true rfl) dX7_next_91 ⟨Nat.le_of_ble_eq_true rfl, Nat.le_of_ble_eq_true rfl⟩ ?_
                    refine o_iload_n hx hb dX7_next_94 hl rfl ?_
                    refine lv_if_eq (tgt := 103) hx hb dX7_next_95 (by decide) (fun h95 => ?_) (fun h95 => ?_)
                    · skip
                      refine lv_bipush (v := 99) hx hb dX7_next_103 (by decide) ?_
                      refine k_X7_becomes hC hS hG ⟨by omega, hMB, by exact ⟨rfl, rfl⟩, hB11⟩ ml_X7_122 ⟨Nat.le_of_ble_eq_true rfl, Nat.le_of_ble_eq_true rfl⟩ hl.1 (Nat.le_of_ble_eq_true rfl) dX7_next_105 ⟨Nat.le_of_ble_eq_true rfl, Nat.le_of_ble_eq_true rfl⟩ (fun H locs hG hS => ?_)
                      refine o_iinc1 hx hb dX7_next_108 hl rfl (by decide) rfl (fun ls hl => ?_)
                      refine lv_goto (tgt := 36) hx hb dX7_next_111 (by decide) ?_
                      first
                      | (have hP : ¬ neP (neS (up3 T 23 0 0 (T 23 0 0 + 1)) k w) w := fun z => h54 (by
                           rw [t31, t23]
                           have z1 := z.2
                           rw [t2, t23] at z1
                           rw [← z1]
                           exact ((hU1 w (by omega) (hwt.mp z.1)).1).symm)
                         exact ih36 (w + 1) (by omega) H locs (by rw [neS_f hP]; exact hG) hS ls (lo_none (i := 2) hl))
                      | (have h31 : T 31 w 0 = T 23 0 0 + 1 := t31.symm.trans (h54.trans t23)
                         have hwa : waitP T w := Classical.byContradiction (fun z => year_ne hYR (h31.symm.trans (hU2 w (by omega) z)))
                         have hP : neP (neS (up3 T 23 0 0 (T 23 0 0 + 1)) k w) w := ⟨hwt.mpr hwa, by rw [t2, t23, (hU1 w (by omega) hwa).1]; exact h31⟩
                         first
                         | exact ih36 (w + 1) (by omega) H locs (by rw [neS_t hP, ← Vw_mod (ew_ban (k := k) hB11 h65)]; exact hG) hS ls (lo_none (i := 2) hl)
                         | (have hr : T 9 w 0 = 114 := hwa.elim (fun z => absurd (t9.trans z) h65) id
                            have h8n := (hK8 w (by omega) (hMK w (by omega) (Or.inr (Or.inr hr)))).1
                            exact ih36 (w + 1) (by omega) H locs (by rw [neS_t hP, ← Vw_mod (ew_review (k := k) hKw hB11 h65 (fun v hv => by rw [o1 1 (by decide) (by decide) (by decide), o1 30 (by decide) (by decide) (by decide)]; exact hF30 w (by omega) h8n v hv))]; exact hG) hS ls (lo_none (i := 2) hl)))
                    · exact absurd h95 (by decide)
                  · exact absurd h77 (by decide)
                · skip
                  refine lv_iconst (v := 1) hx hb dX7_next_68 (by decide) ?_
                  refine lv_goto (tgt := 73) hx hb dX7_next_69 (by decide) ?_
                  refine o_istore_n hx hb dX7_next_73 hl (by decide) rfl (fun ls hl => ?_)
                  refine o_aload_n hx hb dX7_next_74 hl rfl ?_
                  refine o_iload_n hx hb dX7_next_75 hl rfl ?_
                  refine o_iload_n hx hb dX7_next_76 hl rfl ?_
                  refine lv_if_eq (tgt := 84) hx hb dX7_next_77 (by decide) (fun h77 => ?_) (fun h77 => ?_)
                  · exact absurd h77 (by decide)
                  · skip
                    refine lv_iconst (v := (-1)) hx hb dX7_next_80 (by decide) ?_
                    refine lv_goto (tgt := 94) hx hb dX7_next_81 (by decide) ?_
                    refine o_iload_n hx hb dX7_next_94 hl rfl ?_
                    refine lv_if_eq (tgt := 103) hx hb dX7_next_95 (by decide) (fun h95 => ?_) (fun h95 => ?_)
                    · exact absurd h95 (by decide)
                    · skip
                      refine lv_bipush (v := 45) hx hb dX7_next_98 (by decide) ?_
                      refine lv_goto (tgt := 105) hx hb dX7_next_100 (by decide) ?_
                      refine k_X7_becomes hC hS hG ⟨by omega, hMB, by exact ⟨rfl, rfl⟩, hB11⟩ ml_X7_122 ⟨Nat.le_of_ble_eq_true rfl, Nat.le_of_ble_eq_true rfl⟩ hl.1 (Nat.le_of_ble_eq_true rfl) dX7_next_105 ⟨Nat.le_of_ble_eq_true rfl, Nat.le_of_ble_eq_true rfl⟩ (fun H locs hG hS => ?_)
                      refine o_iinc1 hx hb dX7_next_108 hl rfl (by decide) rfl (fun ls hl => ?_)
                      refine lv_goto (tgt := 36) hx hb dX7_next_111 (by decide) ?_
                      first
                      | (have hP : ¬ neP (neS (up3 T 23 0 0 (T 23 0 0 + 1)) k w) w := fun z => h54 (by
                           rw [t31, t23]
                           have z1 := z.2
                           rw [t2, t23] at z1
                           rw [← z1]
                           exact ((hU1 w (by omega) (hwt.mp z.1)).1).symm)
                         exact ih36 (w + 1) (by omega) H locs (by rw [neS_f hP]; exact hG) hS ls (lo_none (i := 2) hl))
                      | (have h31 : T 31 w 0 = T 23 0 0 + 1 := t31.symm.trans (h54.trans t23)
                         have hwa : waitP T w := Classical.byContradiction (fun z => year_ne hYR (h31.symm.trans (hU2 w (by omega) z)))
                         have hP : neP (neS (up3 T 23 0 0 (T 23 0 0 + 1)) k w) w := ⟨hwt.mpr hwa, by rw [t2, t23, (hU1 w (by omega) hwa).1]; exact h31⟩
                         first
                         | exact ih36 (w + 1) (by omega) H locs (by rw [neS_t hP, ← Vw_mod (ew_ban (k := k) hB11 h65)]; exact hG) hS ls (lo_none (i := 2) hl)
                         | (have hr : T 9 w 0 = 114 := hwa.elim (fun z => absurd (t9.trans z) h65) id
                            have h8n := (hK8 w (by omega) (hMK w (by omega) (Or.inr (Or.inr hr)))).1
                            exact ih36 (w + 1) (by omega) H locs (by rw [neS_t hP, ← Vw_mod (ew_review (k := k) hKw hB11 h65 (fun v hv => by rw [o1 1 (by decide) (by decide) (by decide), o1 30 (by decide) (by decide) (by decide)]; exact hF30 w (by omega) h8n v hv))]; exact hG) hS ls (lo_none (i := 2) hl)))
        exact loop36 (k 0 + 1) 0 (by omega) H locs hG hS ls hl
      · exact absurd h19 (by decide)
  · skip
    refine lv_iconst (v := 1) hx hb dX7_next_10 (by decide) ?_
    refine lv_goto (tgt := 15) hx hb dX7_next_11 (by decide) ?_
    refine lv_iconst (v := 1) hx hb dX7_next_15 (by decide) ?_
    refine k_X7_isThrown hC hS hG (by first | exact Or.inl rfl | exact Or.inr rfl) ml_X7_94 ⟨Nat.le_of_ble_eq_true rfl, Nat.le_of_ble_eq_true rfl⟩ hl.1 (Nat.le_of_ble_eq_true rfl) dX7_next_16 ⟨Nat.le_of_ble_eq_true rfl, Nat.le_of_ble_eq_true rfl⟩ (fun h16_0 H locs hG hS => ?_) (fun h16_0 H locs hG hS => ?_)
    · skip
      refine lv_if_eq (tgt := 24) hx hb dX7_next_19 (by decide) (fun h19 => ?_) (fun h19 => ?_)
      · exact absurd h19 (by decide)
      · skip
        refine lv_iconst (v := 0) hx hb dX7_next_22 (by decide) ?_
        exact R_I hC hS hr hlk rfl (Or.inr ⟨1, (by simp only [cd_next]; exact cif_f (fun z => by rw [h7] at z; exact absurd z (by decide))), (by decide), hG⟩) (Nat.le_of_ble_eq_true rfl) (Nat.le_of_ble_eq_true rfl) dX7_next_23
    · skip
      exact absurd h16_0 (by decide)
theorem k_X7_next {p : Program} {l : Launch} {e : Env} {R : Room} {s : State} {m : MethodId} {args : Array Value} {below : List Frame} {meth : Method} {c : Code} {H : Heap} {locs : List Loc} {cells slots : Nat} {Q : State → Prop} {cc : ByteArray} {pc nL : Nat} {ls : Array Slot} {rest : List Value} {own : String} {D : va_G} {cy : Nat → ClassId} {sa : Nat → Nat} {de B : Nat} {ad : Ad} {S : St} {n : Nat → Nat} {T : St} {k : Nat → Nat} {th : Int32} {X : Rl}   (hC : Cx p m c cc nL s args own D cy sa de B) (hS : va_S (AB B) s.heap H locs) (hG : GW D B ad (Vw cy de ad S n T k th X) H) (h0 : Inv T k)  {idx : Nat} (wl : Cond.methodLink own idx yX7_next ∈ G0) (hR : 3 + 1 ≤ R.frames ∧ 8 + (3 + 11) + 72 ≤ R.locals) (hsz : ls.size = nL) (hst : (rest.map fun v => v.category).sum ≤ 8) (hdg : decode cc pc = .ok (.invokevirtual idx, 3)) (hcs : cells + 0 ≤ R.cells ∧ slots + 0 ≤ R.slots) (k0 : (cd_next T = 0) → ∀ (H1 : Heap) (locs1 : List Loc), GW D B ad (Vw cy de ad S n (nxtS T k) (k) 0 X) H1 → va_S (AB B) s.heap H1 locs1 → W p l e R s m args below meth c H1 locs1 cells slots Q (F0 m (pc + 3) ls (.int (nxtS T k 23 0 0) :: rest))) (k1 : ∀ (r9 : Int32), ∀ (t9 : Nat), (cd_next T = t9) → (¬ t9 = 0) → ∀ (H1 : Heap) (locs1 : List Loc), GW D B ad (Vw cy de ad S n T k (nI t9) X) H1 → va_S (AB B) s.heap H1 locs1 → W p l e R s m args below meth c H1 locs1 cells slots Q (F0 m (pc + 3) ls (.int r9 :: rest))) : W p l e R s m args below meth c H locs cells slots Q (F0 m pc ls (.ref (ad 13 0 0) :: rest)) :=
  va_calli (rV hC hS hG h0 (As := []) (c_X7_next l) ⟨rfl, rfl⟩ wl im_X7_next sl_X7_X7_next in_X7 cd_X7_next (n := 0) (by decide +kernel) hR (recv hC hG (q := (RX7, TX7, 26)) rfl V_model) rfl hsz hst rfl hdg hcs) hS (fun _ _ h => h) (fun _ h => h) (fun r u t H1 locs1 ht _ hr hB _ _ hS1 => by
      subst hr
      have hB9 := hB; try dsimp only at hB9
      rw [ht] at hB9
      rcases hB9 with ⟨q0, rfl, hG1⟩ | ⟨t9, q0, q1, hG1⟩
      · exact k0 q0 _ _ hG1 hS1
      · exact k1 r t9 q0 q1 _ _ hG1 hS1)
set_option maxHeartbeats 4000000 in
set_option maxRecDepth 100000 in
theorem c_X7_until (l : Launch) {D : va_G} {cy : Nat → ClassId} {sa : Nat → Nat} {de B : Nat} {ad : Ad} {S : St} {n : Nat → Nat} {T : St} {k : Nat → Nat} {th : Int32} {X : Rl} {x : Int32}  : Met l yX7_until (Cond.code yX7_until cX7_until 2 (Option.some Jvm.ClassFile.FieldType.int) :: G0) ({ frames := 2, cells := 0, slots := 0, locals := 43 } : Room) (va_Pc [.ref (ad 13 0 0), .int x] (PW D cy sa de B ad (Vw cy de ad S n T k th X) (Inv T k))) (oI B (fun r H => (cd_until T k x = 0 ∧ r = (T 2 (ci x) 0) ∧ GW D B ad (Vw cy de ad S n (T) (k) 0 X) H) ∨ (∃ (t9 : Nat), cd_until T k x = t9 ∧ ¬ t9 = 0 ∧ GW D B ad (Vw cy de ad S n T k (nI t9) X) H))) 0 0 (AB B) := by
  refine E_met (own := RX7) rfl rfl (Nat.le_of_ble_eq_true rfl) ?_
  intro p e s m below meth c hC hr hlk hnm hG h0 ls hl
  have hx := hC.x
  have hb := hC.b
  have hS : va_S (AB B) s.heap s.heap [] := va_S.rf
  have hl : lo ls 2 [some (.ref (ad 13 0 0)), some (.int x)] := lo_of hl
  have hI := h0
  obtain ⟨hCI, hD0, hD1, hD2, hB01, hF30, hK8, hMK, hU1, hU2, hS10, hEO, hCF, hFT, hME, hYR, hEK, hLA⟩ := h0
  obtain ⟨hW, hNE, hCH, hBL⟩ := hCI
  have hW9 := hW
  obtain ⟨hB0, hB1, hB2, hB3, hB4, hB5, hB6, hB7, hKI, hEI, hKY⟩ := hW9
  have hMB : MB k := ⟨hB0, hB1, hB2, hB3⟩
  have hKYm : KYm T k := hKY
  refine o_aload_n hx hb dX7_until_0 hl rfl ?_
  refine o_aload_n hx hb dX7_until_1 hl rfl ?_
  refine o_iload_n hx hb dX7_until_2 hl rfl ?_
  refine k_X7_isNoAthlete hC hS hG hMB ml_X7_98 ⟨Nat.le_of_ble_eq_true rfl, Nat.le_of_ble_eq_true rfl⟩ hl.1 (Nat.le_of_ble_eq_true rfl) dX7_until_3 ⟨Nat.le_of_ble_eq_true rfl, Nat.le_of_ble_eq_true rfl⟩ (fun h3 => ?_) (fun h3 => ?_)
  · skip
    refine lv_iconst (v := 1) hx hb dX7_until_6 (by decide) ?_
    refine k_X7_isThrown hC hS hG (by first | exact Or.inl rfl | exact Or.inr rfl) ml_X7_94 ⟨Nat.le_of_ble_eq_true rfl, Nat.le_of_ble_eq_true rfl⟩ hl.1 (Nat.le_of_ble_eq_true rfl) dX7_until_7 ⟨Nat.le_of_ble_eq_true rfl, Nat.le_of_ble_eq_true rfl⟩ (fun h7_0 H locs hG hS => ?_) (fun h7_0 H locs hG hS => ?_)
    · skip
      refine lv_if_ne (tgt := 36) hx hb dX7_until_10 (by decide) (fun h10 => ?_) (fun h10 => ?_)
      · skip
        refine lv_iconst (v := 0) hx hb dX7_until_36 (by decide) ?_
        refine lv_goto (tgt := 46) hx hb dX7_until_37 (by decide) ?_
        exact R_I hC hS hr hlk rfl (by first | exact Or.inr ⟨1, (by simp only [cd_until]; exact cif_f h3), (by decide), hG⟩ | exact Or.inr ⟨2, (by simp only [cd_until, za3]; exact (cif_t (ix_nI ha3)).trans (cif_f (fun z => (hU1 a3 ha3 z).2 h21))), (by decide), hG⟩ | exact Or.inl ⟨(by simp only [cd_until, za3]; exact (cif_t (ix_nI ha3)).trans (cif_t (Classical.byContradiction (fun z => h21 (hU2 a3 ha3 z))))), (by rw [za3]; exact ((hU1 a3 ha3 (Classical.byContradiction (fun z => h21 (hU2 a3 ha3 z)))).1).symm), (by exact hG)⟩) (Nat.le_of_ble_eq_true rfl) (Nat.le_of_ble_eq_true rfl) dX7_until_46
      · exact absurd h10 (by decide)
    · skip
      exact absurd h7_0 (by decide)
  · skip
    refine lv_iconst (v := 1) hx hb dX7_until_6 (by decide) ?_
    refine k_X7_isThrown hC hS hG (by first | exact Or.inl rfl | exact Or.inr rfl) ml_X7_94 ⟨Nat.le_of_ble_eq_true rfl, Nat.le_of_ble_eq_true rfl⟩ hl.1 (Nat.le_of_ble_eq_true rfl) dX7_until_7 ⟨Nat.le_of_ble_eq_true rfl, Nat.le_of_ble_eq_true rfl⟩ (fun h7_0 H locs hG hS => ?_) (fun h7_0 H locs hG hS => ?_)
    · skip
      exact absurd h7_0 (by decide)
    · skip
      refine lv_if_ne (tgt := 36) hx hb dX7_until_10 (by decide) (fun h10 => ?_) (fun h10 => ?_)
      · exact absurd h10 (by decide)
      · skip
        obtain ⟨a3, ha3, hxa3⟩ := Classical.not_not.mp h3
        subst hxa3
        have za3 : ci (nI a3) = a3 := nI_clamp (by omega)
        refine o_aload_n hx hb dX7_until_13 hl rfl ?_
        refine o_aload_n hx hb dX7_until_14 hl rfl ?_
        refine g_get hC hG us_X7 rfl 7 (by decide) fl_X7_35 V_model rfl dX7_until_15 ?_
        refine o_iload_n hx hb dX7_until_18 hl rfl ?_
        refine g_iald hC hG V_m7 _ rfl (by omega) (by omega) dX7_until_19 ?_
        refine lv_iconst (v := (-1)) hx hb dX7_until_20 (by decide) ?_
        refine lv_icmp_ne (tgt := 28) hx hb dX7_until_21 (by decide) (fun h21 => ?_) (fun h21 => ?_)
        · skip
          refine lv_iconst (v := 0) hx hb dX7_until_28 (by decide) ?_
          refine lv_iconst (v := 2) hx hb dX7_until_29 (by decide) ?_
          refine k_X7_isThrown hC hS hG (by first | exact Or.inl rfl | exact Or.inr rfl) ml_X7_94 ⟨Nat.le_of_ble_eq_true rfl, Nat.le_of_ble_eq_true rfl⟩ hl.1 (Nat.le_of_ble_eq_true rfl) dX7_until_30 ⟨Nat.le_of_ble_eq_true rfl, Nat.le_of_ble_eq_true rfl⟩ (fun h30_0 H locs hG hS => ?_) (fun h30_0 H locs hG hS => ?_)
          · skip
            exact absurd h30_0 (by decide)
          · skip
            refine lv_if_eq (tgt := 40) hx hb dX7_until_33 (by decide) (fun h33 => ?_) (fun h33 => ?_)
            · skip
              refine o_aload_n hx hb dX7_until_40 hl rfl ?_
              refine g_get hC hG us_X7 rfl 7 (by decide) fl_X7_35 V_model rfl dX7_until_41 ?_
              refine o_iload_n hx hb dX7_until_44 hl rfl ?_
              refine g_iald hC hG V_m7 _ rfl (by omega) (by omega) dX7_until_45 ?_
              exact R_I hC hS hr hlk rfl (by first | exact Or.inr ⟨1, (by simp only [cd_until]; exact cif_f h3), (by decide), hG⟩ | exact Or.inr ⟨2, (by simp only [cd_until, za3]; exact (cif_t (ix_nI ha3)).trans (cif_f (fun z => (hU1 a3 ha3 z).2 h21))), (by decide), hG⟩ | exact Or.inl ⟨(by simp only [cd_until, za3]; exact (cif_t (ix_nI ha3)).trans (cif_t (Classical.byContradiction (fun z => h21 (hU2 a3 ha3 z))))), (by rw [za3]; exact ((hU1 a3 ha3 (Classical.byContradiction (fun z => h21 (hU2 a3 ha3 z)))).1).symm), (by exact hG)⟩) (Nat.le_of_ble_eq_true rfl) (Nat.le_of_ble_eq_true rfl) dX7_until_46
            · exact absurd h33 (by decide)
        · skip
          refine lv_iconst (v := 1) hx hb dX7_until_24 (by decide) ?_
          refine lv_goto (tgt := 29) hx hb dX7_until_25 (by decide) ?_
          refine lv_iconst (v := 2) hx hb dX7_until_29 (by decide) ?_
          refine k_X7_isThrown hC hS hG (by first | exact Or.inl rfl | exact Or.inr rfl) ml_X7_94 ⟨Nat.le_of_ble_eq_true rfl, Nat.le_of_ble_eq_true rfl⟩ hl.1 (Nat.le_of_ble_eq_true rfl) dX7_until_30 ⟨Nat.le_of_ble_eq_true rfl, Nat.le_of_ble_eq_true rfl⟩ (fun h30_0 H locs hG hS => ?_) (fun h30_0 H locs hG hS => ?_)
          · skip
            refine lv_if_eq (tgt := 40) hx hb dX7_until_33 (by decide) (fun h33 => ?_) (fun h33 => ?_)
            · exact absurd h33 (by decide)
            · skip
              refine lv_iconst (v := 0) hx hb dX7_until_36 (by decide) ?_
              refine lv_goto (tgt := 46) hx hb dX7_until_37 (by decide) ?_
              exact R_I hC hS hr hlk rfl (by first | exact Or.inr ⟨1, (by simp only [cd_until]; exact cif_f h3), (by decide), hG⟩ | exact Or.inr ⟨2, (by simp only [cd_until, za3]; exact (cif_t (ix_nI ha3)).trans (cif_f (fun z => (hU1 a3 ha3 z).2 h21))), (by decide), hG⟩ | exact Or.inl ⟨(by simp only [cd_until, za3]; exact (cif_t (ix_nI ha3)).trans (cif_t (Classical.byContradiction (fun z => h21 (hU2 a3 ha3 z))))), (by rw [za3]; exact ((hU1 a3 ha3 (Classical.byContradiction (fun z => h21 (hU2 a3 ha3 z)))).1).symm), (by exact hG)⟩) (Nat.le_of_ble_eq_true rfl) (Nat.le_of_ble_eq_true rfl) dX7_until_46
          · skip
            exact absurd h30_0 (by decide)
theorem k_X7_until {p : Program} {l : Launch} {e : Env} {R : Room} {s : State} {m : MethodId} {args : Array Value} {below : List Frame} {meth : Method} {c : Code} {H : Heap} {locs : List Loc} {cells slots : Nat} {Q : State → Prop} {cc : ByteArray} {pc nL : Nat} {ls : Array Slot} {rest : List Value} {own : String} {D : va_G} {cy : Nat → ClassId} {sa : Nat → Nat} {de B : Nat} {ad : Ad} {S : St} {n : Nat → Nat} {T : St} {k : Nat → Nat} {th : Int32} {X : Rl} {x : Int32}  (hC : Cx p m c cc nL s args own D cy sa de B) (hS : va_S (AB B) s.heap H locs) (hG : GW D B ad (Vw cy de ad S n T k th X) H) (h0 : Inv T k)  {idx : Nat} (wl : Cond.methodLink own idx yX7_until ∈ G0) (hR : 2 + 1 ≤ R.frames ∧ 8 + (2 + 11) + 43 ≤ R.locals) (hsz : ls.size = nL) (hst : (rest.map fun v => v.category).sum ≤ 8) (hdg : decode cc pc = .ok (.invokevirtual idx, 3)) (hcs : cells + 0 ≤ R.cells ∧ slots + 0 ≤ R.slots) (k0 : (cd_until T k x = 0) → ∀ (H1 : Heap) (locs1 : List Loc), GW D B ad (Vw cy de ad S n (T) (k) 0 X) H1 → va_S (AB B) s.heap H1 locs1 → W p l e R s m args below meth c H1 locs1 cells slots Q (F0 m (pc + 3) ls (.int (T 2 (ci x) 0) :: rest))) (k1 : ∀ (r9 : Int32), ∀ (t9 : Nat), (cd_until T k x = t9) → (¬ t9 = 0) → ∀ (H1 : Heap) (locs1 : List Loc), GW D B ad (Vw cy de ad S n T k (nI t9) X) H1 → va_S (AB B) s.heap H1 locs1 → W p l e R s m args below meth c H1 locs1 cells slots Q (F0 m (pc + 3) ls (.int r9 :: rest))) : W p l e R s m args below meth c H locs cells slots Q (F0 m pc ls (.int x :: .ref (ad 13 0 0) :: rest)) :=
  va_calli (rV hC hS hG h0 (As := [.int x]) (c_X7_until l) ⟨rfl, rfl⟩ wl im_X7_until sl_X7_X7_until in_X7 cd_X7_until (n := 1) (by decide +kernel) hR (recv hC hG (q := (RX7, TX7, 26)) rfl V_model) rfl hsz hst rfl hdg hcs) hS (fun _ _ h => h) (fun _ h => h) (fun r u t H1 locs1 ht _ hr hB _ _ hS1 => by
      subst hr
      have hB9 := hB; try dsimp only at hB9
      rw [ht] at hB9
      rcases hB9 with ⟨q0, rfl, hG1⟩ | ⟨t9, q0, q1, hG1⟩
      · exact k0 q0 _ _ hG1 hS1
      · exact k1 r t9 q0 q1 _ _ hG1 hS1)
set_option maxHeartbeats 4000000 in
set_option maxRecDepth 100000 in
theorem c_X7_factor (l : Launch) {D : va_G} {cy : Nat → ClassId} {sa : Nat → Nat} {de B : Nat} {ad : Ad} {S : St} {n : Nat → Nat} {T : St} {k : Nat → Nat} {th : Int32} {X : Rl} {x y z : Int32}  : Met l yX7_factor (Cond.code yX7_factor cX7_factor 5 (Option.some Jvm.ClassFile.FieldType.int) :: G0) ({ frames := 2, cells := 0, slots := 0, locals := 43 } : Room) (va_Pc [.ref (ad 13 0 0), .int x, .int y, .int z] (PW D cy sa de B ad (Vw cy de ad S n T k th X) (Inv T k))) (oI B (fun r H => (cd_factor T k x y z = 0 ∧ r = (T 17 (ci x) (ci y)) ∧ GW D B ad (Vw cy de ad S n (up_factor T x y z) (k) 0 X) H) ∨ (∃ (t9 : Nat), cd_factor T k x y z = t9 ∧ ¬ t9 = 0 ∧ GW D B ad (Vw cy de ad S n T k (nI t9) X) H))) 0 0 (AB B) := by
  refine E_met (own := RX7) rfl rfl (Nat.le_of_ble_eq_true rfl) ?_
  intro p e s m below meth c hC hr hlk hnm hG h0 ls hl
  have hx := hC.x
  have hb := hC.b
  have hS : va_S (AB B) s.heap s.heap [] := va_S.rf
  have hl : lo ls 5 [some (.ref (ad 13 0 0)), some (.int x), some (.int y), some (.int z), none] := lo_of hl
  have hI := h0
  obtain ⟨hCI, hD0, hD1, hD2, hB01, hF30, hK8, hMK, hU1, hU2, hS10, hEO, hCF, hFT, hME, hYR, hEK, hLA⟩ := h0
  obtain ⟨hW, hNE, hCH, hBL⟩ := hCI
  have hW9 := hW
  obtain ⟨hB0, hB1, hB2, hB3, hB4, hB5, hB6, hB7, hKI, hEI, hKY⟩ := hW9
  have hMB : MB k := ⟨hB0, hB1, hB2, hB3⟩
  have hKYm : KYm T k := hKY
  refine o_aload_n hx hb dX7_factor_0 hl rfl ?_
  refine o_aload_n hx hb dX7_factor_1 hl rfl ?_
  refine o_iload_n hx hb dX7_factor_2 hl rfl ?_
  refine k_X7_isNoEvent hC hS hG hMB ml_X7_139 ⟨Nat.le_of_ble_eq_true rfl, Nat.le_of_ble_eq_true rfl⟩ hl.1 (Nat.le_of_ble_eq_true rfl) dX7_factor_3 ⟨Nat.le_of_ble_eq_true rfl, Nat.le_of_ble_eq_true rfl⟩ (fun h3 => ?_) (fun h3 => ?_)
  · skip
    refine lv_if_ne (tgt := 26) hx hb dX7_factor_6 (by decide) (fun h6 => ?_) (fun h6 => ?_)
    · skip
      refine lv_iconst (v := 1) hx hb dX7_factor_26 (by decide) ?_
      refine lv_goto (tgt := 31) hx hb dX7_factor_27 (by decide) ?_
      refine lv_iconst (v := 1) hx hb dX7_factor_31 (by decide) ?_
      refine k_X7_isThrown hC hS hG (by first | exact Or.inl rfl | exact Or.inr rfl) ml_X7_94 ⟨Nat.le_of_ble_eq_true rfl, Nat.le_of_ble_eq_true rfl⟩ hl.1 (Nat.le_of_ble_eq_true rfl) dX7_factor_32 ⟨Nat.le_of_ble_eq_true rfl, Nat.le_of_ble_eq_true rfl⟩ (fun h32_0 H locs hG hS => ?_) (fun h32_0 H locs hG hS => ?_)
      · skip
        refine lv_if_ne (tgt := 76) hx hb dX7_factor_35 (by decide) (fun h35 => ?_) (fun h35 => ?_)
        · skip
          refine lv_iconst (v := 0) hx hb dX7_factor_76 (by decide) ?_
          exact R_I hC hS hr hlk rfl (by first | exact Or.inr ⟨1, (by simp only [cd_factor, za3]; exact cif_f (fun v => h20 v.2)), (by decide), hG⟩ | exact Or.inr ⟨1, (by simp only [cd_factor, za3]; exact cif_f (fun v => h11 (v.2.1.elim (fun q h => ⟨q, hEK a3 q ha3 h.1 (by rw [← h.2]; exact v.2.2), h.2⟩)))), (by decide), hG⟩ | exact Or.inr ⟨2, (by simp only [cd_factor, za3]; exact (cif_t ⟨ix_nI ha3, h20⟩).trans (cif_f h44)), (by decide), hG⟩ | exact Or.inr ⟨3, (by simp only [cd_factor, za3]; exact (cif_t ⟨ix_nI ha3, h20⟩).trans ((cif_t h44).trans (cif_f (by rw [h70_0]; decide)))), (by decide), hG⟩ | exact Or.inr ⟨1, (by simp only [cd_factor]; exact cif_f (fun v => h3 v.1)), (by decide), hG⟩) (Nat.le_of_ble_eq_true rfl) (Nat.le_of_ble_eq_true rfl) dX7_factor_77
        · exact absurd h35 (by decide)
      · skip
        exact absurd h32_0 (by decide)
    · exact absurd h6 (by decide)
  · skip
    refine lv_if_ne (tgt := 26) hx hb dX7_factor_6 (by decide) (fun h6 => ?_) (fun h6 => ?_)
    · exact absurd h6 (by decide)
    · skip
      obtain ⟨a3, ha3, hxa3⟩ := Classical.not_not.mp h3
      subst hxa3
      have za3 : ci (nI a3) = a3 := nI_clamp (by omega)
      refine o_aload_n hx hb dX7_factor_9 hl rfl ?_
      refine o_iload_n hx hb dX7_factor_10 hl rfl ?_
      refine k_X7_isNoKind hC hS hG hMB ml_X7_136 ⟨Nat.le_of_ble_eq_true rfl, Nat.le_of_ble_eq_true rfl⟩ hl.1 (Nat.le_of_ble_eq_true rfl) dX7_factor_11 ⟨Nat.le_of_ble_eq_true rfl, Nat.le_of_ble_eq_true rfl⟩ (fun h11 => ?_) (fun h11 => ?_)
      · skip
        refine lv_if_ne (tgt := 26) hx hb dX7_factor_14 (by decide) (fun h14 => ?_) (fun h14 => ?_)
        · skip
          refine lv_iconst (v := 1) hx hb dX7_factor_26 (by decide) ?_
          refine lv_goto (tgt := 31) hx hb dX7_factor_27 (by decide) ?_
          refine lv_iconst (v := 1) hx hb dX7_factor_31 (by decide) ?_
          refine k_X7_isThrown hC hS hG (by first | exact Or.inl rfl | exact Or.inr rfl) ml_X7_94 ⟨Nat.le_of_ble_eq_true rfl, Nat.le_of_ble_eq_true rfl⟩ hl.1 (Nat.le_of_ble_eq_true rfl) dX7_factor_32 ⟨Nat.le_of_ble_eq_true rfl, Nat.le_of_ble_eq_true rfl⟩ (fun h32_0 H locs hG hS => ?_) (fun h32_0 H locs hG hS => ?_)
          · skip
            refine lv_if_ne (tgt := 76) hx hb dX7_factor_35 (by decide) (fun h35 => ?_) (fun h35 => ?_)
            · skip
              refine lv_iconst (v := 0) hx hb dX7_factor_76 (by decide) ?_
              exact R_I hC hS hr hlk rfl (by first | exact Or.inr ⟨1, (by simp only [cd_factor, za3]; exact cif_f (fun v => h20 v.2)), (by decide), hG⟩ | exact Or.inr ⟨1, (by simp only [cd_factor, za3]; exact cif_f (fun v => h11 (v.2.1.elim (fun q h => ⟨q, hEK a3 q ha3 h.1 (by rw [← h.2]; exact v.2.2), h.2⟩)))), (by decide), hG⟩ | exact Or.inr ⟨2, (by simp only [cd_factor, za3]; exact (cif_t ⟨ix_nI ha3, h20⟩).trans (cif_f h44)), (by decide), hG⟩ | exact Or.inr ⟨3, (by simp only [cd_factor, za3]; exact (cif_t ⟨ix_nI ha3, h20⟩).trans ((cif_t h44).trans (cif_f (by rw [h70_0]; decide)))), (by decide), hG⟩ | exact Or.inr ⟨1, (by simp only [cd_factor]; exact cif_f (fun v => h3 v.1)), (by decide), hG⟩) (Nat.le_of_ble_eq_true rfl) (Nat.le_of_ble_eq_true rfl) dX7_factor_77
            · exact absurd h35 (by decide)
          · skip
            exact absurd h32_0 (by decide)
        · exact absurd h14 (by decide)
      · skip
        refine lv_if_ne (tgt := 26) hx hb dX7_factor_14 (by decide) (fun h14 => ?_) (fun h14 => ?_)
        · exact absurd h14 (by decide)
        · skip
          obtain ⟨q11, hq11, hxq11⟩ := Classical.not_not.mp h11
          subst hxq11
          have zq11 : ci (nI q11) = q11 := nI_clamp (by omega)
          refine o_aload_n hx hb dX7_factor_17 hl rfl ?_
          refine o_iload_n hx hb dX7_factor_18 hl rfl ?_
          refine o_iload_n hx hb dX7_factor_19 hl rfl ?_
          refine k_X7_isFor hC hS hG ⟨by omega, Or.inr ⟨q11, by omega, rfl⟩⟩ ml_X7_142 ⟨Nat.le_of_ble_eq_true rfl, Nat.le_of_ble_eq_true rfl⟩ hl.1 (Nat.le_of_ble_eq_true rfl) dX7_factor_20 ⟨Nat.le_of_ble_eq_true rfl, Nat.le_of_ble_eq_true rfl⟩ (fun h20 => ?_) (fun h20 => ?_)
          · skip
            refine lv_if_ne (tgt := 30) hx hb dX7_factor_23 (by decide) (fun h23 => ?_) (fun h23 => ?_)
            · skip
              refine lv_iconst (v := 0) hx hb dX7_factor_30 (by decide) ?_
              refine lv_iconst (v := 1) hx hb dX7_factor_31 (by decide) ?_
              refine k_X7_isThrown hC hS hG (by first | exact Or.inl rfl | exact Or.inr rfl) ml_X7_94 ⟨Nat.le_of_ble_eq_true rfl, Nat.le_of_ble_eq_true rfl⟩ hl.1 (Nat.le_of_ble_eq_true rfl) dX7_factor_32 ⟨Nat.le_of_ble_eq_true rfl, Nat.le_of_ble_eq_true rfl⟩ (fun h32_0 H locs hG hS => ?_) (fun h32_0 H locs hG hS => ?_)
              · skip
                exact absurd h32_0 (by decide)
              · skip
                refine lv_if_ne (tgt := 76) hx hb dX7_factor_35 (by decide) (fun h35 => ?_) (fun h35 => ?_)
                · exact absurd h35 (by decide)
                · skip
                  refine o_aload_n hx hb dX7_factor_38 hl rfl ?_
                  refine o_iload_n hx hb dX7_factor_39 hl rfl ?_
                  refine lv_bipush (v := 50) hx hb dX7_factor_40 (by decide) ?_
                  refine lv_bipush (v := 100) hx hb dX7_factor_42 (by decide) ?_
                  refine k_X7_isIn hC hS hG trivial ml_X7_83 ⟨Nat.le_of_ble_eq_true rfl, Nat.le_of_ble_eq_true rfl⟩ hl.1 (Nat.le_of_ble_eq_true rfl) dX7_factor_44 ⟨Nat.le_of_ble_eq_true rfl, Nat.le_of_ble_eq_true rfl⟩ (fun h44 => ?_) (fun h44 => ?_)
                  · skip
                    refine lv_if_ne (tgt := 54) hx hb dX7_factor_47 (by decide) (fun h47 => ?_) (fun h47 => ?_)
                    · skip
                      refine lv_iconst (v := 0) hx hb dX7_factor_54 (by decide) ?_
                      refine lv_iconst (v := 2) hx hb dX7_factor_55 (by decide) ?_
                      refine k_X7_isThrown hC hS hG (by first | exact Or.inl rfl | exact Or.inr rfl) ml_X7_94 ⟨Nat.le_of_ble_eq_true rfl, Nat.le_of_ble_eq_true rfl⟩ hl.1 (Nat.le_of_ble_eq_true rfl) dX7_factor_56 ⟨Nat.le_of_ble_eq_true rfl, Nat.le_of_ble_eq_true rfl⟩ (fun h56_0 H locs hG hS => ?_) (fun h56_0 H locs hG hS => ?_)
                      · skip
                        exact absurd h56_0 (by decide)
                      · skip
                        refine lv_if_ne (tgt := 76) hx hb dX7_factor_59 (by decide) (fun h59 => ?_) (fun h59 => ?_)
                        · exact absurd h59 (by decide)
                        · skip
                          refine o_aload_n hx hb dX7_factor_62 hl rfl ?_
                          refine o_aload_n hx hb dX7_factor_63 hl rfl ?_
                          refine g_get hC hG us_X7 rfl 15 (by decide) fl_X7_59 V_model rfl dX7_factor_64 ?_
                          refine o_iload_n hx hb dX7_factor_67 hl rfl ?_
                          refine g_zald hC hG V_m15 _ rfl (by omega) (by omega) dX7_factor_68 ?_
                          refine lv_iconst (v := 3) hx hb dX7_factor_69 (by decide) ?_
                          refine k_X7_isThrown hC hS hG (hB01 _).2.2.1 ml_X7_94 ⟨Nat.le_of_ble_eq_true rfl, Nat.le_of_ble_eq_true rfl⟩ hl.1 (Nat.le_of_ble_eq_true rfl) dX7_factor_70 ⟨Nat.le_of_ble_eq_true rfl, Nat.le_of_ble_eq_true rfl⟩ (fun h70_0 H locs hG hS => ?_) (fun h70_0 H locs hG hS => ?_)
                          · skip
                            refine lv_if_eq (tgt := 78) hx hb dX7_factor_73 (by decide) (fun h73 => ?_) (fun h73 => ?_)
                            · exact absurd h73 (by decide)
                            · skip
                              refine lv_iconst (v := 0) hx hb dX7_factor_76 (by decide) ?_
                              exact R_I hC hS hr hlk rfl (by first | exact Or.inr ⟨1, (by simp only [cd_factor, za3]; exact cif_f (fun v => h20 v.2)), (by decide), hG⟩ | exact Or.inr ⟨1, (by simp only [cd_factor, za3]; exact cif_f (fun v => h11 (v.2.1.elim (fun q h => ⟨q, hEK a3 q ha3 h.1 (by rw [← h.2]; exact v.2.2), h.2⟩)))), (by decide), hG⟩ | exact Or.inr ⟨2, (by simp only [cd_factor, za3]; exact (cif_t ⟨ix_nI ha3, h20⟩).trans (cif_f h44)), (by decide), hG⟩ | exact Or.inr ⟨3, (by simp only [cd_factor, za3]; exact (cif_t ⟨ix_nI ha3, h20⟩).trans ((cif_t h44).trans (cif_f (by rw [h70_0]; decide)))), (by decide), hG⟩ | exact Or.inr ⟨1, (by simp only [cd_factor]; exact cif_f (fun v => h3 v.1)), (by decide), hG⟩) (Nat.le_of_ble_eq_true rfl) (Nat.le_of_ble_eq_true rfl) dX7_factor_77
                          · skip
                            refine lv_if_eq (tgt := 78) hx hb dX7_factor_73 (by decide) (fun h73 => ?_) (fun h73 => ?_)
                            · skip
                              refine o_aload_n hx hb dX7_factor_78 hl rfl ?_
                              refine g_get hC hG us_X7 rfl 14 (by decide) fl_X7_56 V_model rfl dX7_factor_79 ?_
                              refine o_iload_n hx hb dX7_factor_82 hl rfl ?_
                              refine g_aald hC hG 7 rfl rfl V_o14 _ rfl (by omega) (by omega) dX7_factor_83 ?_
                              refine o_iload_n hx hb dX7_factor_84 hl rfl ?_
                              refine g_iald hC hG (V_r14 (by omega)) _ rfl (by omega) (by omega) dX7_factor_85 ?_
                              refine o_istore hx hb dX7_factor_86 hl (by decide) rfl (fun ls hl => ?_)
                              refine o_aload_n hx hb dX7_factor_88 hl rfl ?_
                              refine g_get hC hG us_X7 rfl 14 (by decide) fl_X7_56 V_model rfl dX7_factor_89 ?_
                              refine o_iload_n hx hb dX7_factor_92 hl rfl ?_
                              refine g_aald hC hG 7 rfl rfl V_o14 _ rfl (by omega) (by omega) dX7_factor_93 ?_
                              refine o_iload_n hx hb dX7_factor_94 hl rfl ?_
                              refine o_iload_n hx hb dX7_factor_95 hl rfl ?_
                              refine g_iast hC hG hS (V_r14 (by omega)) _ rfl (by omega) (by omega) (P_r14 (by omega)) dX7_factor_96 (fun H locs hG hS => ?_)
                              refine o_iload hx hb dX7_factor_97 hl rfl ?_
                              exact R_I hC hS hr hlk rfl (Or.inl ⟨(by simp only [cd_factor, za3]; exact (cif_t ⟨ix_nI ha3, h20⟩).trans ((cif_t h44).trans (cif_t h70_0))), (by rw [za3, zq11]), (by simp only [up_factor, za3, zq11]; exact hG)⟩) (Nat.le_of_ble_eq_true rfl) (Nat.le_of_ble_eq_true rfl) dX7_factor_99
                            · exact absurd h73 (by decide)
                    · exact absurd h47 (by decide)
                  · skip
                    refine lv_if_ne (tgt := 54) hx hb dX7_factor_47 (by decide) (fun h47 => ?_) (fun h47 => ?_)
                    · exact absurd h47 (by decide)
                    · skip
                      refine lv_iconst (v := 1) hx hb dX7_factor_50 (by decide) ?_
                      refine lv_goto (tgt := 55) hx hb dX7_factor_51 (by decide) ?_
                      refine lv_iconst (v := 2) hx hb dX7_factor_55 (by decide) ?_
                      refine k_X7_isThrown hC hS hG (by first | exact Or.inl rfl | exact Or.inr rfl) ml_X7_94 ⟨Nat.le_of_ble_eq_true rfl, Nat.le_of_ble_eq_true rfl⟩ hl.1 (Nat.le_of_ble_eq_true rfl) dX7_factor_56 ⟨Nat.le_of_ble_eq_true rfl, Nat.le_of_ble_eq_true rfl⟩ (fun h56_0 H locs hG hS => ?_) (fun h56_0 H locs hG hS => ?_)
                      · skip
                        refine lv_if_ne (tgt := 76) hx hb dX7_factor_59 (by decide) (fun h59 => ?_) (fun h59 => ?_)
                        · skip
                          refine lv_iconst (v := 0) hx hb dX7_factor_76 (by decide) ?_
                          exact R_I hC hS hr hlk rfl (by first | exact Or.inr ⟨1, (by simp only [cd_factor, za3]; exact cif_f (fun v => h20 v.2)), (by decide), hG⟩ | exact Or.inr ⟨1, (by simp only [cd_factor, za3]; exact cif_f (fun v => h11 (v.2.1.elim (fun q h => ⟨q, hEK a3 q ha3 h.1 (by rw [← h.2]; exact v.2.2), h.2⟩)))), (by decide), hG⟩ | exact Or.inr ⟨2, (by simp only [cd_factor, za3]; exact (cif_t ⟨ix_nI ha3, h20⟩).trans (cif_f h44)), (by decide), hG⟩ | exact Or.inr ⟨3, (by simp only [cd_factor, za3]; exact (cif_t ⟨ix_nI ha3, h20⟩).trans ((cif_t h44).trans (cif_f (by rw [h70_0]; decide)))), (by decide), hG⟩ | exact Or.inr ⟨1, (by simp only [cd_factor]; exact cif_f (fun v => h3 v.1)), (by decide), hG⟩) (Nat.le_of_ble_eq_true rfl) (Nat.le_of_ble_eq_true rfl) dX7_factor_77
                        · exact absurd h59 (by decide)
                      · skip
                        exact absurd h56_0 (by decide)
            · exact absurd h23 (by decide)
          · skip
            refine lv_if_ne (tgt := 30) hx hb dX7_factor_23 (by decide) (fun h23 => ?_) (fun h23 => ?_)
            · exact absurd h23 (by decide)
            · skip
              refine lv_iconst (v := 1) hx hb dX7_factor_26 (by decide) ?_
              refine lv_goto (tgt := 31) hx hb dX7_factor_27 (by decide) ?_
              refine lv_iconst (v := 1) hx hb dX7_factor_31 (by decide) ?_
              refine k_X7_isThrown hC hS hG (by first | exact Or.inl rfl | exact Or.inr rfl) ml_X7_94 ⟨Nat.le_of_ble_eq_true rfl, Nat.le_of_ble_eq_true rfl⟩ hl.1 (Nat.le_of_ble_eq_true rfl) dX7_factor_32 ⟨Nat.le_of_ble_eq_true rfl, Nat.le_of_ble_eq_true rfl⟩ (fun h32_0 H locs hG hS => ?_) (fun h32_0 H locs hG hS => ?_)
              · skip
                refine lv_if_ne (tgt := 76) hx hb dX7_factor_35 (by decide) (fun h35 => ?_) (fun h35 => ?_)
                · skip
                  refine lv_iconst (v := 0) hx hb dX7_factor_76 (by decide) ?_
                  exact R_I hC hS hr hlk rfl (by first | exact Or.inr ⟨1, (by simp only [cd_factor, za3]; exact cif_f (fun v => h20 v.2)), (by decide), hG⟩ | exact Or.inr ⟨1, (by simp only [cd_factor, za3]; exact cif_f (fun v => h11 (v.2.1.elim (fun q h => ⟨q, hEK a3 q ha3 h.1 (by rw [← h.2]; exact v.2.2), h.2⟩)))), (by decide), hG⟩ | exact Or.inr ⟨2, (by simp only [cd_factor, za3]; exact (cif_t ⟨ix_nI ha3, h20⟩).trans (cif_f h44)), (by decide), hG⟩ | exact Or.inr ⟨3, (by simp only [cd_factor, za3]; exact (cif_t ⟨ix_nI ha3, h20⟩).trans ((cif_t h44).trans (cif_f (by rw [h70_0]; decide)))), (by decide), hG⟩ | exact Or.inr ⟨1, (by simp only [cd_factor]; exact cif_f (fun v => h3 v.1)), (by decide), hG⟩) (Nat.le_of_ble_eq_true rfl) (Nat.le_of_ble_eq_true rfl) dX7_factor_77
                · exact absurd h35 (by decide)
              · skip
                exact absurd h32_0 (by decide)
theorem k_X7_factor {p : Program} {l : Launch} {e : Env} {R : Room} {s : State} {m : MethodId} {args : Array Value} {below : List Frame} {meth : Method} {c : Code} {H : Heap} {locs : List Loc} {cells slots : Nat} {Q : State → Prop} {cc : ByteArray} {pc nL : Nat} {ls : Array Slot} {rest : List Value} {own : String} {D : va_G} {cy : Nat → ClassId} {sa : Nat → Nat} {de B : Nat} {ad : Ad} {S : St} {n : Nat → Nat} {T : St} {k : Nat → Nat} {th : Int32} {X : Rl} {x y z : Int32}  (hC : Cx p m c cc nL s args own D cy sa de B) (hS : va_S (AB B) s.heap H locs) (hG : GW D B ad (Vw cy de ad S n T k th X) H) (h0 : Inv T k)  {idx : Nat} (wl : Cond.methodLink own idx yX7_factor ∈ G0) (hR : 2 + 1 ≤ R.frames ∧ 8 + (5 + 11) + 43 ≤ R.locals) (hsz : ls.size = nL) (hst : (rest.map fun v => v.category).sum ≤ 8) (hdg : decode cc pc = .ok (.invokevirtual idx, 3)) (hcs : cells + 0 ≤ R.cells ∧ slots + 0 ≤ R.slots) (k0 : (cd_factor T k x y z = 0) → ∀ (H1 : Heap) (locs1 : List Loc), GW D B ad (Vw cy de ad S n (up_factor T x y z) (k) 0 X) H1 → va_S (AB B) s.heap H1 locs1 → W p l e R s m args below meth c H1 locs1 cells slots Q (F0 m (pc + 3) ls (.int (T 17 (ci x) (ci y)) :: rest))) (k1 : ∀ (r9 : Int32), ∀ (t9 : Nat), (cd_factor T k x y z = t9) → (¬ t9 = 0) → ∀ (H1 : Heap) (locs1 : List Loc), GW D B ad (Vw cy de ad S n T k (nI t9) X) H1 → va_S (AB B) s.heap H1 locs1 → W p l e R s m args below meth c H1 locs1 cells slots Q (F0 m (pc + 3) ls (.int r9 :: rest))) : W p l e R s m args below meth c H locs cells slots Q (F0 m pc ls (.int z :: .int y :: .int x :: .ref (ad 13 0 0) :: rest)) :=
  va_calli (rV hC hS hG h0 (As := [.int x, .int y, .int z]) (c_X7_factor l) ⟨rfl, rfl⟩ wl im_X7_factor sl_X7_X7_factor in_X7 cd_X7_factor (n := 3) (by decide +kernel) hR (recv hC hG (q := (RX7, TX7, 26)) rfl V_model) rfl hsz hst rfl hdg hcs) hS (fun _ _ h => h) (fun _ h => h) (fun r u t H1 locs1 ht _ hr hB _ _ hS1 => by
      subst hr
      have hB9 := hB; try dsimp only at hB9
      rw [ht] at hB9
      rcases hB9 with ⟨q0, rfl, hG1⟩ | ⟨t9, q0, q1, hG1⟩
      · exact k0 q0 _ _ hG1 hS1
      · exact k1 r t9 q0 q1 _ _ hG1 hS1)
set_option maxHeartbeats 4000000 in
set_option maxRecDepth 100000 in
theorem c_X7_year (l : Launch) {D : va_G} {cy : Nat → ClassId} {sa : Nat → Nat} {de B : Nat} {ad : Ad} {S : St} {n : Nat → Nat} {T : St} {k : Nat → Nat} {th : Int32} {X : Rl}   : Met l yX7_year (Cond.code yX7_year cX7_year 1 (Option.some Jvm.ClassFile.FieldType.int) :: G0) ({ frames := 0, cells := 0, slots := 0, locals := 0 } : Room) (va_Pc [.ref (ad 13 0 0)] (PW D cy sa de B ad (Vw cy de ad S n T k th X) (True))) (oI B (fun r H => (r = T 23 0 0 ∧ GW D B ad (Vw cy de ad S n T k 0 X) H))) 0 0 (AB B) := by
  refine E_met (own := RX7) rfl rfl (Nat.le_of_ble_eq_true rfl) ?_
  intro p e s m below meth c hC hr hlk hnm hG h0 ls hl
  have hx := hC.x
  have hb := hC.b
  have hS : va_S (AB B) s.heap s.heap [] := va_S.rf
  have hl : lo ls 1 [some (.ref (ad 13 0 0))] := lo_of hl
  refine o_aload_n hx hb dX7_year_0 hl rfl ?_
  refine lv_iconst (v := 0) hx hb dX7_year_1 (by decide) ?_
  refine g_put hC hG hS us_X7 tyX7_ok nmX7 rfl 25 (by decide) fl_X7_76 rfl V_model rfl rfl (Nat.le_of_ble_eq_true rfl) P_thrown dX7_year_2 (fun H locs hG hS => ?_)
  refine o_aload_n hx hb dX7_year_5 hl rfl ?_
  refine g_get hC hG us_X7 rfl 24 (by decide) fl_X7_126 V_model rfl dX7_year_6 ?_
  exact R_I hC hS hr hlk rfl (⟨rfl, hG⟩) (Nat.le_of_ble_eq_true rfl) (Nat.le_of_ble_eq_true rfl) dX7_year_9
theorem k_X7_year {p : Program} {l : Launch} {e : Env} {R : Room} {s : State} {m : MethodId} {args : Array Value} {below : List Frame} {meth : Method} {c : Code} {H : Heap} {locs : List Loc} {cells slots : Nat} {Q : State → Prop} {cc : ByteArray} {pc nL : Nat} {ls : Array Slot} {rest : List Value} {own : String} {D : va_G} {cy : Nat → ClassId} {sa : Nat → Nat} {de B : Nat} {ad : Ad} {S : St} {n : Nat → Nat} {T : St} {k : Nat → Nat} {th : Int32} {X : Rl}   (hC : Cx p m c cc nL s args own D cy sa de B) (hS : va_S (AB B) s.heap H locs) (hG : GW D B ad (Vw cy de ad S n T k th X) H) (h0 : True)  {idx : Nat} (wl : Cond.methodLink own idx yX7_year ∈ G0) (hR : 0 + 1 ≤ R.frames ∧ 8 + (1 + 11) + 0 ≤ R.locals) (hsz : ls.size = nL) (hst : (rest.map fun v => v.category).sum ≤ 8) (hdg : decode cc pc = .ok (.invokevirtual idx, 3)) (hcs : cells + 0 ≤ R.cells ∧ slots + 0 ≤ R.slots) (k0 : ∀ (H1 : Heap) (locs1 : List Loc), GW D B ad (Vw cy de ad S n T k 0 X) H1 → va_S (AB B) s.heap H1 locs1 → W p l e R s m args below meth c H1 locs1 cells slots Q (F0 m (pc + 3) ls (.int (T 23 0 0) :: rest))) : W p l e R s m args below meth c H locs cells slots Q (F0 m pc ls (.ref (ad 13 0 0) :: rest)) :=
  va_calli (rV hC hS hG h0 (As := []) (c_X7_year l) ⟨rfl, rfl⟩ wl im_X7_year sl_X7_X7_year in_X7 cd_X7_year (n := 0) (by decide +kernel) hR (recv hC hG (q := (RX7, TX7, 26)) rfl V_model) rfl hsz hst rfl hdg hcs) hS (fun _ _ h => h) (fun _ h => h) (fun r u t H1 locs1 ht _ hr hB _ _ hS1 => by
      subst hr
      have hB9 := hB; try dsimp only at hB9
      rw [ht] at hB9
      rcases hB9 with ⟨rfl, hG1⟩
      · exact k0 _ _ hG1 hS1)
