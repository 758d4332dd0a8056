set_option maxHeartbeats 4000000 in
set_option maxRecDepth 100000 in
theorem c_X6_factor (l : Launch) (hfl : l.stackTraces = false) {D : va_G} {cy : Nat → ClassId} {sa : Nat → Nat} {de B : Nat} {ad : Ad} {S : St} {n : Nat → Nat} {T : St} {k : Nat → Nat} {th : Int32} {X : Rl} {x y z : Int32}  : vx_Met l yX6_factor (Cond.code yX6_factor cX6_factor 6 (Option.some Jvm.ClassFile.FieldType.int) :: G0) ({ frames := 7, cells := 2, slots := 12, locals := 103 } : Room) (va_Pc [.ref (ad 0 0 0), .int x, .int y, .int z] (PW D cy sa de B ad (Vw cy de ad S n T k th X) (CI S n))) (oI B (fun r H => (cd_factor S n x y z = 0 ∧ r = (S 17 (ci x) (ci y)) ∧ GW D B ad (Vw cy de ad (up_factor S x y z) n T k th X) H))) (oX B (fun E H => ((E = "java/lang/IndexOutOfBoundsException" ∧ cd_factor S n x y z = 1) ∨ (E = "java/lang/IllegalArgumentException" ∧ cd_factor S n x y z = 2) ∨ (E = "java/lang/UnsupportedOperationException" ∧ cd_factor S n x y z = 3)) ∧ GW D B ad (Vw cy de ad S n T k th X) H)) 2 12 (AB B) := by
  refine E_vx (own := RX6) rfl rfl (Nat.le_of_ble_eq_true rfl) ?_
  intro p e s m below meth c hC hr hlk hex hG h0 ls hl
  have hx := hC.x
  have hb := hC.b
  have hS : va_S (AB B) s.heap s.heap [] := va_S.rf
  have hl : lo ls 6 [some (.ref (ad 0 0 0)), some (.int x), some (.int y), some (.int z), none, none] := lo_of hl
  obtain ⟨hW, hNE, hCH, hBL⟩ := h0
  have hW9 := hW
  obtain ⟨hB0, hB1, hB2, hB3, hB4, hB5, hB6, hB7, hKI, hEI, hKY⟩ := hW9
  
  refine o_aload_n hx hb dX6_factor_0 hl rfl ?_
  refine o_iload_n hx hb dX6_factor_1 hl rfl ?_
  refine k_X6_needEvent hfl hC hS hG hW ml_X6_224 ⟨Nat.le_of_ble_eq_true rfl, Nat.le_of_ble_eq_true rfl⟩ hl.1 (Nat.le_of_ble_eq_true rfl) dX6_factor_2 ⟨Nat.le_of_ble_eq_true rfl, Nat.le_of_ble_eq_true rfl⟩ hex hlk (Nat.le_of_ble_eq_true rfl) (Nat.le_of_ble_eq_true rfl) (fun E H1 hE => ⟨Or.inl (⟨hE.1.1, (by simp only [cd_factor]; exact cif_f (fun z => hE.1.2 z.1))⟩), hE.2⟩) (fun a2 h2_0 h2_1 H locs hG hS => ?_)
  subst h2_1
  have z2 : ci (nI a2) = a2 := nI_clamp (by omega)
  refine o_astore hx hb dX6_factor_5 hl (by decide) rfl (fun ls hl => ?_)
  refine o_aload hx hb dX6_factor_7 hl rfl ?_
  refine o_iload_n hx hb dX6_factor_9 hl rfl ?_
  refine k_X3_isFor hC hS hG (by omega) ml_X6_228 ⟨Nat.le_of_ble_eq_true rfl, Nat.le_of_ble_eq_true rfl⟩ hl.1 (Nat.le_of_ble_eq_true rfl) dX6_factor_10 ⟨Nat.le_of_ble_eq_true rfl, Nat.le_of_ble_eq_true rfl⟩ (fun h10 => ?_) (fun h10 => ?_)
  · skip
    refine lv_if_ne (tgt := 26) hx hb dX6_factor_13 (by decide) (fun h13 => ?_) (fun h13 => ?_)
    · skip
      obtain ⟨q26, hq26, hy26⟩ := h10.1
      subst hy26
      have z26 : ci (nI q26) = q26 := nI_clamp (by omega)
      refine o_iload_n hx hb dX6_factor_26 hl rfl ?_
      refine lv_bipush (v := 50) hx hb dX6_factor_27 (by decide) ?_
      refine lv_icmp_lt (tgt := 38) hx hb dX6_factor_29 (by decide) (fun h29 => ?_) (fun h29 => ?_)
      · skip
        exact thr_IA hC hfl hS hG hex hlk hl.1 (si := 25) rfl dX6_factor_38 dX6_factor_41 dX6_factor_42 dX6_factor_44 dX6_factor_47 (Nat.le_of_ble_eq_true rfl) (Nat.le_of_ble_eq_true rfl) (Nat.le_of_ble_eq_true rfl) (Nat.le_of_ble_eq_true rfl) (fun H1 hG1 => ⟨Or.inr (Or.inl (⟨rfl, (by simp only [cd_factor, z2]; exact (cif_t ⟨ix_nI h2_0, h10⟩).trans (cif_f (fun z => by first | exact absurd h29 (Int32.not_lt.mpr z.1) | exact h35 z.2)))⟩)), hG1⟩) (Nat.le_of_ble_eq_true rfl) (Nat.le_of_ble_eq_true rfl)
      · skip
        refine o_iload_n hx hb dX6_factor_32 hl rfl ?_
        refine lv_bipush (v := 100) hx hb dX6_factor_33 (by decide) ?_
        refine lv_icmp_le (tgt := 48) hx hb dX6_factor_35 (by decide) (fun h35 => ?_) (fun h35 => ?_)
        · skip
          refine o_aload hx hb dX6_factor_48 hl rfl ?_
          refine g_get hC hG us_X3 rfl 3 (by decide) fl_X6_239 (V_event (by omega)) rfl dX6_factor_50 ?_
          refine lv_if_eq (tgt := 66) hx hb dX6_factor_53 (by decide) (fun h53 => ?_) (fun h53 => ?_)
          · skip
            refine o_aload hx hb dX6_factor_66 hl rfl ?_
            refine o_iload_n hx hb dX6_factor_68 hl rfl ?_
            refine k_X3_factorOf hC hS hG ⟨by omega, by omega⟩ ml_X6_244 ⟨Nat.le_of_ble_eq_true rfl, Nat.le_of_ble_eq_true rfl⟩ hl.1 (Nat.le_of_ble_eq_true rfl) dX6_factor_69 ⟨Nat.le_of_ble_eq_true rfl, Nat.le_of_ble_eq_true rfl⟩ ?_
            refine o_istore hx hb dX6_factor_72 hl (by decide) rfl (fun ls hl => ?_)
            refine o_aload hx hb dX6_factor_74 hl rfl ?_
            refine o_iload_n hx hb dX6_factor_76 hl rfl ?_
            refine o_iload_n hx hb dX6_factor_77 hl rfl ?_
            refine k_X3_tellFactor hC hS hG ⟨by omega, by omega⟩ ml_X6_247 ⟨Nat.le_of_ble_eq_true rfl, Nat.le_of_ble_eq_true rfl⟩ hl.1 (Nat.le_of_ble_eq_true rfl) dX6_factor_78 ⟨Nat.le_of_ble_eq_true rfl, Nat.le_of_ble_eq_true rfl⟩ (fun H locs hG hS => ?_)
            refine o_iload hx hb dX6_factor_81 hl rfl ?_
            refine vx_ret ?_
            exact R_I hC hS hr hlk rfl (⟨(by simp only [cd_factor, z2]; exact (cif_t ⟨ix_nI h2_0, h10⟩).trans ((cif_t ⟨Int32.not_lt.mp h29, h35⟩).trans (cif_t h53))), (by rw [z2, z26]), (by simp only [up_factor, z2, z26]; exact hG)⟩) (Nat.le_of_ble_eq_true rfl) (Nat.le_of_ble_eq_true rfl) dX6_factor_83
          · skip
            exact thr_UO hC hfl hS hG hex hlk hl.1 (si := 26) rfl dX6_factor_56 dX6_factor_59 dX6_factor_60 dX6_factor_62 dX6_factor_65 (Nat.le_of_ble_eq_true rfl) (Nat.le_of_ble_eq_true rfl) (Nat.le_of_ble_eq_true rfl) (Nat.le_of_ble_eq_true rfl) (fun H1 hG1 => ⟨Or.inr (Or.inr (⟨rfl, (by simp only [cd_factor, z2]; exact (cif_t ⟨ix_nI h2_0, h10⟩).trans ((cif_t ⟨Int32.not_lt.mp h29, h35⟩).trans (cif_f h53)))⟩)), hG1⟩) (Nat.le_of_ble_eq_true rfl) (Nat.le_of_ble_eq_true rfl)
        · skip
          exact thr_IA hC hfl hS hG hex hlk hl.1 (si := 25) rfl dX6_factor_38 dX6_factor_41 dX6_factor_42 dX6_factor_44 dX6_factor_47 (Nat.le_of_ble_eq_true rfl) (Nat.le_of_ble_eq_true rfl) (Nat.le_of_ble_eq_true rfl) (Nat.le_of_ble_eq_true rfl) (fun H1 hG1 => ⟨Or.inr (Or.inl (⟨rfl, (by simp only [cd_factor, z2]; exact (cif_t ⟨ix_nI h2_0, h10⟩).trans (cif_f (fun z => by first | exact absurd h29 (Int32.not_lt.mpr z.1) | exact h35 z.2)))⟩)), hG1⟩) (Nat.le_of_ble_eq_true rfl) (Nat.le_of_ble_eq_true rfl)
    · exact absurd h13 (by decide)
  · skip
    refine lv_if_ne (tgt := 26) hx hb dX6_factor_13 (by decide) (fun h13 => ?_) (fun h13 => ?_)
    · exact absurd h13 (by decide)
    · skip
      exact thr_IO hC hfl hS hG hex hlk hl.1 (si := 24) rfl dX6_factor_16 dX6_factor_19 dX6_factor_20 dX6_factor_22 dX6_factor_25 (Nat.le_of_ble_eq_true rfl) (Nat.le_of_ble_eq_true rfl) (Nat.le_of_ble_eq_true rfl) (Nat.le_of_ble_eq_true rfl) (fun H1 hG1 => ⟨Or.inl (⟨rfl, (by simp only [cd_factor, z2]; exact cif_f (fun z => h10 z.2))⟩), hG1⟩) (Nat.le_of_ble_eq_true rfl) (Nat.le_of_ble_eq_true rfl)
theorem k_X6_factor {p : Program} {l : Launch} {e : Env} {R : Room} {s : State} {m : MethodId} {args : Array Value} {below : List Frame} {meth : Method} {c : Code} {H : Heap} {locs : List Loc} {cells slots : Nat} {cc : ByteArray} {pc nL : Nat} {ls : Array Slot} {rest : List Value} {own : String} {D : va_G} {cy : Nat → ClassId} {sa : Nat → Nat} {de B : Nat} {ad : Ad} {S : St} {n : Nat → Nat} {T : St} {k : Nat → Nat} {th : Int32} {X : Rl} {x y z : Int32} {mcc mss : Nat} {Qc : Array Value → State → Outcome → State → Prop} {GX : String → Heap → Prop} (hfl : l.stackTraces = false)  (hC : Cx p m c cc nL s args own D cy sa de B) (hS : va_S (AB B) s.heap H locs) (hG : GW D B ad (Vw cy de ad S n T k th X) H) (h0 : CI S n)  {idx : Nat} (wl : Cond.methodLink own idx yX6_factor ∈ G0) (hR : 7 + 1 ≤ R.frames ∧ 8 + (6 + 11) + 103 ≤ R.locals) (hsz : ls.size = nL) (hst : (rest.map fun v => v.category).sum ≤ 8) (hdg : decode cc pc = .ok (.invokevirtual idx, 3)) (hcs : cells + 2 ≤ R.cells ∧ slots + 12 ≤ R.slots) (hex : ∀ x ∈ c.exceptionTable.toList, False) (hlk : meth.locks = false) (hmc : cells + 2 ≤ mcc) (hms : slots + 12 ≤ mss) (hxx : ∀ (E : String) (H1 : Heap), ((fun E H => ((E = "java/lang/IndexOutOfBoundsException" ∧ cd_factor S n x y z = 1) ∨ (E = "java/lang/IllegalArgumentException" ∧ cd_factor S n x y z = 2) ∨ (E = "java/lang/UnsupportedOperationException" ∧ cd_factor S n x y z = 3)) ∧ GW D B ad (Vw cy de ad S n T k th X) H)) E H1 → GX E H1) (k0 : (cd_factor S n x y z = 0) → ∀ (H1 : Heap) (locs1 : List Loc), GW D B ad (Vw cy de ad (up_factor S x y z) n T k th X) H1 → va_S (AB B) s.heap H1 locs1 → W p l e R s m args below meth c H1 locs1 (cells + 2) (slots + 12) (vx_MQ below Qc (oX B GX) args s mcc mss (AB B)) (F0 m (pc + 3) ls (.int (S 17 (ci x) (ci y)) :: rest))) : W p l e R s m args below meth c H locs cells slots (vx_MQ below Qc (oX B GX) args s mcc mss (AB B)) (F0 m pc ls (.int z :: .int y :: .int x :: .ref (ad 0 0 0) :: rest)) :=
  vx_calli (xV hC hS hG h0 (As := [.int x, .int y, .int z]) (c_X6_factor l hfl) ⟨rfl, rfl⟩ wl im_X6_factor sl_X6_X6_factor in_X6 cd_X6_factor (n := 3) (by decide +kernel) hR (recv hC hG (q := (RX6, TX6, 6)) rfl V_games) rfl hsz hst rfl hdg hcs) hS (fun _ _ h => h) (fun _ h => h) (fun _ _ h => h) (fun E ce q9 u t H1 locs1 ht hv hp hB hz hq hS1 hce hcv hcl => prop_out hS1 hex hlk (hxx E H1 (by dsimp only at hB; rw [ht] at hB; exact hB)) hce hcv hcl hmc hms) (fun r u t H1 locs1 ht _ hr hB _ _ hS1 => by
      subst hr
      have hB9 := hB; try dsimp only at hB9
      rw [ht] at hB9
      rcases hB9 with ⟨q0, rfl, hG1⟩
      · exact k0 q0 _ _ hG1 hS1)
set_option maxHeartbeats 4000000 in
set_option maxRecDepth 100000 in
theorem c_X6_begin (l : Launch) (hfl : l.stackTraces = false) {D : va_G} {cy : Nat → ClassId} {sa : Nat → Nat} {de B : Nat} {ad : Ad} {S : St} {n : Nat → Nat} {T : St} {k : Nat → Nat} {th : Int32} {X : Rl} {x : Int32}  : vx_Met l yX6_begin (Cond.code yX6_begin cX6_begin 4 (Option.some Jvm.ClassFile.FieldType.int) :: G0) ({ frames := 7, cells := 2, slots := 12, locals := 103 } : Room) (va_Pc [.ref (ad 0 0 0), .int x] (PW D cy sa de B ad (Vw cy de ad S n T k th X) (CI S n))) (oI B (fun r H => (cd_begin S n x = 0 ∧ r = (cnt (stP S (ci x)) 16) ∧ GW D B ad (Vw cy de ad (up3 S 18 (ci x) 0 1) n T k th X) H))) (oX B (fun E H => ((E = "java/lang/IndexOutOfBoundsException" ∧ cd_begin S n x = 1) ∨ (E = "java/lang/UnsupportedOperationException" ∧ cd_begin S n x = 2)) ∧ GW D B ad (Vw cy de ad S n T k th X) H)) 2 12 (AB B) := by
  refine E_vx (own := RX6) rfl rfl (Nat.le_of_ble_eq_true rfl) ?_
  intro p e s m below meth c hC hr hlk hex hG h0 ls hl
  have hx := hC.x
  have hb := hC.b
  have hS : va_S (AB B) s.heap s.heap [] := va_S.rf
  have hl : lo ls 4 [some (.ref (ad 0 0 0)), some (.int x), none, none] := lo_of hl
  obtain ⟨hW, hNE, hCH, hBL⟩ := h0
  have hW9 := hW
  obtain ⟨hB0, hB1, hB2, hB3, hB4, hB5, hB6, hB7, hKI, hEI, hKY⟩ := hW9
  
  refine o_aload_n hx hb dX6_begin_0 hl rfl ?_
  refine o_iload_n hx hb dX6_begin_1 hl rfl ?_
  refine k_X6_needEvent hfl hC hS hG hW ml_X6_224 ⟨Nat.le_of_ble_eq_true rfl, Nat.le_of_ble_eq_true rfl⟩ hl.1 (Nat.le_of_ble_eq_true rfl) dX6_begin_2 ⟨Nat.le_of_ble_eq_true rfl, Nat.le_of_ble_eq_true rfl⟩ hex hlk (Nat.le_of_ble_eq_true rfl) (Nat.le_of_ble_eq_true rfl) (fun E H1 hE => ⟨Or.inl (⟨hE.1.1, (by simp only [cd_begin]; exact cif_f hE.1.2)⟩), hE.2⟩) (fun a2 h2_0 h2_1 H locs hG hS => ?_)
  subst h2_1
  have z2 : ci (nI a2) = a2 := nI_clamp (by omega)
  refine o_astore_n hx hb dX6_begin_5 hl (by decide) rfl (fun ls hl => ?_)
  refine o_aload_n hx hb dX6_begin_6 hl rfl ?_
  refine k_X3_countNotFallen hC hS hG ⟨by omega, hW, hNE⟩ ml_X6_269 ⟨Nat.le_of_ble_eq_true rfl, Nat.le_of_ble_eq_true rfl⟩ hl.1 (Nat.le_of_ble_eq_true rfl) dX6_begin_7 ⟨Nat.le_of_ble_eq_true rfl, Nat.le_of_ble_eq_true rfl⟩ ?_
  refine o_istore_n hx hb dX6_begin_10 hl (by decide) rfl (fun ls hl => ?_)
  refine o_aload_n hx hb dX6_begin_11 hl rfl ?_
  refine g_get hC hG us_X3 rfl 3 (by decide) fl_X6_239 (V_event (by omega)) rfl dX6_begin_12 ?_
  refine lv_if_ne (tgt := 31) hx hb dX6_begin_15 (by decide) (fun h15 => ?_) (fun h15 => ?_)
  · skip
    exact thrW_UO hC hfl hS hG hex hlk hl.1 (si := 29) rfl dX6_begin_31 dX6_begin_34 dX6_begin_35 dX6_begin_38 dX6_begin_41 (Nat.le_of_ble_eq_true rfl) (Nat.le_of_ble_eq_true rfl) (Nat.le_of_ble_eq_true rfl) (Nat.le_of_ble_eq_true rfl) (fun H1 hG1 => ⟨Or.inr (⟨rfl, (by simp only [cd_begin, z2]; exact (cif_t (ix_nI h2_0)).trans (cif_f (fun z => by first | exact h15 z.1 | exact absurd h20 (Int32.not_lt.mpr z.2.1) | exact h28 z.2.2)))⟩), hG1⟩) (Nat.le_of_ble_eq_true rfl) (Nat.le_of_ble_eq_true rfl)
  · skip
    refine o_iload_n hx hb dX6_begin_18 hl rfl ?_
    refine lv_iconst (v := 3) hx hb dX6_begin_19 (by decide) ?_
    refine lv_icmp_lt (tgt := 31) hx hb dX6_begin_20 (by decide) (fun h20 => ?_) (fun h20 => ?_)
    · skip
      exact thrW_UO hC hfl hS hG hex hlk hl.1 (si := 29) rfl dX6_begin_31 dX6_begin_34 dX6_begin_35 dX6_begin_38 dX6_begin_41 (Nat.le_of_ble_eq_true rfl) (Nat.le_of_ble_eq_true rfl) (Nat.le_of_ble_eq_true rfl) (Nat.le_of_ble_eq_true rfl) (fun H1 hG1 => ⟨Or.inr (⟨rfl, (by simp only [cd_begin, z2]; exact (cif_t (ix_nI h2_0)).trans (cif_f (fun z => by first | exact h15 z.1 | exact absurd h20 (Int32.not_lt.mpr z.2.1) | exact h28 z.2.2)))⟩), hG1⟩) (Nat.le_of_ble_eq_true rfl) (Nat.le_of_ble_eq_true rfl)
    · skip
      refine o_aload_n hx hb dX6_begin_23 hl rfl ?_
      refine k_X3_countLandsNotFallen hC hS hG ⟨by omega, hW, hNE⟩ ml_X6_272 ⟨Nat.le_of_ble_eq_true rfl, Nat.le_of_ble_eq_true rfl⟩ hl.1 (Nat.le_of_ble_eq_true rfl) dX6_begin_24 ⟨Nat.le_of_ble_eq_true rfl, Nat.le_of_ble_eq_true rfl⟩ ?_
      refine lv_iconst (v := 2) hx hb dX6_begin_27 (by decide) ?_
      refine lv_icmp_ge (tgt := 42) hx hb dX6_begin_28 (by decide) (fun h28 => ?_) (fun h28 => ?_)
      · skip
        refine o_aload_n hx hb dX6_begin_42 hl rfl ?_
        refine lv_iconst (v := 1) hx hb dX6_begin_43 (by decide) ?_
        refine g_put hC hG hS us_X3 tyX3_ok nmX3 rfl 3 (by decide) fl_X6_239 rfl (V_event (by omega)) rfl rfl (Nat.le_of_ble_eq_true rfl) (P_event_began (by omega)) dX6_begin_44 (fun H locs hG hS => ?_)
        refine o_iload_n hx hb dX6_begin_47 hl rfl ?_
        refine vx_ret ?_
        exact R_I hC hS hr hlk rfl (⟨(by simp only [cd_begin, z2]; exact (cif_t (ix_nI h2_0)).trans (cif_t ⟨h15, Int32.not_lt.mp h20, h28⟩)), (by rw [z2]), (by rw [z2]; exact hG)⟩) (Nat.le_of_ble_eq_true rfl) (Nat.le_of_ble_eq_true rfl) dX6_begin_48
      · skip
        exact thrW_UO hC hfl hS hG hex hlk hl.1 (si := 29) rfl dX6_begin_31 dX6_begin_34 dX6_begin_35 dX6_begin_38 dX6_begin_41 (Nat.le_of_ble_eq_true rfl) (Nat.le_of_ble_eq_true rfl) (Nat.le_of_ble_eq_true rfl) (Nat.le_of_ble_eq_true rfl) (fun H1 hG1 => ⟨Or.inr (⟨rfl, (by simp only [cd_begin, z2]; exact (cif_t (ix_nI h2_0)).trans (cif_f (fun z => by first | exact h15 z.1 | exact absurd h20 (Int32.not_lt.mpr z.2.1) | exact h28 z.2.2)))⟩), hG1⟩) (Nat.le_of_ble_eq_true rfl) (Nat.le_of_ble_eq_true rfl)
theorem k_X6_begin {p : Program} {l : Launch} {e : Env} {R : Room} {s : State} {m : MethodId} {args : Array Value} {below : List Frame} {meth : Method} {c : Code} {H : Heap} {locs : List Loc} {cells slots : Nat} {cc : ByteArray} {pc nL : Nat} {ls : Array Slot} {rest : List Value} {own : String} {D : va_G} {cy : Nat → ClassId} {sa : Nat → Nat} {de B : Nat} {ad : Ad} {S : St} {n : Nat → Nat} {T : St} {k : Nat → Nat} {th : Int32} {X : Rl} {x : Int32} {mcc mss : Nat} {Qc : Array Value → State → Outcome → State → Prop} {GX : String → Heap → Prop} (hfl : l.stackTraces = false)  (hC : Cx p m c cc nL s args own D cy sa de B) (hS : va_S (AB B) s.heap H locs) (hG : GW D B ad (Vw cy de ad S n T k th X) H) (h0 : CI S n)  {idx : Nat} (wl : Cond.methodLink own idx yX6_begin ∈ G0) (hR : 7 + 1 ≤ R.frames ∧ 8 + (4 + 11) + 103 ≤ R.locals) (hsz : ls.size = nL) (hst : (rest.map fun v => v.category).sum ≤ 8) (hdg : decode cc pc = .ok (.invokevirtual idx, 3)) (hcs : cells + 2 ≤ R.cells ∧ slots + 12 ≤ R.slots) (hex : ∀ x ∈ c.exceptionTable.toList, False) (hlk : meth.locks = false) (hmc : cells + 2 ≤ mcc) (hms : slots + 12 ≤ mss) (hxx : ∀ (E : String) (H1 : Heap), ((fun E H => ((E = "java/lang/IndexOutOfBoundsException" ∧ cd_begin S n x = 1) ∨ (E = "java/lang/UnsupportedOperationException" ∧ cd_begin S n x = 2)) ∧ GW D B ad (Vw cy de ad S n T k th X) H)) E H1 → GX E H1) (k0 : (cd_begin S n x = 0) → ∀ (H1 : Heap) (locs1 : List Loc), GW D B ad (Vw cy de ad (up3 S 18 (ci x) 0 1) n T k th X) H1 → va_S (AB B) s.heap H1 locs1 → W p l e R s m args below meth c H1 locs1 (cells + 2) (slots + 12) (vx_MQ below Qc (oX B GX) args s mcc mss (AB B)) (F0 m (pc + 3) ls (.int (cnt (stP S (ci x)) 16) :: rest))) : W p l e R s m args below meth c H locs cells slots (vx_MQ below Qc (oX B GX) args s mcc mss (AB B)) (F0 m pc ls (.int x :: .ref (ad 0 0 0) :: rest)) :=
  vx_calli (xV hC hS hG h0 (As := [.int x]) (c_X6_begin l hfl) ⟨rfl, rfl⟩ wl im_X6_begin sl_X6_X6_begin in_X6 cd_X6_begin (n := 1) (by decide +kernel) hR (recv hC hG (q := (RX6, TX6, 6)) rfl V_games) rfl hsz hst rfl hdg hcs) hS (fun _ _ h => h) (fun _ h => h) (fun _ _ h => h) (fun E ce q9 u t H1 locs1 ht hv hp hB hz hq hS1 hce hcv hcl => prop_out hS1 hex hlk (hxx E H1 (by dsimp only at hB; rw [ht] at hB; exact hB)) hce hcv hcl hmc hms) (fun r u t H1 locs1 ht _ hr hB _ _ hS1 => by
      subst hr
      have hB9 := hB; try dsimp only at hB9
      rw [ht] at hB9
      rcases hB9 with ⟨q0, rfl, hG1⟩
      · exact k0 q0 _ _ hG1 hS1)
set_option maxHeartbeats 4000000 in
set_option maxRecDepth 100000 in
theorem c_X6_result (l : Launch) (hfl : l.stackTraces = false) {D : va_G} {cy : Nat → ClassId} {sa : Nat → Nat} {de B : Nat} {ad : Ad} {S : St} {n : Nat → Nat} {T : St} {k : Nat → Nat} {th : Int32} {X : Rl} {x y t g : Int32}  : vx_Met l yX6_result (Cond.code yX6_result cX6_result 8 (Option.some Jvm.ClassFile.FieldType.int) :: G0) ({ frames := 7, cells := 3, slots := 18, locals := 103 } : Room) (va_Pc [.ref (ad 0 0 0), .int x, .int y, .int t, .int g] (PW D cy sa de B ad (Vw cy de ad S n T k th X) (CI S n))) (oI B (fun r H => (cd_result S n x y t g = 0 ∧ r = (vl_result S (ci x) (ci y) t g) ∧ GW D B ad (Vw cy de ad (reS S (ci x) (ci y) t g) n T k th X) H))) (oX B (fun E H => ((E = "java/lang/IndexOutOfBoundsException" ∧ cd_result S n x y t g = 1) ∨ (E = "java/lang/IllegalArgumentException" ∧ cd_result S n x y t g = 2) ∨ (E = "java/lang/UnsupportedOperationException" ∧ cd_result S n x y t g = 3)) ∧ GW D B ad (Vw cy de ad S n T k th X) H)) 3 18 (AB B) := by
  refine E_vx (own := RX6) rfl rfl (Nat.le_of_ble_eq_true rfl) ?_
  intro p e s m below meth c hC hr hlk hex hG h0 ls hl
  have hx := hC.x
  have hb := hC.b
  have hS : va_S (AB B) s.heap s.heap [] := va_S.rf
  have hl : lo ls 8 [some (.ref (ad 0 0 0)), some (.int x), some (.int y), some (.int t), some (.int g), none, none, none] := lo_of hl
  obtain ⟨hW, hNE, hCH, hBL⟩ := h0
  have hW9 := hW
  obtain ⟨hB0, hB1, hB2, hB3, hB4, hB5, hB6, hB7, hKI, hEI, hKY⟩ := hW9
  
  refine o_aload_n hx hb dX6_result_0 hl rfl ?_
  refine o_iload_n hx hb dX6_result_1 hl rfl ?_
  refine k_X6_needEvent hfl hC hS hG hW ml_X6_224 ⟨Nat.le_of_ble_eq_true rfl, Nat.le_of_ble_eq_true rfl⟩ hl.1 (Nat.le_of_ble_eq_true rfl) dX6_result_2 ⟨Nat.le_of_ble_eq_true rfl, Nat.le_of_ble_eq_true rfl⟩ hex hlk (Nat.le_of_ble_eq_true rfl) (Nat.le_of_ble_eq_true rfl) (fun E H1 hE => ⟨Or.inl (⟨hE.1.1, (by simp only [cd_result]; exact cif_f (fun z => hE.1.2 z.1))⟩), hE.2⟩) (fun a2 h2_0 h2_1 H locs hG hS => ?_)
  subst h2_1
  have z2 : ci (nI a2) = a2 := nI_clamp (by omega)
  refine o_astore hx hb dX6_result_5 hl (by decide) rfl (fun ls hl => ?_)
  refine o_aload hx hb dX6_result_7 hl rfl ?_
  refine o_aload_n hx hb dX6_result_9 hl rfl ?_
  refine o_iload_n hx hb dX6_result_10 hl rfl ?_
  refine k_X6_needAthlete hfl hC hS hG hW ml_X6_53 ⟨Nat.le_of_ble_eq_true rfl, Nat.le_of_ble_eq_true rfl⟩ hl.1 (Nat.le_of_ble_eq_true rfl) dX6_result_11 ⟨Nat.le_of_ble_eq_true rfl, Nat.le_of_ble_eq_true rfl⟩ hex hlk (Nat.le_of_ble_eq_true rfl) (Nat.le_of_ble_eq_true rfl) (fun E H1 hE => ⟨Or.inl (⟨hE.1.1, (by simp only [cd_result]; exact cif_f (fun z => hE.1.2 z.2))⟩), hE.2⟩) (fun a11 h11_0 h11_1 H locs hG hS => ?_)
  subst h11_1
  have z11 : ci (nI a11) = a11 := nI_clamp (by omega)
  refine k_X3_entryOf hC hS hG ⟨by omega, by omega, hW⟩ ml_X6_250 ⟨Nat.le_of_ble_eq_true rfl, Nat.le_of_ble_eq_true rfl⟩ hl.1 (Nat.le_of_ble_eq_true rfl) dX6_result_14 ⟨Nat.le_of_ble_eq_true rfl, Nat.le_of_ble_eq_true rfl⟩ (fun h14_0 => ?_) (fun q14 h14_0 h14_1 h14_2 => ?_)
  · skip
    refine o_astoreq (x := none) hx hb dX6_result_17 hl (by decide) rfl (fun ls hl => ?_)
    refine o_aloadq (x := none) hx hb dX6_result_19 hl rfl ?_
    refine lv_ifnullN (tgt := 40) hx hb dX6_result_21 (by decide) ?_
    have hg : ¬ gdP S a2 a11 := by first | exact fun z => z.1 h14_0 | exact fun z => h33 (by have z2 := z.2; rwa [h14_1, show ci (nI q14) = q14 from nI_clamp (by omega)] at z2)
    refine lv_iconst (v := 0) hx hb dX6_result_40 (by decide) ?_
    refine o_istore hx hb dX6_result_41 hl (by decide) rfl (fun ls hl => ?_)
    refine o_iload_n hx hb dX6_result_43 hl rfl ?_
    refine k_X6_isTime hC hS hG trivial ml_X6_281 ⟨Nat.le_of_ble_eq_true rfl, Nat.le_of_ble_eq_true rfl⟩ hl.1 (Nat.le_of_ble_eq_true rfl) dX6_result_44 ⟨Nat.le_of_ble_eq_true rfl, Nat.le_of_ble_eq_true rfl⟩ (fun h44 => ?_) (fun h44 => ?_)
    · skip
      refine lv_if_eq (tgt := 63) hx hb dX6_result_47 (by decide) (fun h47 => ?_) (fun h47 => ?_)
      · exact absurd h47 (by decide)
      · skip
        refine o_iload hx hb dX6_result_50 hl rfl ?_
        refine lv_if_eq (tgt := 74) hx hb dX6_result_52 (by decide) (fun h52 => ?_) (fun h52 => ?_)
        · skip
          refine o_aload hx hb dX6_result_74 hl rfl ?_
          refine g_get hC hG us_X3 rfl 3 (by decide) fl_X6_239 (V_event (by omega)) rfl dX6_result_76 ?_
          refine lv_if_eq (tgt := 111) hx hb dX6_result_79 (by decide) (fun h79 => ?_) (fun h79 => ?_)
          · skip
            exact thrW_UO hC hfl hS hG hex hlk hl.1 (si := 31) rfl dX6_result_111 dX6_result_114 dX6_result_115 dX6_result_118 dX6_result_121 (Nat.le_of_ble_eq_true rfl) (Nat.le_of_ble_eq_true rfl) (Nat.le_of_ble_eq_true rfl) (Nat.le_of_ble_eq_true rfl) (fun H1 hG1 => ⟨Or.inr (Or.inr (⟨rfl, (by simp only [cd_result, z2, z11]; exact (cif_t ⟨ix_nI h2_0, ix_nI h11_0⟩).trans ((cif_t ⟨h44, by first | exact fun z => absurd z hg | exact fun _ => h57⟩).trans (cif_f (fun z => by first | exact z.1 h79 | exact h87 z.2.1 | exact z.2.2.1.1 h14_0 | exact h100 z.2.2.1.2 | exact z.2.2.2 h105))))⟩)), hG1⟩) (Nat.le_of_ble_eq_true rfl) (Nat.le_of_ble_eq_true rfl)
          · skip
            refine o_aload hx hb dX6_result_82 hl rfl ?_
            refine g_get hC hG us_X3 rfl 4 (by decide) fl_X6_286 (V_event (by omega)) rfl dX6_result_84 ?_
            refine lv_if_ne (tgt := 111) hx hb dX6_result_87 (by decide) (fun h87 => ?_) (fun h87 => ?_)
            · skip
              exact thrW_UO hC hfl hS hG hex hlk hl.1 (si := 31) rfl dX6_result_111 dX6_result_114 dX6_result_115 dX6_result_118 dX6_result_121 (Nat.le_of_ble_eq_true rfl) (Nat.le_of_ble_eq_true rfl) (Nat.le_of_ble_eq_true rfl) (Nat.le_of_ble_eq_true rfl) (fun H1 hG1 => ⟨Or.inr (Or.inr (⟨rfl, (by simp only [cd_result, z2, z11]; exact (cif_t ⟨ix_nI h2_0, ix_nI h11_0⟩).trans ((cif_t ⟨h44, by first | exact fun z => absurd z hg | exact fun _ => h57⟩).trans (cif_f (fun z => by first | exact z.1 h79 | exact h87 z.2.1 | exact z.2.2.1.1 h14_0 | exact h100 z.2.2.1.2 | exact z.2.2.2 h105))))⟩)), hG1⟩) (Nat.le_of_ble_eq_true rfl) (Nat.le_of_ble_eq_true rfl)
            · skip
              refine o_aloadq (x := none) hx hb dX6_result_90 hl rfl ?_
              refine lv_ifnullN (tgt := 111) hx hb dX6_result_92 (by decide) ?_
              exact thrW_UO hC hfl hS hG hex hlk hl.1 (si := 31) rfl dX6_result_111 dX6_result_114 dX6_result_115 dX6_result_118 dX6_result_121 (Nat.le_of_ble_eq_true rfl) (Nat.le_of_ble_eq_true rfl) (Nat.le_of_ble_eq_true rfl) (Nat.le_of_ble_eq_true rfl) (fun H1 hG1 => ⟨Or.inr (Or.inr (⟨rfl, (by simp only [cd_result, z2, z11]; exact (cif_t ⟨ix_nI h2_0, ix_nI h11_0⟩).trans ((cif_t ⟨h44, by first | exact fun z => absurd z hg | exact fun _ => h57⟩).trans (cif_f (fun z => by first | exact z.1 h79 | exact h87 z.2.1 | exact z.2.2.1.1 h14_0 | exact h100 z.2.2.1.2 | exact z.2.2.2 h105))))⟩)), hG1⟩) (Nat.le_of_ble_eq_true rfl) (Nat.le_of_ble_eq_true rfl)
        · exact absurd h52 (by decide)
    · skip
      refine lv_if_eq (tgt := 63) hx hb dX6_result_47 (by decide) (fun h47 => ?_) (fun h47 => ?_)
      · skip
        exact thrW_IA hC hfl hS hG hex hlk hl.1 (si := 30) rfl dX6_result_63 dX6_result_66 dX6_result_67 dX6_result_70 dX6_result_73 (Nat.le_of_ble_eq_true rfl) (Nat.le_of_ble_eq_true rfl) (Nat.le_of_ble_eq_true rfl) (Nat.le_of_ble_eq_true rfl) (fun H1 hG1 => ⟨Or.inr (Or.inl (⟨rfl, (by simp only [cd_result, z2, z11]; exact (cif_t ⟨ix_nI h2_0, ix_nI h11_0⟩).trans (cif_f (fun z => by first | exact h44 z.1 | exact h57 (z.2 hg))))⟩)), hG1⟩) (Nat.le_of_ble_eq_true rfl) (Nat.le_of_ble_eq_true rfl)
      · exact absurd h47 (by decide)
  · skip
    refine o_astore hx hb dX6_result_17 hl (by decide) rfl (fun ls hl => ?_)
    refine o_aload hx hb dX6_result_19 hl rfl ?_
    refine lv_ifnull hx hb dX6_result_21 ?_
    refine o_aload hx hb dX6_result_24 hl rfl ?_
    refine g_get hC hG us_X2 rfl 1 (by decide) fl_X6_277 (V_ent (by omega) (by omega) (by assumption)) rfl dX6_result_26 ?_
    rw [kro_ref (show _ = nI q14 by exact h14_1) (by omega)]
    refine g_get hC hG us_X4 rfl 1 (by decide) fl_X6_278 (V_kind (by omega)) rfl dX6_result_29 ?_
    refine lv_iconst (v := 4) hx hb dX6_result_32 (by decide) ?_
    refine lv_icmp_ne (tgt := 40) hx hb dX6_result_33 (by decide) (fun h33 => ?_) (fun h33 => ?_)
    · skip
      have hg : ¬ gdP S a2 a11 := by first | exact fun z => z.1 h14_0 | exact fun z => h33 (by have z2 := z.2; rwa [h14_1, show ci (nI q14) = q14 from nI_clamp (by omega)] at z2)
      refine lv_iconst (v := 0) hx hb dX6_result_40 (by decide) ?_
      refine o_istore hx hb dX6_result_41 hl (by decide) rfl (fun ls hl => ?_)
      refine o_iload_n hx hb dX6_result_43 hl rfl ?_
      refine k_X6_isTime hC hS hG trivial ml_X6_281 ⟨Nat.le_of_ble_eq_true rfl, Nat.le_of_ble_eq_true rfl⟩ hl.1 (Nat.le_of_ble_eq_true rfl) dX6_result_44 ⟨Nat.le_of_ble_eq_true rfl, Nat.le_of_ble_eq_true rfl⟩ (fun h44 => ?_) (fun h44 => ?_)
      · skip
        refine lv_if_eq (tgt := 63) hx hb dX6_result_47 (by decide) (fun h47 => ?_) (fun h47 => ?_)
        · exact absurd h47 (by decide)
        · skip
          refine o_iload hx hb dX6_result_50 hl rfl ?_
          refine lv_if_eq (tgt := 74) hx hb dX6_result_52 (by decide) (fun h52 => ?_) (fun h52 => ?_)
          · skip
            refine o_aload hx hb dX6_result_74 hl rfl ?_
            refine g_get hC hG us_X3 rfl 3 (by decide) fl_X6_239 (V_event (by omega)) rfl dX6_result_76 ?_
            refine lv_if_eq (tgt := 111) hx hb dX6_result_79 (by decide) (fun h79 => ?_) (fun h79 => ?_)
            · skip
              exact thrW_UO hC hfl hS hG hex hlk hl.1 (si := 31) rfl dX6_result_111 dX6_result_114 dX6_result_115 dX6_result_118 dX6_result_121 (Nat.le_of_ble_eq_true rfl) (Nat.le_of_ble_eq_true rfl) (Nat.le_of_ble_eq_true rfl) (Nat.le_of_ble_eq_true rfl) (fun H1 hG1 => ⟨Or.inr (Or.inr (⟨rfl, (by simp only [cd_result, z2, z11]; exact (cif_t ⟨ix_nI h2_0, ix_nI h11_0⟩).trans ((cif_t ⟨h44, by first | exact fun z => absurd z hg | exact fun _ => h57⟩).trans (cif_f (fun z => by first | exact z.1 h79 | exact h87 z.2.1 | exact z.2.2.1.1 h14_0 | exact h100 z.2.2.1.2 | exact z.2.2.2 h105))))⟩)), hG1⟩) (Nat.le_of_ble_eq_true rfl) (Nat.le_of_ble_eq_true rfl)
            · skip
              refine o_aload hx hb dX6_result_82 hl rfl ?_
              refine g_get hC hG us_X3 rfl 4 (by decide) fl_X6_286 (V_event (by omega)) rfl dX6_result_84 ?_
              refine lv_if_ne (tgt := 111) hx hb dX6_result_87 (by decide) (fun h87 => ?_) (fun h87 => ?_)
              · skip
                exact thrW_UO hC hfl hS hG hex hlk hl.1 (si := 31) rfl dX6_result_111 dX6_result_114 dX6_result_115 dX6_result_118 dX6_result_121 (Nat.le_of_ble_eq_true rfl) (Nat.le_of_ble_eq_true rfl) (Nat.le_of_ble_eq_true rfl) (Nat.le_of_ble_eq_true rfl) (fun H1 hG1 => ⟨Or.inr (Or.inr (⟨rfl, (by simp only [cd_result, z2, z11]; exact (cif_t ⟨ix_nI h2_0, ix_nI h11_0⟩).trans ((cif_t ⟨h44, by first | exact fun z => absurd z hg | exact fun _ => h57⟩).trans (cif_f (fun z => by first | exact z.1 h79 | exact h87 z.2.1 | exact z.2.2.1.1 h14_0 | exact h100 z.2.2.1.2 | exact z.2.2.2 h105))))⟩)), hG1⟩) (Nat.le_of_ble_eq_true rfl) (Nat.le_of_ble_eq_true rfl)
              · skip
                refine o_aload hx hb dX6_result_90 hl rfl ?_
                refine lv_ifnull hx hb dX6_result_92 ?_
                refine o_aload hx hb dX6_result_95 hl rfl ?_
                refine g_get hC hG us_X2 rfl 2 (by decide) fl_X6_289 (V_ent (by omega) (by omega) (by assumption)) rfl dX6_result_97 ?_
                refine lv_if_ne (tgt := 111) hx hb dX6_result_100 (by decide) (fun h100 => ?_) (fun h100 => ?_)
                · skip
                  exact thrW_UO hC hfl hS hG hex hlk hl.1 (si := 31) rfl dX6_result_111 dX6_result_114 dX6_result_115 dX6_result_118 dX6_result_121 (Nat.le_of_ble_eq_true rfl) (Nat.le_of_ble_eq_true rfl) (Nat.le_of_ble_eq_true rfl) (Nat.le_of_ble_eq_true rfl) (fun H1 hG1 => ⟨Or.inr (Or.inr (⟨rfl, (by simp only [cd_result, z2, z11]; exact (cif_t ⟨ix_nI h2_0, ix_nI h11_0⟩).trans ((cif_t ⟨h44, by first | exact fun z => absurd z hg | exact fun _ => h57⟩).trans (cif_f (fun z => by first | exact z.1 h79 | exact h87 z.2.1 | exact z.2.2.1.1 h14_0 | exact h100 z.2.2.1.2 | exact z.2.2.2 h105))))⟩)), hG1⟩) (Nat.le_of_ble_eq_true rfl) (Nat.le_of_ble_eq_true rfl)
                · skip
                  refine o_aload hx hb dX6_result_103 hl rfl ?_
                  refine k_X2_hasTime hC hS hG ⟨by omega, by omega, by assumption⟩ ml_X6_292 ⟨Nat.le_of_ble_eq_true rfl, Nat.le_of_ble_eq_true rfl⟩ hl.1 (Nat.le_of_ble_eq_true rfl) dX6_result_105 ⟨Nat.le_of_ble_eq_true rfl, Nat.le_of_ble_eq_true rfl⟩ (fun h105 => ?_) (fun h105 => ?_)
                  · skip
                    refine lv_if_eq (tgt := 122) hx hb dX6_result_108 (by decide) (fun h108 => ?_) (fun h108 => ?_)
                    · exact absurd h108 (by decide)
                    · skip
                      exact thrW_UO hC hfl hS hG hex hlk hl.1 (si := 31) rfl dX6_result_111 dX6_result_114 dX6_result_115 dX6_result_118 dX6_result_121 (Nat.le_of_ble_eq_true rfl) (Nat.le_of_ble_eq_true rfl) (Nat.le_of_ble_eq_true rfl) (Nat.le_of_ble_eq_true rfl) (fun H1 hG1 => ⟨Or.inr (Or.inr (⟨rfl, (by simp only [cd_result, z2, z11]; exact (cif_t ⟨ix_nI h2_0, ix_nI h11_0⟩).trans ((cif_t ⟨h44, by first | exact fun z => absurd z hg | exact fun _ => h57⟩).trans (cif_f (fun z => by first | exact z.1 h79 | exact h87 z.2.1 | exact z.2.2.1.1 h14_0 | exact h100 z.2.2.1.2 | exact z.2.2.2 h105))))⟩)), hG1⟩) (Nat.le_of_ble_eq_true rfl) (Nat.le_of_ble_eq_true rfl)
                  · skip
                    refine lv_if_eq (tgt := 122) hx hb dX6_result_108 (by decide) (fun h108 => ?_) (fun h108 => ?_)
                    · skip
                      refine o_iload hx hb dX6_result_122 hl rfl ?_
                      refine lv_if_eq (tgt := 140) hx hb dX6_result_124 (by decide) (fun h124 => ?_) (fun h124 => ?_)
                      · skip
                        have zq : ci (S 20 a2 a11) = q14 := by rw [h14_1]; exact nI_clamp (by omega)
                        refine o_aload hx hb dX6_result_140 hl rfl ?_
                        refine o_iload_n hx hb dX6_result_142 hl rfl ?_
                        refine o_aload hx hb dX6_result_143 hl rfl ?_
                        refine o_aload hx hb dX6_result_145 hl rfl ?_
                        refine g_get hC hG us_X2 rfl 1 (by decide) fl_X6_277 (V_ent (by omega) (by omega) (by assumption)) rfl dX6_result_147 ?_
                        rw [kro_ref (show _ = nI q14 by exact h14_1) (by omega)]
                        refine g_get hC hG us_X4 rfl 0 (by decide) fl_X6_119 (V_kind (by omega)) rfl dX6_result_150 ?_
                        refine k_X3_factorOf hC hS hG ⟨by omega, by omega⟩ ml_X6_244 ⟨Nat.le_of_ble_eq_true rfl, Nat.le_of_ble_eq_true rfl⟩ hl.1 (Nat.le_of_ble_eq_true rfl) dX6_result_153 ⟨Nat.le_of_ble_eq_true rfl, Nat.le_of_ble_eq_true rfl⟩ ?_
                        refine lv_imul hx hb dX6_result_156 ?_
                        refine lv_bipush (v := 100) hx hb dX6_result_157 (by decide) ?_
                        refine lv_idiv hx hb dX6_result_159 (by decide) ?_
                        refine g_put hC hG hS us_X2 tyX2_ok nmX2 rfl 3 (by decide) fl_X6_300 rfl (V_ent (by omega) (by omega) (by assumption)) rfl rfl (Nat.le_of_ble_eq_true rfl) (P_ent_factoredTime (by omega) (by omega) (by assumption)) dX6_result_160 (fun H locs hG hS => ?_)
                        refine o_aload hx hb dX6_result_163 hl rfl ?_
                        refine g_get hC hG us_X2 rfl 0 (by decide) fl_X6_303 (V_ent (by omega) (by omega) (by assumption)) rfl dX6_result_165 ?_
                        refine g_get hC hG us_X0 rfl 6 (by decide) fl_X6_141 (V_ath (by omega)) rfl dX6_result_168 ?_
                        refine lv_bipush (v := 99) hx hb dX6_result_171 (by decide) ?_
                        refine lv_icmp_ne (tgt := 185) hx hb dX6_result_173 (by decide) (fun h173 => ?_) (fun h173 => ?_)
                        · skip
                          have hG : GW D B ad (Vw cy de ad (rcS S a2 a11 t) n T k th X) H := by first | (rw [rcS_t zq h173]; exact hG) | (rw [rcS_f zq h173]; exact hG)
                          have hng2 : neg (rcS S a2 a11 t 20 a2 a11) = false := by rw [rcS_c (by decide) (by decide)]; exact h14_2
                          refine o_aload hx hb dX6_result_185 hl rfl ?_
                          refine g_get hC hG us_X2 rfl 3 (by decide) fl_X6_300 (V_ent (by omega) (by omega) (by assumption)) rfl dX6_result_187 ?_
                          refine vx_ret ?_
                          exact R_I hC hS hr hlk rfl (⟨(by simp only [cd_result, z2, z11]; exact (cif_t ⟨ix_nI h2_0, ix_nI h11_0⟩).trans ((cif_t ⟨h44, by first | exact fun z => absurd z hg | exact fun _ => h57⟩).trans (cif_t ⟨h79, h87, ⟨by rw [h14_1]; exact nI_ne_m1 (by omega), h100⟩, h105⟩))), (by rw [z2, z11, show vl_result S a2 a11 t g = _ from cif_f (fun z => by first | exact hg z.1 | exact absurd z.2 (Int32.not_lt.mpr h130))]; rw [rcS_22]), (by rw [z2, z11, show reS S a2 a11 t g = _ from cif_f (fun z => by first | exact hg z.1 | exact absurd z.2 (Int32.not_lt.mpr h130))]; exact hG)⟩) (Nat.le_of_ble_eq_true rfl) (Nat.le_of_ble_eq_true rfl) dX6_result_190
                        · skip
                          refine o_aload hx hb dX6_result_176 hl rfl ?_
                          refine g_get hC hG us_X2 rfl 1 (by decide) fl_X6_277 (V_ent (by omega) (by omega) (by assumption)) rfl dX6_result_178 ?_
                          rw [kro_ref (show _ = nI q14 by exact h14_1) (by omega)]
                          refine o_iload_n hx hb dX6_result_181 hl rfl ?_
                          refine k_X4_keepIfRecord hC hS hG (by omega) ml_X6_307 ⟨Nat.le_of_ble_eq_true rfl, Nat.le_of_ble_eq_true rfl⟩ hl.1 (Nat.le_of_ble_eq_true rfl) dX6_result_182 ⟨Nat.le_of_ble_eq_true rfl, Nat.le_of_ble_eq_true rfl⟩ (fun H locs hG hS => ?_)
                          have hG : GW D B ad (Vw cy de ad (rcS S a2 a11 t) n T k th X) H := by first | (rw [rcS_t zq h173]; exact hG) | (rw [rcS_f zq h173]; exact hG)
                          have hng2 : neg (rcS S a2 a11 t 20 a2 a11) = false := by rw [rcS_c (by decide) (by decide)]; exact h14_2
                          refine o_aload hx hb dX6_result_185 hl rfl ?_
                          refine g_get hC hG us_X2 rfl 3 (by decide) fl_X6_300 (V_ent (by omega) (by omega) (by assumption)) rfl dX6_result_187 ?_
                          refine vx_ret ?_
                          exact R_I hC hS hr hlk rfl (⟨(by simp only [cd_result, z2, z11]; exact (cif_t ⟨ix_nI h2_0, ix_nI h11_0⟩).trans ((cif_t ⟨h44, by first | exact fun z => absurd z hg | exact fun _ => h57⟩).trans (cif_t ⟨h79, h87, ⟨by rw [h14_1]; exact nI_ne_m1 (by omega), h100⟩, h105⟩))), (by rw [z2, z11, show vl_result S a2 a11 t g = _ from cif_f (fun z => by first | exact hg z.1 | exact absurd z.2 (Int32.not_lt.mpr h130))]; rw [rcS_22]), (by rw [z2, z11, show reS S a2 a11 t g = _ from cif_f (fun z => by first | exact hg z.1 | exact absurd z.2 (Int32.not_lt.mpr h130))]; exact hG)⟩) (Nat.le_of_ble_eq_true rfl) (Nat.le_of_ble_eq_true rfl) dX6_result_190
                      · exact absurd h124 (by decide)
                    · exact absurd h108 (by decide)
          · exact absurd h52 (by decide)
      · skip
        refine lv_if_eq (tgt := 63) hx hb dX6_result_47 (by decide) (fun h47 => ?_) (fun h47 => ?_)
        · skip
          exact thrW_IA hC hfl hS hG hex hlk hl.1 (si := 30) rfl dX6_result_63 dX6_result_66 dX6_result_67 dX6_result_70 dX6_result_73 (Nat.le_of_ble_eq_true rfl) (Nat.le_of_ble_eq_true rfl) (Nat.le_of_ble_eq_true rfl) (Nat.le_of_ble_eq_true rfl) (fun H1 hG1 => ⟨Or.inr (Or.inl (⟨rfl, (by simp only [cd_result, z2, z11]; exact (cif_t ⟨ix_nI h2_0, ix_nI h11_0⟩).trans (cif_f (fun z => by first | exact h44 z.1 | exact h57 (z.2 hg))))⟩)), hG1⟩) (Nat.le_of_ble_eq_true rfl) (Nat.le_of_ble_eq_true rfl)
        · exact absurd h47 (by decide)
    · skip
      have hg : gdP S a2 a11 := ⟨by rw [h14_1]; exact nI_ne_m1 (by omega), by rw [h14_1, show ci (nI q14) = q14 from nI_clamp (by omega)]; exact h33⟩
      refine lv_iconst (v := 1) hx hb dX6_result_36 (by decide) ?_
      refine lv_goto (tgt := 41) hx hb dX6_result_37 (by decide) ?_
      refine o_istore hx hb dX6_result_41 hl (by decide) rfl (fun ls hl => ?_)
      refine o_iload_n hx hb dX6_result_43 hl rfl ?_
      refine k_X6_isTime hC hS hG trivial ml_X6_281 ⟨Nat.le_of_ble_eq_true rfl, Nat.le_of_ble_eq_true rfl⟩ hl.1 (Nat.le_of_ble_eq_true rfl) dX6_result_44 ⟨Nat.le_of_ble_eq_true rfl, Nat.le_of_ble_eq_true rfl⟩ (fun h44 => ?_) (fun h44 => ?_)
      · skip
        refine lv_if_eq (tgt := 63) hx hb dX6_result_47 (by decide) (fun h47 => ?_) (fun h47 => ?_)
        · exact absurd h47 (by decide)
        · skip
          refine o_iload hx hb dX6_result_50 hl rfl ?_
          refine lv_if_eq (tgt := 74) hx hb dX6_result_52 (by decide) (fun h52 => ?_) (fun h52 => ?_)
          · exact absurd h52 (by decide)
          · skip
            refine o_iload hx hb dX6_result_55 hl rfl ?_
            refine k_X6_isTime hC hS hG trivial ml_X6_281 ⟨Nat.le_of_ble_eq_true rfl, Nat.le_of_ble_eq_true rfl⟩ hl.1 (Nat.le_of_ble_eq_true rfl) dX6_result_57 ⟨Nat.le_of_ble_eq_true rfl, Nat.le_of_ble_eq_true rfl⟩ (fun h57 => ?_) (fun h57 => ?_)
            · skip
              refine lv_if_ne (tgt := 74) hx hb dX6_result_60 (by decide) (fun h60 => ?_) (fun h60 => ?_)
              · skip
                refine o_aload hx hb dX6_result_74 hl rfl ?_
                refine g_get hC hG us_X3 rfl 3 (by decide) fl_X6_239 (V_event (by omega)) rfl dX6_result_76 ?_
                refine lv_if_eq (tgt := 111) hx hb dX6_result_79 (by decide) (fun h79 => ?_) (fun h79 => ?_)
                · skip
                  exact thrW_UO hC hfl hS hG hex hlk hl.1 (si := 31) rfl dX6_result_111 dX6_result_114 dX6_result_115 dX6_result_118 dX6_result_121 (Nat.le_of_ble_eq_true rfl) (Nat.le_of_ble_eq_true rfl) (Nat.le_of_ble_eq_true rfl) (Nat.le_of_ble_eq_true rfl) (fun H1 hG1 => ⟨Or.inr (Or.inr (⟨rfl, (by simp only [cd_result, z2, z11]; exact (cif_t ⟨ix_nI h2_0, ix_nI h11_0⟩).trans ((cif_t ⟨h44, by first | exact fun z => absurd z hg | exact fun _ => h57⟩).trans (cif_f (fun z => by first | exact z.1 h79 | exact h87 z.2.1 | exact z.2.2.1.1 h14_0 | exact h100 z.2.2.1.2 | exact z.2.2.2 h105))))⟩)), hG1⟩) (Nat.le_of_ble_eq_true rfl) (Nat.le_of_ble_eq_true rfl)
                · skip
                  refine o_aload hx hb dX6_result_82 hl rfl ?_
                  refine g_get hC hG us_X3 rfl 4 (by decide) fl_X6_286 (V_event (by omega)) rfl dX6_result_84 ?_
                  refine lv_if_ne (tgt := 111) hx hb dX6_result_87 (by decide) (fun h87 => ?_) (fun h87 => ?_)
                  · skip
                    exact thrW_UO hC hfl hS hG hex hlk hl.1 (si := 31) rfl dX6_result_111 dX6_result_114 dX6_result_115 dX6_result_118 dX6_result_121 (Nat.le_of_ble_eq_true rfl) (Nat.le_of_ble_eq_true rfl) (Nat.le_of_ble_eq_true rfl) (Nat.le_of_ble_eq_true rfl) (fun H1 hG1 => ⟨Or.inr (Or.inr (⟨rfl, (by simp only [cd_result, z2, z11]; exact (cif_t ⟨ix_nI h2_0, ix_nI h11_0⟩).trans ((cif_t ⟨h44, by first | exact fun z => absurd z hg | exact fun _ => h57⟩).trans (cif_f (fun z => by first | exact z.1 h79 | exact h87 z.2.1 | exact z.2.2.1.1 h14_0 | exact h100 z.2.2.1.2 | exact z.2.2.2 h105))))⟩)), hG1⟩) (Nat.le_of_ble_eq_true rfl) (Nat.le_of_ble_eq_true rfl)
                  · skip
                    refine o_aload hx hb dX6_result_90 hl rfl ?_
                    refine lv_ifnull hx hb dX6_result_92 ?_
                    refine o_aload hx hb dX6_result_95 hl rfl ?_
                    refine g_get hC hG us_X2 rfl 2 (by decide) fl_X6_289 (V_ent (by omega) (by omega) (by assumption)) rfl dX6_result_97 ?_
                    refine lv_if_ne (tgt := 111) hx hb dX6_result_100 (by decide) (fun h100 => ?_) (fun h100 => ?_)
                    · skip
                      exact thrW_UO hC hfl hS hG hex hlk hl.1 (si := 31) rfl dX6_result_111 dX6_result_114 dX6_result_115 dX6_result_118 dX6_result_121 (Nat.le_of_ble_eq_true rfl) (Nat.le_of_ble_eq_true rfl) (Nat.le_of_ble_eq_true rfl) (Nat.le_of_ble_eq_true rfl) (fun H1 hG1 => ⟨Or.inr (Or.inr (⟨rfl, (by simp only [cd_result, z2, z11]; exact (cif_t ⟨ix_nI h2_0, ix_nI h11_0⟩).trans ((cif_t ⟨h44, by first | exact fun z => absurd z hg | exact fun _ => h57⟩).trans (cif_f (fun z => by first | exact z.1 h79 | exact h87 z.2.1 | exact z.2.2.1.1 h14_0 | exact h100 z.2.2.1.2 | exact z.2.2.2 h105))))⟩)), hG1⟩) (Nat.le_of_ble_eq_true rfl) (Nat.le_of_ble_eq_true rfl)
                    · skip
                      refine o_aload hx hb dX6_result_103 hl rfl ?_
                      refine k_X2_hasTime hC hS hG ⟨by omega, by omega, by assumption⟩ ml_X6_292 ⟨Nat.le_of_ble_eq_true rfl, Nat.le_of_ble_eq_true rfl⟩ hl.1 (Nat.le_of_ble_eq_true rfl) dX6_result_105 ⟨Nat.le_of_ble_eq_true rfl, Nat.le_of_ble_eq_true rfl⟩ (fun h105 => ?_) (fun h105 => ?_)
                      · skip
                        refine lv_if_eq (tgt := 122) hx hb dX6_result_108 (by decide) (fun h108 => ?_) (fun h108 => ?_)
                        · exact absurd h108 (by decide)
                        · skip
                          exact thrW_UO hC hfl hS hG hex hlk hl.1 (si := 31) rfl dX6_result_111 dX6_result_114 dX6_result_115 dX6_result_118 dX6_result_121 (Nat.le_of_ble_eq_true rfl) (Nat.le_of_ble_eq_true rfl) (Nat.le_of_ble_eq_true rfl) (Nat.le_of_ble_eq_true rfl) (fun H1 hG1 => ⟨Or.inr (Or.inr (⟨rfl, (by simp only [cd_result, z2, z11]; exact (cif_t ⟨ix_nI h2_0, ix_nI h11_0⟩).trans ((cif_t ⟨h44, by first | exact fun z => absurd z hg | exact fun _ => h57⟩).trans (cif_f (fun z => by first | exact z.1 h79 | exact h87 z.2.1 | exact z.2.2.1.1 h14_0 | exact h100 z.2.2.1.2 | exact z.2.2.2 h105))))⟩)), hG1⟩) (Nat.le_of_ble_eq_true rfl) (Nat.le_of_ble_eq_true rfl)
                      · skip
                        refine lv_if_eq (tgt := 122) hx hb dX6_result_108 (by decide) (fun h108 => ?_) (fun h108 => ?_)
                        · skip
                          refine o_iload hx hb dX6_result_122 hl rfl ?_
                          refine lv_if_eq (tgt := 140) hx hb dX6_result_124 (by decide) (fun h124 => ?_) (fun h124 => ?_)
                          · exact absurd h124 (by decide)
                          · skip
                            refine o_iload hx hb dX6_result_127 hl rfl ?_
                            refine o_iload_n hx hb dX6_result_129 hl rfl ?_
                            refine lv_icmp_ge (tgt := 140) hx hb dX6_result_130 (by decide) (fun h130 => ?_) (fun h130 => ?_)
                            · skip
                              have zq : ci (S 20 a2 a11) = q14 := by rw [h14_1]; exact nI_clamp (by omega)
                              refine o_aload hx hb dX6_result_140 hl rfl ?_
                              refine o_iload_n hx hb dX6_result_142 hl rfl ?_
                              refine o_aload hx hb dX6_result_143 hl rfl ?_
                              refine o_aload hx hb dX6_result_145 hl rfl ?_
                              refine g_get hC hG us_X2 rfl 1 (by decide) fl_X6_277 (V_ent (by omega) (by omega) (by assumption)) rfl dX6_result_147 ?_
                              rw [kro_ref (show _ = nI q14 by exact h14_1) (by omega)]
                              refine g_get hC hG us_X4 rfl 0 (by decide) fl_X6_119 (V_kind (by omega)) rfl dX6_result_150 ?_
                              refine k_X3_factorOf hC hS hG ⟨by omega, by omega⟩ ml_X6_244 ⟨Nat.le_of_ble_eq_true rfl, Nat.le_of_ble_eq_true rfl⟩ hl.1 (Nat.le_of_ble_eq_true rfl) dX6_result_153 ⟨Nat.le_of_ble_eq_true rfl, Nat.le_of_ble_eq_true rfl⟩ ?_
                              refine lv_imul hx hb dX6_result_156 ?_
                              refine lv_bipush (v := 100) hx hb dX6_result_157 (by decide) ?_
                              refine lv_idiv hx hb dX6_result_159 (by decide) ?_
                              refine g_put hC hG hS us_X2 tyX2_ok nmX2 rfl 3 (by decide) fl_X6_300 rfl (V_ent (by omega) (by omega) (by assumption)) rfl rfl (Nat.le_of_ble_eq_true rfl) (P_ent_factoredTime (by omega) (by omega) (by assumption)) dX6_result_160 (fun H locs hG hS => ?_)
                              refine o_aload hx hb dX6_result_163 hl rfl ?_
                              refine g_get hC hG us_X2 rfl 0 (by decide) fl_X6_303 (V_ent (by omega) (by omega) (by assumption)) rfl dX6_result_165 ?_
                              refine g_get hC hG us_X0 rfl 6 (by decide) fl_X6_141 (V_ath (by omega)) rfl dX6_result_168 ?_
                              refine lv_bipush (v := 99) hx hb dX6_result_171 (by decide) ?_
                              refine lv_icmp_ne (tgt := 185) hx hb dX6_result_173 (by decide) (fun h173 => ?_) (fun h173 => ?_)
                              · skip
                                have hG : GW D B ad (Vw cy de ad (rcS S a2 a11 t) n T k th X) H := by first | (rw [rcS_t zq h173]; exact hG) | (rw [rcS_f zq h173]; exact hG)
                                have hng2 : neg (rcS S a2 a11 t 20 a2 a11) = false := by rw [rcS_c (by decide) (by decide)]; exact h14_2
                                refine o_aload hx hb dX6_result_185 hl rfl ?_
                                refine g_get hC hG us_X2 rfl 3 (by decide) fl_X6_300 (V_ent (by omega) (by omega) (by assumption)) rfl dX6_result_187 ?_
                                refine vx_ret ?_
                                exact R_I hC hS hr hlk rfl (⟨(by simp only [cd_result, z2, z11]; exact (cif_t ⟨ix_nI h2_0, ix_nI h11_0⟩).trans ((cif_t ⟨h44, by first | exact fun z => absurd z hg | exact fun _ => h57⟩).trans (cif_t ⟨h79, h87, ⟨by rw [h14_1]; exact nI_ne_m1 (by omega), h100⟩, h105⟩))), (by rw [z2, z11, show vl_result S a2 a11 t g = _ from cif_f (fun z => by first | exact hg z.1 | exact absurd z.2 (Int32.not_lt.mpr h130))]; rw [rcS_22]), (by rw [z2, z11, show reS S a2 a11 t g = _ from cif_f (fun z => by first | exact hg z.1 | exact absurd z.2 (Int32.not_lt.mpr h130))]; exact hG)⟩) (Nat.le_of_ble_eq_true rfl) (Nat.le_of_ble_eq_true rfl) dX6_result_190
                              · skip
                                refine o_aload hx hb dX6_result_176 hl rfl ?_
                                refine g_get hC hG us_X2 rfl 1 (by decide) fl_X6_277 (V_ent (by omega) (by omega) (by assumption)) rfl dX6_result_178 ?_
                                rw [kro_ref (show _ = nI q14 by exact h14_1) (by omega)]
                                refine o_iload_n hx hb dX6_result_181 hl rfl ?_
                                refine k_X4_keepIfRecord hC hS hG (by omega) ml_X6_307 ⟨Nat.le_of_ble_eq_true rfl, Nat.le_of_ble_eq_true rfl⟩ hl.1 (Nat.le_of_ble_eq_true rfl) dX6_result_182 ⟨Nat.le_of_ble_eq_true rfl, Nat.le_of_ble_eq_true rfl⟩ (fun H locs hG hS => ?_)
                                have hG : GW D B ad (Vw cy de ad (rcS S a2 a11 t) n T k th X) H := by first | (rw [rcS_t zq h173]; exact hG) | (rw [rcS_f zq h173]; exact hG)
                                have hng2 : neg (rcS S a2 a11 t 20 a2 a11) = false := by rw [rcS_c (by decide) (by decide)]; exact h14_2
                                refine o_aload hx hb dX6_result_185 hl rfl ?_
                                refine g_get hC hG us_X2 rfl 3 (by decide) fl_X6_300 (V_ent (by omega) (by omega) (by assumption)) rfl dX6_result_187 ?_
                                refine vx_ret ?_
                                exact R_I hC hS hr hlk rfl (⟨(by simp only [cd_result, z2, z11]; exact (cif_t ⟨ix_nI h2_0, ix_nI h11_0⟩).trans ((cif_t ⟨h44, by first | exact fun z => absurd z hg | exact fun _ => h57⟩).trans (cif_t ⟨h79, h87, ⟨by rw [h14_1]; exact nI_ne_m1 (by omega), h100⟩, h105⟩))), (by rw [z2, z11, show vl_result S a2 a11 t g = _ from cif_f (fun z => by first | exact hg z.1 | exact absurd z.2 (Int32.not_lt.mpr h130))]; rw [rcS_22]), (by rw [z2, z11, show reS S a2 a11 t g = _ from cif_f (fun z => by first | exact hg z.1 | exact absurd z.2 (Int32.not_lt.mpr h130))]; exact hG)⟩) (Nat.le_of_ble_eq_true rfl) (Nat.le_of_ble_eq_true rfl) dX6_result_190
                            · skip
                              refine o_aload hx hb dX6_result_133 hl rfl ?_
                              refine k_X2_fall hC hS hG ⟨by omega, by omega, by assumption⟩ ml_X6_297 ⟨Nat.le_of_ble_eq_true rfl, Nat.le_of_ble_eq_true rfl⟩ hl.1 (Nat.le_of_ble_eq_true rfl) dX6_result_135 ⟨Nat.le_of_ble_eq_true rfl, Nat.le_of_ble_eq_true rfl⟩ (fun H locs hG hS => ?_)
                              refine lv_iconst (v := (-1)) hx hb dX6_result_138 (by decide) ?_
                              refine vx_ret ?_
                              exact R_I hC hS hr hlk rfl (⟨(by simp only [cd_result, z2, z11]; exact (cif_t ⟨ix_nI h2_0, ix_nI h11_0⟩).trans ((cif_t ⟨h44, by first | exact fun z => absurd z hg | exact fun _ => h57⟩).trans (cif_t ⟨h79, h87, ⟨by rw [h14_1]; exact nI_ne_m1 (by omega), h100⟩, h105⟩))), (by rw [z2, z11]; exact (cif_t ⟨hg, Int32.not_le.mp h130⟩).symm), (by rw [z2, z11, show reS S a2 a11 t g = _ from cif_t ⟨hg, Int32.not_le.mp h130⟩]; exact hG)⟩) (Nat.le_of_ble_eq_true rfl) (Nat.le_of_ble_eq_true rfl) dX6_result_139
                        · exact absurd h108 (by decide)
              · exact absurd h60 (by decide)
            · skip
              refine lv_if_ne (tgt := 74) hx hb dX6_result_60 (by decide) (fun h60 => ?_) (fun h60 => ?_)
              · exact absurd h60 (by decide)
              · skip
                exact thrW_IA hC hfl hS hG hex hlk hl.1 (si := 30) rfl dX6_result_63 dX6_result_66 dX6_result_67 dX6_result_70 dX6_result_73 (Nat.le_of_ble_eq_true rfl) (Nat.le_of_ble_eq_true rfl) (Nat.le_of_ble_eq_true rfl) (Nat.le_of_ble_eq_true rfl) (fun H1 hG1 => ⟨Or.inr (Or.inl (⟨rfl, (by simp only [cd_result, z2, z11]; exact (cif_t ⟨ix_nI h2_0, ix_nI h11_0⟩).trans (cif_f (fun z => by first | exact h44 z.1 | exact h57 (z.2 hg))))⟩)), hG1⟩) (Nat.le_of_ble_eq_true rfl) (Nat.le_of_ble_eq_true rfl)
      · skip
        refine lv_if_eq (tgt := 63) hx hb dX6_result_47 (by decide) (fun h47 => ?_) (fun h47 => ?_)
        · skip
          exact thrW_IA hC hfl hS hG hex hlk hl.1 (si := 30) rfl dX6_result_63 dX6_result_66 dX6_result_67 dX6_result_70 dX6_result_73 (Nat.le_of_ble_eq_true rfl) (Nat.le_of_ble_eq_true rfl) (Nat.le_of_ble_eq_true rfl) (Nat.le_of_ble_eq_true rfl) (fun H1 hG1 => ⟨Or.inr (Or.inl (⟨rfl, (by simp only [cd_result, z2, z11]; exact (cif_t ⟨ix_nI h2_0, ix_nI h11_0⟩).trans (cif_f (fun z => by first | exact h44 z.1 | exact h57 (z.2 hg))))⟩)), hG1⟩) (Nat.le_of_ble_eq_true rfl) (Nat.le_of_ble_eq_true rfl)
        · exact absurd h47 (by decide)
theorem k_X6_result {p : Program} {l : Launch} {e : Env} {R : Room} {s : State} {m : MethodId} {args : Array Value} {below : List Frame} {meth : Method} {c : Code} {H : Heap} {locs : List Loc} {cells slots : Nat} {cc : ByteArray} {pc nL : Nat} {ls : Array Slot} {rest : List Value} {own : String} {D : va_G} {cy : Nat → ClassId} {sa : Nat → Nat} {de B : Nat} {ad : Ad} {S : St} {n : Nat → Nat} {T : St} {k : Nat → Nat} {th : Int32} {X : Rl} {x y t g : Int32} {mcc mss : Nat} {Qc : Array Value → State → Outcome → State → Prop} {GX : String → Heap → Prop} (hfl : l.stackTraces = false)  (hC : Cx p m c cc nL s args own D cy sa de B) (hS : va_S (AB B) s.heap H locs) (hG : GW D B ad (Vw cy de ad S n T k th X) H) (h0 : CI S n)  {idx : Nat} (wl : Cond.methodLink own idx yX6_result ∈ G0) (hR : 7 + 1 ≤ R.frames ∧ 8 + (8 + 11) + 103 ≤ R.locals) (hsz : ls.size = nL) (hst : (rest.map fun v => v.category).sum ≤ 8) (hdg : decode cc pc = .ok (.invokevirtual idx, 3)) (hcs : cells + 3 ≤ R.cells ∧ slots + 18 ≤ R.slots) (hex : ∀ x ∈ c.exceptionTable.toList, False) (hlk : meth.locks = false) (hmc : cells + 3 ≤ mcc) (hms : slots + 18 ≤ mss) (hxx : ∀ (E : String) (H1 : Heap), ((fun E H => ((E = "java/lang/IndexOutOfBoundsException" ∧ cd_result S n x y t g = 1) ∨ (E = "java/lang/IllegalArgumentException" ∧ cd_result S n x y t g = 2) ∨ (E = "java/lang/UnsupportedOperationException" ∧ cd_result S n x y t g = 3)) ∧ GW D B ad (Vw cy de ad S n T k th X) H)) E H1 → GX E H1) (k0 : (cd_result S n x y t g = 0) → ∀ (H1 : Heap) (locs1 : List Loc), GW D B ad (Vw cy de ad (reS S (ci x) (ci y) t g) n T k th X) H1 → va_S (AB B) s.heap H1 locs1 → W p l e R s m args below meth c H1 locs1 (cells + 3) (slots + 18) (vx_MQ below Qc (oX B GX) args s mcc mss (AB B)) (F0 m (pc + 3) ls (.int (vl_result S (ci x) (ci y) t g) :: rest))) : W p l e R s m args below meth c H locs cells slots (vx_MQ below Qc (oX B GX) args s mcc mss (AB B)) (F0 m pc ls (.int g :: .int t :: .int y :: .int x :: .ref (ad 0 0 0) :: rest)) :=
  vx_calli (xV hC hS hG h0 (As := [.int x, .int y, .int t, .int g]) (c_X6_result l hfl) ⟨rfl, rfl⟩ wl im_X6_result sl_X6_X6_result in_X6 cd_X6_result (n := 4) (by decide +kernel) hR (recv hC hG (q := (RX6, TX6, 6)) rfl V_games) rfl hsz hst rfl hdg hcs) hS (fun _ _ h => h) (fun _ h => h) (fun _ _ h => h) (fun E ce q9 u t H1 locs1 ht hv hp hB hz hq hS1 hce hcv hcl => prop_out hS1 hex hlk (hxx E H1 (by dsimp only at hB; rw [ht] at hB; exact hB)) hce hcv hcl hmc hms) (fun r u t H1 locs1 ht _ hr hB _ _ hS1 => by
      subst hr
      have hB9 := hB; try dsimp only at hB9
      rw [ht] at hB9
      rcases hB9 with ⟨q0, rfl, hG1⟩
      · exact k0 q0 _ _ hG1 hS1)
set_option maxHeartbeats 4000000 in
set_option maxRecDepth 100000 in
theorem c_X6_fell (l : Launch) (hfl : l.stackTraces = false) {D : va_G} {cy : Nat → ClassId} {sa : Nat → Nat} {de B : Nat} {ad : Ad} {S : St} {n : Nat → Nat} {T : St} {k : Nat → Nat} {th : Int32} {X : Rl} {x y : Int32}  : vx_Met l yX6_fell (Cond.code yX6_fell cX6_fell 3 (Option.some Jvm.ClassFile.FieldType.boolean) :: G0) ({ frames := 8, cells := 3, slots := 18, locals := 126 } : Room) (va_Pc [.ref (ad 0 0 0), .int x, .int y] (PW D cy sa de B ad (Vw cy de ad S n T k th X) (CI S n))) (oI B (fun r H => (cd_ent S n x y = 0 ∧ r = (S 21 (ci x) (ci y)) ∧ GW D B ad (Vw cy de ad S n T k th X) H))) (oX B (fun E H => ((E = "java/lang/IndexOutOfBoundsException" ∧ cd_ent S n x y = 1) ∨ (E = "java/util/NoSuchElementException" ∧ cd_ent S n x y = 2)) ∧ GW D B ad (Vw cy de ad S n T k th X) H)) 3 18 (AB B) := by
  refine E_vx (own := RX6) rfl rfl (Nat.le_of_ble_eq_true rfl) ?_
  intro p e s m below meth c hC hr hlk hex hG h0 ls hl
  have hx := hC.x
  have hb := hC.b
  have hS : va_S (AB B) s.heap s.heap [] := va_S.rf
  have hl : lo ls 3 [some (.ref (ad 0 0 0)), some (.int x), some (.int y)] := lo_of hl
  obtain ⟨hW, hNE, hCH, hBL⟩ := h0
  have hW9 := hW
  obtain ⟨hB0, hB1, hB2, hB3, hB4, hB5, hB6, hB7, hKI, hEI, hKY⟩ := hW9
  
  refine o_aload_n hx hb dX6_fell_0 hl rfl ?_
  refine o_iload_n hx hb dX6_fell_1 hl rfl ?_
  refine o_iload_n hx hb dX6_fell_2 hl rfl ?_
  refine k_X6_needEntry hfl hC hS hG ⟨hW, hNE⟩ ml_X6_310 ⟨Nat.le_of_ble_eq_true rfl, Nat.le_of_ble_eq_true rfl⟩ hl.1 (Nat.le_of_ble_eq_true rfl) dX6_fell_3 ⟨Nat.le_of_ble_eq_true rfl, Nat.le_of_ble_eq_true rfl⟩ hex hlk (Nat.le_of_ble_eq_true rfl) (Nat.le_of_ble_eq_true rfl) (fun E H1 hE => ⟨hE.1.elim (fun h => Or.inl ⟨h.1, by simp only [cd_ent]; exact cif_f h.2⟩) (fun h => Or.inr ⟨h.1, (by obtain ⟨e9, a9, u1, u2, u3, u4, u5⟩ := h.2; subst u2; subst u4; simp only [cd_ent, show ci (nI e9) = e9 from nI_clamp (by omega), show ci (nI a9) = a9 from nI_clamp (by omega)]; exact (cif_t ⟨ix_nI u1, ix_nI u3⟩).trans (cif_f (fun z => z u5)))⟩), hE.2⟩) (fun e3 a3 q3 h3_0 h3_1 h3_2 h3_3 h3_4 h3_5 h3_6 H locs hG hS => ?_)
  subst h3_1
  subst h3_3
  refine g_get hC hG us_X2 rfl 2 (by decide) fl_X6_289 (V_ent (by omega) (by omega) (by assumption)) rfl dX6_fell_6 ?_
  refine vx_ret ?_
  exact R_I hC hS hr hlk (by rcases hBL e3 a3 with z | z <;> rw [z] <;> rfl) (⟨(by simp only [cd_ent, (show ci (nI e3) = e3 from nI_clamp (by omega)), (show ci (nI a3) = a3 from nI_clamp (by omega))]; exact (cif_t ⟨ix_nI h3_0, ix_nI h3_2⟩).trans (cif_t (show ¬ S 20 e3 a3 = -1 by rw [h3_5]; exact nI_ne_m1 (by omega)))), (by rw [(show ci (nI e3) = e3 from nI_clamp (by omega)), (show ci (nI a3) = a3 from nI_clamp (by omega))]), (by exact hG)⟩) (Nat.le_of_ble_eq_true rfl) (Nat.le_of_ble_eq_true rfl) dX6_fell_9
theorem k_X6_fell {p : Program} {l : Launch} {e : Env} {R : Room} {s : State} {m : MethodId} {args : Array Value} {below : List Frame} {meth : Method} {c : Code} {H : Heap} {locs : List Loc} {cells slots : Nat} {cc : ByteArray} {pc nL : Nat} {ls : Array Slot} {rest : List Value} {own : String} {D : va_G} {cy : Nat → ClassId} {sa : Nat → Nat} {de B : Nat} {ad : Ad} {S : St} {n : Nat → Nat} {T : St} {k : Nat → Nat} {th : Int32} {X : Rl} {x y : Int32} {mcc mss : Nat} {Qc : Array Value → State → Outcome → State → Prop} {GX : String → Heap → Prop} (hfl : l.stackTraces = false)  (hC : Cx p m c cc nL s args own D cy sa de B) (hS : va_S (AB B) s.heap H locs) (hG : GW D B ad (Vw cy de ad S n T k th X) H) (h0 : CI S n)  {idx : Nat} (wl : Cond.methodLink own idx yX6_fell ∈ G0) (hR : 8 + 1 ≤ R.frames ∧ 8 + (3 + 11) + 126 ≤ R.locals) (hsz : ls.size = nL) (hst : (rest.map fun v => v.category).sum ≤ 8) (hdg : decode cc pc = .ok (.invokevirtual idx, 3)) (hcs : cells + 3 ≤ R.cells ∧ slots + 18 ≤ R.slots) (hex : ∀ x ∈ c.exceptionTable.toList, False) (hlk : meth.locks = false) (hmc : cells + 3 ≤ mcc) (hms : slots + 18 ≤ mss) (hxx : ∀ (E : String) (H1 : Heap), ((fun E H => ((E = "java/lang/IndexOutOfBoundsException" ∧ cd_ent S n x y = 1) ∨ (E = "java/util/NoSuchElementException" ∧ cd_ent S n x y = 2)) ∧ GW D B ad (Vw cy de ad S n T k th X) H)) E H1 → GX E H1) (k0 : (cd_ent S n x y = 0) → ∀ (H1 : Heap) (locs1 : List Loc), GW D B ad (Vw cy de ad S n T k th X) H1 → va_S (AB B) s.heap H1 locs1 → W p l e R s m args below meth c H1 locs1 (cells + 3) (slots + 18) (vx_MQ below Qc (oX B GX) args s mcc mss (AB B)) (F0 m (pc + 3) ls (.int (S 21 (ci x) (ci y)) :: rest))) : W p l e R s m args below meth c H locs cells slots (vx_MQ below Qc (oX B GX) args s mcc mss (AB B)) (F0 m pc ls (.int y :: .int x :: .ref (ad 0 0 0) :: rest)) :=
  vx_calli (xV hC hS hG h0 (As := [.int x, .int y]) (c_X6_fell l hfl) ⟨rfl, rfl⟩ wl im_X6_fell sl_X6_X6_fell in_X6 cd_X6_fell (n := 2) (by decide +kernel) hR (recv hC hG (q := (RX6, TX6, 6)) rfl V_games) rfl hsz hst rfl hdg hcs) hS (fun _ _ h => h) (fun _ h => h) (fun _ _ h => h) (fun E ce q9 u t H1 locs1 ht hv hp hB hz hq hS1 hce hcv hcl => prop_out hS1 hex hlk (hxx E H1 (by dsimp only at hB; rw [ht] at hB; exact hB)) hce hcv hcl hmc hms) (fun r u t H1 locs1 ht _ hr hB _ _ hS1 => by
      subst hr
      have hB9 := hB; try dsimp only at hB9
      rw [ht] at hB9
      rcases hB9 with ⟨q0, rfl, hG1⟩
      · exact k0 q0 _ _ hG1 hS1)
set_option maxHeartbeats 4000000 in
set_option maxRecDepth 100000 in
theorem c_X6_inClass (l : Launch) (hfl : l.stackTraces = false) {D : va_G} {cy : Nat → ClassId} {sa : Nat → Nat} {de B : Nat} {ad : Ad} {S : St} {n : Nat → Nat} {T : St} {k : Nat → Nat} {th : Int32} {X : Rl} {x y : Int32}  : vx_Met l yX6_inClass (Cond.code yX6_inClass cX6_inClass 3 (Option.some Jvm.ClassFile.FieldType.int) :: G0) ({ frames := 8, cells := 3, slots := 18, locals := 126 } : Room) (va_Pc [.ref (ad 0 0 0), .int x, .int y] (PW D cy sa de B ad (Vw cy de ad S n T k th X) (CI S n))) (oI B (fun r H => (cd_ent S n x y = 0 ∧ r = (S 20 (ci x) (ci y)) ∧ GW D B ad (Vw cy de ad S n T k th X) H))) (oX B (fun E H => ((E = "java/lang/IndexOutOfBoundsException" ∧ cd_ent S n x y = 1) ∨ (E = "java/util/NoSuchElementException" ∧ cd_ent S n x y = 2)) ∧ GW D B ad (Vw cy de ad S n T k th X) H)) 3 18 (AB B) := by
  refine E_vx (own := RX6) rfl rfl (Nat.le_of_ble_eq_true rfl) ?_
  intro p e s m below meth c hC hr hlk hex hG h0 ls hl
  have hx := hC.x
  have hb := hC.b
  have hS : va_S (AB B) s.heap s.heap [] := va_S.rf
  have hl : lo ls 3 [some (.ref (ad 0 0 0)), some (.int x), some (.int y)] := lo_of hl
  obtain ⟨hW, hNE, hCH, hBL⟩ := h0
  have hW9 := hW
  obtain ⟨hB0, hB1, hB2, hB3, hB4, hB5, hB6, hB7, hKI, hEI, hKY⟩ := hW9
  
  refine o_aload_n hx hb dX6_inClass_0 hl rfl ?_
  refine o_iload_n hx hb dX6_inClass_1 hl rfl ?_
  refine o_iload_n hx hb dX6_inClass_2 hl rfl ?_
  refine k_X6_needEntry hfl hC hS hG ⟨hW, hNE⟩ ml_X6_310 ⟨Nat.le_of_ble_eq_true rfl, Nat.le_of_ble_eq_true rfl⟩ hl.1 (Nat.le_of_ble_eq_true rfl) dX6_inClass_3 ⟨Nat.le_of_ble_eq_true rfl, Nat.le_of_ble_eq_true rfl⟩ hex hlk (Nat.le_of_ble_eq_true rfl) (Nat.le_of_ble_eq_true rfl) (fun E H1 hE => ⟨hE.1.elim (fun h => Or.inl ⟨h.1, by simp only [cd_ent]; exact cif_f h.2⟩) (fun h => Or.inr ⟨h.1, (by obtain ⟨e9, a9, u1, u2, u3, u4, u5⟩ := h.2; subst u2; subst u4; simp only [cd_ent, show ci (nI e9) = e9 from nI_clamp (by omega), show ci (nI a9) = a9 from nI_clamp (by omega)]; exact (cif_t ⟨ix_nI u1, ix_nI u3⟩).trans (cif_f (fun z => z u5)))⟩), hE.2⟩) (fun e3 a3 q3 h3_0 h3_1 h3_2 h3_3 h3_4 h3_5 h3_6 H locs hG hS => ?_)
  subst h3_1
  subst h3_3
  refine g_get hC hG us_X2 rfl 1 (by decide) fl_X6_277 (V_ent (by omega) (by omega) (by assumption)) rfl dX6_inClass_6 ?_
  rw [kro_ref (show _ = nI q3 by exact h3_5) (by omega)]
  refine g_get hC hG us_X4 rfl 0 (by decide) fl_X6_119 (V_kind (by omega)) rfl dX6_inClass_9 ?_
  refine vx_ret ?_
  exact R_I hC hS hr hlk rfl (⟨(by simp only [cd_ent, (show ci (nI e3) = e3 from nI_clamp (by omega)), (show ci (nI a3) = a3 from nI_clamp (by omega))]; exact (cif_t ⟨ix_nI h3_0, ix_nI h3_2⟩).trans (cif_t (show ¬ S 20 e3 a3 = -1 by rw [h3_5]; exact nI_ne_m1 (by omega)))), (by rw [(show ci (nI e3) = e3 from nI_clamp (by omega)), (show ci (nI a3) = a3 from nI_clamp (by omega))]; exact h3_5.symm), (by exact hG)⟩) (Nat.le_of_ble_eq_true rfl) (Nat.le_of_ble_eq_true rfl) dX6_inClass_12
theorem k_X6_inClass {p : Program} {l : Launch} {e : Env} {R : Room} {s : State} {m : MethodId} {args : Array Value} {below : List Frame} {meth : Method} {c : Code} {H : Heap} {locs : List Loc} {cells slots : Nat} {cc : ByteArray} {pc nL : Nat} {ls : Array Slot} {rest : List Value} {own : String} {D : va_G} {cy : Nat → ClassId} {sa : Nat → Nat} {de B : Nat} {ad : Ad} {S : St} {n : Nat → Nat} {T : St} {k : Nat → Nat} {th : Int32} {X : Rl} {x y : Int32} {mcc mss : Nat} {Qc : Array Value → State → Outcome → State → Prop} {GX : String → Heap → Prop} (hfl : l.stackTraces = false)  (hC : Cx p m c cc nL s args own D cy sa de B) (hS : va_S (AB B) s.heap H locs) (hG : GW D B ad (Vw cy de ad S n T k th X) H) (h0 : CI S n)  {idx : Nat} (wl : Cond.methodLink own idx yX6_inClass ∈ G0) (hR : 8 + 1 ≤ R.frames ∧ 8 + (3 + 11) + 126 ≤ R.locals) (hsz : ls.size = nL) (hst : (rest.map fun v => v.category).sum ≤ 8) (hdg : decode cc pc = .ok (.invokevirtual idx, 3)) (hcs : cells + 3 ≤ R.cells ∧ slots + 18 ≤ R.slots) (hex : ∀ x ∈ c.exceptionTable.toList, False) (hlk : meth.locks = false) (hmc : cells + 3 ≤ mcc) (hms : slots + 18 ≤ mss) (hxx : ∀ (E : String) (H1 : Heap), ((fun E H => ((E = "java/lang/IndexOutOfBoundsException" ∧ cd_ent S n x y = 1) ∨ (E = "java/util/NoSuchElementException" ∧ cd_ent S n x y = 2)) ∧ GW D B ad (Vw cy de ad S n T k th X) H)) E H1 → GX E H1) (k0 : (cd_ent S n x y = 0) → ∀ (H1 : Heap) (locs1 : List Loc), GW D B ad (Vw cy de ad S n T k th X) H1 → va_S (AB B) s.heap H1 locs1 → W p l e R s m args below meth c H1 locs1 (cells + 3) (slots + 18) (vx_MQ below Qc (oX B GX) args s mcc mss (AB B)) (F0 m (pc + 3) ls (.int (S 20 (ci x) (ci y)) :: rest))) : W p l e R s m args below meth c H locs cells slots (vx_MQ below Qc (oX B GX) args s mcc mss (AB B)) (F0 m pc ls (.int y :: .int x :: .ref (ad 0 0 0) :: rest)) :=
  vx_calli (xV hC hS hG h0 (As := [.int x, .int y]) (c_X6_inClass l hfl) ⟨rfl, rfl⟩ wl im_X6_inClass sl_X6_X6_inClass in_X6 cd_X6_inClass (n := 2) (by decide +kernel) hR (recv hC hG (q := (RX6, TX6, 6)) rfl V_games) rfl hsz hst rfl hdg hcs) hS (fun _ _ h => h) (fun _ h => h) (fun _ _ h => h) (fun E ce q9 u t H1 locs1 ht hv hp hB hz hq hS1 hce hcv hcl => prop_out hS1 hex hlk (hxx E H1 (by dsimp only at hB; rw [ht] at hB; exact hB)) hce hcv hcl hmc hms) (fun r u t H1 locs1 ht _ hr hB _ _ hS1 => by
      subst hr
      have hB9 := hB; try dsimp only at hB9
      rw [ht] at hB9
      rcases hB9 with ⟨q0, rfl, hG1⟩
      · exact k0 q0 _ _ hG1 hS1)
set_option maxHeartbeats 4000000 in
set_option maxRecDepth 100000 in
theorem c_X6_time (l : Launch) (hfl : l.stackTraces = false) {D : va_G} {cy : Nat → ClassId} {sa : Nat → Nat} {de B : Nat} {ad : Ad} {S : St} {n : Nat → Nat} {T : St} {k : Nat → Nat} {th : Int32} {X : Rl} {x y : Int32}  : vx_Met l yX6_time (Cond.code yX6_time cX6_time 3 (Option.some Jvm.ClassFile.FieldType.int) :: G0) ({ frames := 9, cells := 4, slots := 24, locals := 149 } : Room) (va_Pc [.ref (ad 0 0 0), .int x, .int y] (PW D cy sa de B ad (Vw cy de ad S n T k th X) (CI S n))) (oI B (fun r H => (cd_time S n x y = 0 ∧ r = (S 22 (ci x) (ci y)) ∧ GW D B ad (Vw cy de ad S n T k th X) H))) (oX B (fun E H => ((E = "java/lang/IndexOutOfBoundsException" ∧ cd_time S n x y = 1) ∨ (E = "java/util/NoSuchElementException" ∧ cd_time S n x y = 2)) ∧ GW D B ad (Vw cy de ad S n T k th X) H)) 4 24 (AB B) := by
  refine E_vx (own := RX6) rfl rfl (Nat.le_of_ble_eq_true rfl) ?_
  intro p e s m below meth c hC hr hlk hex hG h0 ls hl
  have hx := hC.x
  have hb := hC.b
  have hS : va_S (AB B) s.heap s.heap [] := va_S.rf
  have hl : lo ls 3 [some (.ref (ad 0 0 0)), some (.int x), some (.int y)] := lo_of hl
  obtain ⟨hW, hNE, hCH, hBL⟩ := h0
  have hW9 := hW
  obtain ⟨hB0, hB1, hB2, hB3, hB4, hB5, hB6, hB7, hKI, hEI, hKY⟩ := hW9
  
  refine o_aload_n hx hb dX6_time_0 hl rfl ?_
  refine o_iload_n hx hb dX6_time_1 hl rfl ?_
  refine o_iload_n hx hb dX6_time_2 hl rfl ?_
  refine k_X6_needEntryWithTime hfl hC hS hG ⟨hW, hNE⟩ ml_X6_314 ⟨Nat.le_of_ble_eq_true rfl, Nat.le_of_ble_eq_true rfl⟩ hl.1 (Nat.le_of_ble_eq_true rfl) dX6_time_3 ⟨Nat.le_of_ble_eq_true rfl, Nat.le_of_ble_eq_true rfl⟩ hex hlk (Nat.le_of_ble_eq_true rfl) (Nat.le_of_ble_eq_true rfl) (fun E H1 hE => ⟨hE.1.elim (fun h => Or.inl ⟨h.1, by simp only [cd_time]; exact cif_f h.2⟩) (fun h => Or.inr ⟨h.1, (by obtain ⟨e9, a9, u1, u2, u3, u4, u5⟩ := h.2; subst u2; subst u4; simp only [cd_time, show ci (nI e9) = e9 from nI_clamp (by omega), show ci (nI a9) = a9 from nI_clamp (by omega)]; exact (cif_t ⟨ix_nI u1, ix_nI u3⟩).trans (cif_f u5))⟩), hE.2⟩) (fun e3 a3 q3 h3_0 h3_1 h3_2 h3_3 h3_4 h3_5 h3_6 h3_7 H locs hG hS => ?_)
  subst h3_1
  subst h3_3
  refine g_get hC hG us_X2 rfl 3 (by decide) fl_X6_300 (V_ent (by omega) (by omega) (by assumption)) rfl dX6_time_6 ?_
  refine vx_ret ?_
  exact R_I hC hS hr hlk rfl (⟨(by simp only [cd_time, (show ci (nI e3) = e3 from nI_clamp (by omega)), (show ci (nI a3) = a3 from nI_clamp (by omega))]; exact (cif_t ⟨ix_nI h3_0, ix_nI h3_2⟩).trans (cif_t h3_7)), (by rw [(show ci (nI e3) = e3 from nI_clamp (by omega)), (show ci (nI a3) = a3 from nI_clamp (by omega))]), (by exact hG)⟩) (Nat.le_of_ble_eq_true rfl) (Nat.le_of_ble_eq_true rfl) dX6_time_9
theorem k_X6_time {p : Program} {l : Launch} {e : Env} {R : Room} {s : State} {m : MethodId} {args : Array Value} {below : List Frame} {meth : Method} {c : Code} {H : Heap} {locs : List Loc} {cells slots : Nat} {cc : ByteArray} {pc nL : Nat} {ls : Array Slot} {rest : List Value} {own : String} {D : va_G} {cy : Nat → ClassId} {sa : Nat → Nat} {de B : Nat} {ad : Ad} {S : St} {n : Nat → Nat} {T : St} {k : Nat → Nat} {th : Int32} {X : Rl} {x y : Int32} {mcc mss : Nat} {Qc : Array Value → State → Outcome → State → Prop} {GX : String → Heap → Prop} (hfl : l.stackTraces = false)  (hC : Cx p m c cc nL s args own D cy sa de B) (hS : va_S (AB B) s.heap H locs) (hG : GW D B ad (Vw cy de ad S n T k th X) H) (h0 : CI S n)  {idx : Nat} (wl : Cond.methodLink own idx yX6_time ∈ G0) (hR : 9 + 1 ≤ R.frames ∧ 8 + (3 + 11) + 149 ≤ R.locals) (hsz : ls.size = nL) (hst : (rest.map fun v => v.category).sum ≤ 8) (hdg : decode cc pc = .ok (.invokevirtual idx, 3)) (hcs : cells + 4 ≤ R.cells ∧ slots + 24 ≤ R.slots) (hex : ∀ x ∈ c.exceptionTable.toList, False) (hlk : meth.locks = false) (hmc : cells + 4 ≤ mcc) (hms : slots + 24 ≤ mss) (hxx : ∀ (E : String) (H1 : Heap), ((fun E H => ((E = "java/lang/IndexOutOfBoundsException" ∧ cd_time S n x y = 1) ∨ (E = "java/util/NoSuchElementException" ∧ cd_time S n x y = 2)) ∧ GW D B ad (Vw cy de ad S n T k th X) H)) E H1 → GX E H1) (k0 : (cd_time S n x y = 0) → ∀ (H1 : Heap) (locs1 : List Loc), GW D B ad (Vw cy de ad S n T k th X) H1 → va_S (AB B) s.heap H1 locs1 → W p l e R s m args below meth c H1 locs1 (cells + 4) (slots + 24) (vx_MQ below Qc (oX B GX) args s mcc mss (AB B)) (F0 m (pc + 3) ls (.int (S 22 (ci x) (ci y)) :: rest))) : W p l e R s m args below meth c H locs cells slots (vx_MQ below Qc (oX B GX) args s mcc mss (AB B)) (F0 m pc ls (.int y :: .int x :: .ref (ad 0 0 0) :: rest)) :=
  vx_calli (xV hC hS hG h0 (As := [.int x, .int y]) (c_X6_time l hfl) ⟨rfl, rfl⟩ wl im_X6_time sl_X6_X6_time in_X6 cd_X6_time (n := 2) (by decide +kernel) hR (recv hC hG (q := (RX6, TX6, 6)) rfl V_games) rfl hsz hst rfl hdg hcs) hS (fun _ _ h => h) (fun _ h => h) (fun _ _ h => h) (fun E ce q9 u t H1 locs1 ht hv hp hB hz hq hS1 hce hcv hcl => prop_out hS1 hex hlk (hxx E H1 (by dsimp only at hB; rw [ht] at hB; exact hB)) hce hcv hcl hmc hms) (fun r u t H1 locs1 ht _ hr hB _ _ hS1 => by
      subst hr
      have hB9 := hB; try dsimp only at hB9
      rw [ht] at hB9
      rcases hB9 with ⟨q0, rfl, hG1⟩
      · exact k0 q0 _ _ hG1 hS1)
set_option maxHeartbeats 4000000 in
set_option maxRecDepth 100000 in
theorem c_X6_place (l : Launch) (hfl : l.stackTraces = false) {D : va_G} {cy : Nat → ClassId} {sa : Nat → Nat} {de B : Nat} {ad : Ad} {S : St} {n : Nat → Nat} {T : St} {k : Nat → Nat} {th : Int32} {X : Rl} {x y : Int32}  : vx_Met l yX6_place (Cond.code yX6_place cX6_place 4 (Option.some Jvm.ClassFile.FieldType.int) :: G0) ({ frames := 9, cells := 5, slots := 30, locals := 149 } : Room) (va_Pc [.ref (ad 0 0 0), .int x, .int y] (PW D cy sa de B ad (Vw cy de ad S n T k th X) (CI S n))) (oI B (fun r H => (cd_time S n x y = 0 ∧ r = (cnt (fasP S (ci x) (ci y)) 16 + 1) ∧ GW D B ad (Vw cy de ad S n T k th X) H))) (oX B (fun E H => ((E = "java/lang/IndexOutOfBoundsException" ∧ cd_time S n x y = 1) ∨ (E = "java/util/NoSuchElementException" ∧ cd_time S n x y = 2)) ∧ GW D B ad (Vw cy de ad S n T k th X) H)) 5 30 (AB B) := by
  refine E_vx (own := RX6) rfl rfl (Nat.le_of_ble_eq_true rfl) ?_
  intro p e s m below meth c hC hr hlk hex hG h0 ls hl
  have hx := hC.x
  have hb := hC.b
  have hS : va_S (AB B) s.heap s.heap [] := va_S.rf
  have hl : lo ls 4 [some (.ref (ad 0 0 0)), some (.int x), some (.int y), none] := lo_of hl
  obtain ⟨hW, hNE, hCH, hBL⟩ := h0
  have hW9 := hW
  obtain ⟨hB0, hB1, hB2, hB3, hB4, hB5, hB6, hB7, hKI, hEI, hKY⟩ := hW9
  
  refine o_aload_n hx hb dX6_place_0 hl rfl ?_
  refine o_iload_n hx hb dX6_place_1 hl rfl ?_
  refine o_iload_n hx hb dX6_place_2 hl rfl ?_
  refine k_X6_needEntryWithTime hfl hC hS hG ⟨hW, hNE⟩ ml_X6_314 ⟨Nat.le_of_ble_eq_true rfl, Nat.le_of_ble_eq_true rfl⟩ hl.1 (Nat.le_of_ble_eq_true rfl) dX6_place_3 ⟨Nat.le_of_ble_eq_true rfl, Nat.le_of_ble_eq_true rfl⟩ hex hlk (Nat.le_of_ble_eq_true rfl) (Nat.le_of_ble_eq_true rfl) (fun E H1 hE => ⟨hE.1.elim (fun h => Or.inl ⟨h.1, by simp only [cd_time]; exact cif_f h.2⟩) (fun h => Or.inr ⟨h.1, (by obtain ⟨e9, a9, u1, u2, u3, u4, u5⟩ := h.2; subst u2; subst u4; simp only [cd_time, show ci (nI e9) = e9 from nI_clamp (by omega), show ci (nI a9) = a9 from nI_clamp (by omega)]; exact (cif_t ⟨ix_nI u1, ix_nI u3⟩).trans (cif_f u5))⟩), hE.2⟩) (fun e3 a3 q3 h3_0 h3_1 h3_2 h3_3 h3_4 h3_5 h3_6 h3_7 H locs hG hS => ?_)
  subst h3_1
  subst h3_3
  refine o_astore_n hx hb dX6_place_6 hl (by decide) rfl (fun ls hl => ?_)
  refine o_aload_n hx hb dX6_place_7 hl rfl ?_
  refine o_iload_n hx hb dX6_place_8 hl rfl ?_
  refine k_X6_needEvent hfl hC hS hG hW ml_X6_224 ⟨Nat.le_of_ble_eq_true rfl, Nat.le_of_ble_eq_true rfl⟩ hl.1 (Nat.le_of_ble_eq_true rfl) dX6_place_9 ⟨Nat.le_of_ble_eq_true rfl, Nat.le_of_ble_eq_true rfl⟩ hex hlk (Nat.le_of_ble_eq_true rfl) (Nat.le_of_ble_eq_true rfl) (fun E H1 hE => absurd (ix_nI h3_0) hE.1.2) (fun a9 h9_0 h9_1 H locs hG hS => ?_)
  have h9_2 := (nI_eq (by omega) (by omega)).mp h9_1
  subst h9_2
  refine o_aload_n hx hb dX6_place_12 hl rfl ?_
  refine k_X3_countFaster hC hS hG ⟨by omega, hW, hNE, h3_7⟩ ml_X6_329 ⟨Nat.le_of_ble_eq_true rfl, Nat.le_of_ble_eq_true rfl⟩ hl.1 (Nat.le_of_ble_eq_true rfl) dX6_place_13 ⟨Nat.le_of_ble_eq_true rfl, Nat.le_of_ble_eq_true rfl⟩ ?_
  refine lv_iconst (v := 1) hx hb dX6_place_16 (by decide) ?_
  refine lv_iadd hx hb dX6_place_17 ?_
  refine vx_ret ?_
  exact R_I hC hS hr hlk rfl (⟨(by simp only [cd_time, (show ci (nI e3) = e3 from nI_clamp (by omega)), (show ci (nI a3) = a3 from nI_clamp (by omega))]; exact (cif_t ⟨ix_nI h3_0, ix_nI h3_2⟩).trans (cif_t h3_7)), (by rw [(show ci (nI e3) = e3 from nI_clamp (by omega)), (show ci (nI a3) = a3 from nI_clamp (by omega))]), (by exact hG)⟩) (Nat.le_of_ble_eq_true rfl) (Nat.le_of_ble_eq_true rfl) dX6_place_18
theorem k_X6_place {p : Program} {l : Launch} {e : Env} {R : Room} {s : State} {m : MethodId} {args : Array Value} {below : List Frame} {meth : Method} {c : Code} {H : Heap} {locs : List Loc} {cells slots : Nat} {cc : ByteArray} {pc nL : Nat} {ls : Array Slot} {rest : List Value} {own : String} {D : va_G} {cy : Nat → ClassId} {sa : Nat → Nat} {de B : Nat} {ad : Ad} {S : St} {n : Nat → Nat} {T : St} {k : Nat → Nat} {th : Int32} {X : Rl} {x y : Int32} {mcc mss : Nat} {Qc : Array Value → State → Outcome → State → Prop} {GX : String → Heap → Prop} (hfl : l.stackTraces = false)  (hC : Cx p m c cc nL s args own D cy sa de B) (hS : va_S (AB B) s.heap H locs) (hG : GW D B ad (Vw cy de ad S n T k th X) H) (h0 : CI S n)  {idx : Nat} (wl : Cond.methodLink own idx yX6_place ∈ G0) (hR : 9 + 1 ≤ R.frames ∧ 8 + (4 + 11) + 149 ≤ R.locals) (hsz : ls.size = nL) (hst : (rest.map fun v => v.category).sum ≤ 8) (hdg : decode cc pc = .ok (.invokevirtual idx, 3)) (hcs : cells + 5 ≤ R.cells ∧ slots + 30 ≤ R.slots) (hex : ∀ x ∈ c.exceptionTable.toList, False) (hlk : meth.locks = false) (hmc : cells + 5 ≤ mcc) (hms : slots + 30 ≤ mss) (hxx : ∀ (E : String) (H1 : Heap), ((fun E H => ((E = "java/lang/IndexOutOfBoundsException" ∧ cd_time S n x y = 1) ∨ (E = "java/util/NoSuchElementException" ∧ cd_time S n x y = 2)) ∧ GW D B ad (Vw cy de ad S n T k th X) H)) E H1 → GX E H1) (k0 : (cd_time S n x y = 0) → ∀ (H1 : Heap) (locs1 : List Loc), GW D B ad (Vw cy de ad S n T k th X) H1 → va_S (AB B) s.heap H1 locs1 → W p l e R s m args below meth c H1 locs1 (cells + 5) (slots + 30) (vx_MQ below Qc (oX B GX) args s mcc mss (AB B)) (F0 m (pc + 3) ls (.int (cnt (fasP S (ci x) (ci y)) 16 + 1) :: rest))) : W p l e R s m args below meth c H locs cells slots (vx_MQ below Qc (oX B GX) args s mcc mss (AB B)) (F0 m pc ls (.int y :: .int x :: .ref (ad 0 0 0) :: rest)) :=
  vx_calli (xV hC hS hG h0 (As := [.int x, .int y]) (c_X6_place l hfl) ⟨rfl, rfl⟩ wl im_X6_place sl_X6_X6_place in_X6 cd_X6_place (n := 2) (by decide +kernel) hR (recv hC hG (q := (RX6, TX6, 6)) rfl V_games) rfl hsz hst rfl hdg hcs) hS (fun _ _ h => h) (fun _ h => h) (fun _ _ h => h) (fun E ce q9 u t H1 locs1 ht hv hp hB hz hq hS1 hce hcv hcl => prop_out hS1 hex hlk (hxx E H1 (by dsimp only at hB; rw [ht] at hB; exact hB)) hce hcv hcl hmc hms) (fun r u t H1 locs1 ht _ hr hB _ _ hS1 => by
      subst hr
      have hB9 := hB; try dsimp only at hB9
      rw [ht] at hB9
      rcases hB9 with ⟨q0, rfl, hG1⟩
      · exact k0 q0 _ _ hG1 hS1)
set_option maxHeartbeats 4000000 in
set_option maxRecDepth 100000 in
theorem c_X6_close (l : Launch) (hfl : l.stackTraces = false) {D : va_G} {cy : Nat → ClassId} {sa : Nat → Nat} {de B : Nat} {ad : Ad} {S : St} {n : Nat → Nat} {T : St} {k : Nat → Nat} {th : Int32} {X : Rl} {x : Int32}  : vx_Met l yX6_close (Cond.code yX6_close cX6_close 3 (Option.some Jvm.ClassFile.FieldType.int) :: G0) ({ frames := 7, cells := 2, slots := 12, locals := 103 } : Room) (va_Pc [.ref (ad 0 0 0), .int x] (PW D cy sa de B ad (Vw cy de ad S n T k th X) (CI S n))) (oI B (fun r H => (cd_close S n x = 0 ∧ r = (cnt (timeP S (ci x)) 16) ∧ GW D B ad (Vw cy de ad (up3 S 19 (ci x) 0 1) n T k th X) H))) (oX B (fun E H => ((E = "java/lang/IndexOutOfBoundsException" ∧ cd_close S n x = 1) ∨ (E = "java/lang/UnsupportedOperationException" ∧ cd_close S n x = 2)) ∧ GW D B ad (Vw cy de ad S n T k th X) H)) 2 12 (AB B) := by
  refine E_vx (own := RX6) rfl rfl (Nat.le_of_ble_eq_true rfl) ?_
  intro p e s m below meth c hC hr hlk hex hG h0 ls hl
  have hx := hC.x
  have hb := hC.b
  have hS : va_S (AB B) s.heap s.heap [] := va_S.rf
  have hl : lo ls 3 [some (.ref (ad 0 0 0)), some (.int x), none] := lo_of hl
  obtain ⟨hW, hNE, hCH, hBL⟩ := h0
  have hW9 := hW
  obtain ⟨hB0, hB1, hB2, hB3, hB4, hB5, hB6, hB7, hKI, hEI, hKY⟩ := hW9
  
  refine o_aload_n hx hb dX6_close_0 hl rfl ?_
  refine o_iload_n hx hb dX6_close_1 hl rfl ?_
  refine k_X6_needEvent hfl hC hS hG hW ml_X6_224 ⟨Nat.le_of_ble_eq_true rfl, Nat.le_of_ble_eq_true rfl⟩ hl.1 (Nat.le_of_ble_eq_true rfl) dX6_close_2 ⟨Nat.le_of_ble_eq_true rfl, Nat.le_of_ble_eq_true rfl⟩ hex hlk (Nat.le_of_ble_eq_true rfl) (Nat.le_of_ble_eq_true rfl) (fun E H1 hE => ⟨Or.inl (⟨hE.1.1, (by simp only [cd_close]; exact cif_f hE.1.2)⟩), hE.2⟩) (fun a2 h2_0 h2_1 H locs hG hS => ?_)
  subst h2_1
  have z2 : ci (nI a2) = a2 := nI_clamp (by omega)
  refine o_astore_n hx hb dX6_close_5 hl (by decide) rfl (fun ls hl => ?_)
  refine o_aload_n hx hb dX6_close_6 hl rfl ?_
  refine g_get hC hG us_X3 rfl 3 (by decide) fl_X6_239 (V_event (by omega)) rfl dX6_close_7 ?_
  refine lv_if_eq (tgt := 20) hx hb dX6_close_10 (by decide) (fun h10 => ?_) (fun h10 => ?_)
  · skip
    exact thrW_UO hC hfl hS hG hex hlk hl.1 (si := 34) rfl dX6_close_20 dX6_close_23 dX6_close_24 dX6_close_27 dX6_close_30 (Nat.le_of_ble_eq_true rfl) (Nat.le_of_ble_eq_true rfl) (Nat.le_of_ble_eq_true rfl) (Nat.le_of_ble_eq_true rfl) (fun H1 hG1 => ⟨Or.inr (⟨rfl, (by simp only [cd_close, z2]; exact (cif_t (ix_nI h2_0)).trans (cif_f (fun z => by first | exact z.1 h10 | exact h17 z.2)))⟩), hG1⟩) (Nat.le_of_ble_eq_true rfl) (Nat.le_of_ble_eq_true rfl)
  · skip
    refine o_aload_n hx hb dX6_close_13 hl rfl ?_
    refine g_get hC hG us_X3 rfl 4 (by decide) fl_X6_286 (V_event (by omega)) rfl dX6_close_14 ?_
    refine lv_if_eq (tgt := 31) hx hb dX6_close_17 (by decide) (fun h17 => ?_) (fun h17 => ?_)
    · skip
      refine o_aload_n hx hb dX6_close_31 hl rfl ?_
      refine lv_iconst (v := 1) hx hb dX6_close_32 (by decide) ?_
      refine g_put hC hG hS us_X3 tyX3_ok nmX3 rfl 4 (by decide) fl_X6_286 rfl (V_event (by omega)) rfl rfl (Nat.le_of_ble_eq_true rfl) (P_event_closed (by omega)) dX6_close_33 (fun H locs hG hS => ?_)
      refine o_aload_n hx hb dX6_close_36 hl rfl ?_
      refine k_X3_countTimes hC hS hG ⟨by omega, WF_codes (S2 := up3 S 19 a2 0 1) hW rfl rfl rfl, hNE⟩ ml_X6_319 ⟨Nat.le_of_ble_eq_true rfl, Nat.le_of_ble_eq_true rfl⟩ hl.1 (Nat.le_of_ble_eq_true rfl) dX6_close_37 ⟨Nat.le_of_ble_eq_true rfl, Nat.le_of_ble_eq_true rfl⟩ ?_
      refine vx_ret ?_
      exact R_I hC hS hr hlk rfl (⟨(by simp only [cd_close, z2]; exact (cif_t (ix_nI h2_0)).trans (cif_t ⟨h10, h17⟩)), (by rw [z2]; rfl), (by rw [z2]; exact hG)⟩) (Nat.le_of_ble_eq_true rfl) (Nat.le_of_ble_eq_true rfl) dX6_close_40
    · skip
      exact thrW_UO hC hfl hS hG hex hlk hl.1 (si := 34) rfl dX6_close_20 dX6_close_23 dX6_close_24 dX6_close_27 dX6_close_30 (Nat.le_of_ble_eq_true rfl) (Nat.le_of_ble_eq_true rfl) (Nat.le_of_ble_eq_true rfl) (Nat.le_of_ble_eq_true rfl) (fun H1 hG1 => ⟨Or.inr (⟨rfl, (by simp only [cd_close, z2]; exact (cif_t (ix_nI h2_0)).trans (cif_f (fun z => by first | exact z.1 h10 | exact h17 z.2)))⟩), hG1⟩) (Nat.le_of_ble_eq_true rfl) (Nat.le_of_ble_eq_true rfl)
theorem k_X6_close {p : Program} {l : Launch} {e : Env} {R : Room} {s : State} {m : MethodId} {args : Array Value} {below : List Frame} {meth : Method} {c : Code} {H : Heap} {locs : List Loc} {cells slots : Nat} {cc : ByteArray} {pc nL : Nat} {ls : Array Slot} {rest : List Value} {own : String} {D : va_G} {cy : Nat → ClassId} {sa : Nat → Nat} {de B : Nat} {ad : Ad} {S : St} {n : Nat → Nat} {T : St} {k : Nat → Nat} {th : Int32} {X : Rl} {x : Int32} {mcc mss : Nat} {Qc : Array Value → State → Outcome → State → Prop} {GX : String → Heap → Prop} (hfl : l.stackTraces = false)  (hC : Cx p m c cc nL s args own D cy sa de B) (hS : va_S (AB B) s.heap H locs) (hG : GW D B ad (Vw cy de ad S n T k th X) H) (h0 : CI S n)  {idx : Nat} (wl : Cond.methodLink own idx yX6_close ∈ G0) (hR : 7 + 1 ≤ R.frames ∧ 8 + (3 + 11) + 103 ≤ R.locals) (hsz : ls.size = nL) (hst : (rest.map fun v => v.category).sum ≤ 8) (hdg : decode cc pc = .ok (.invokevirtual idx, 3)) (hcs : cells + 2 ≤ R.cells ∧ slots + 12 ≤ R.slots) (hex : ∀ x ∈ c.exceptionTable.toList, False) (hlk : meth.locks = false) (hmc : cells + 2 ≤ mcc) (hms : slots + 12 ≤ mss) (hxx : ∀ (E : String) (H1 : Heap), ((fun E H => ((E = "java/lang/IndexOutOfBoundsException" ∧ cd_close S n x = 1) ∨ (E = "java/lang/UnsupportedOperationException" ∧ cd_close S n x = 2)) ∧ GW D B ad (Vw cy de ad S n T k th X) H)) E H1 → GX E H1) (k0 : (cd_close S n x = 0) → ∀ (H1 : Heap) (locs1 : List Loc), GW D B ad (Vw cy de ad (up3 S 19 (ci x) 0 1) n T k th X) H1 → va_S (AB B) s.heap H1 locs1 → W p l e R s m args below meth c H1 locs1 (cells + 2) (slots + 12) (vx_MQ below Qc (oX B GX) args s mcc mss (AB B)) (F0 m (pc + 3) ls (.int (cnt (timeP S (ci x)) 16) :: rest))) : W p l e R s m args below meth c H locs cells slots (vx_MQ below Qc (oX B GX) args s mcc mss (AB B)) (F0 m pc ls (.int x :: .ref (ad 0 0 0) :: rest)) :=
  vx_calli (xV hC hS hG h0 (As := [.int x]) (c_X6_close l hfl) ⟨rfl, rfl⟩ wl im_X6_close sl_X6_X6_close in_X6 cd_X6_close (n := 1) (by decide +kernel) hR (recv hC hG (q := (RX6, TX6, 6)) rfl V_games) rfl hsz hst rfl hdg hcs) hS (fun _ _ h => h) (fun _ h => h) (fun _ _ h => h) (fun E ce q9 u t H1 locs1 ht hv hp hB hz hq hS1 hce hcv hcl => prop_out hS1 hex hlk (hxx E H1 (by dsimp only at hB; rw [ht] at hB; exact hB)) hce hcv hcl hmc hms) (fun r u t H1 locs1 ht _ hr hB _ _ hS1 => by
      subst hr
      have hB9 := hB; try dsimp only at hB9
      rw [ht] at hB9
      rcases hB9 with ⟨q0, rfl, hG1⟩
      · exact k0 q0 _ _ hG1 hS1)
set_option maxHeartbeats 4000000 in
set_option maxRecDepth 100000 in
theorem c_X6_at (l : Launch) (hfl : l.stackTraces = false) {D : va_G} {cy : Nat → ClassId} {sa : Nat → Nat} {de B : Nat} {ad : Ad} {S : St} {n : Nat → Nat} {T : St} {k : Nat → Nat} {th : Int32} {X : Rl} {x y : Int32}  : vx_Met l yX6_at (Cond.code yX6_at cX6_at 4 (Option.some Jvm.ClassFile.FieldType.int) :: G0) ({ frames := 7, cells := 2, slots := 12, locals := 103 } : Room) (va_Pc [.ref (ad 0 0 0), .int x, .int y] (PW D cy sa de B ad (Vw cy de ad S n T k th X) (CI S n))) (oI B (fun r H => (cd_at S n x y = 0 ∧ r = (vl_at S x y) ∧ GW D B ad (Vw cy de ad S n T k th X) H))) (oX B (fun E H => ((E = "java/lang/IndexOutOfBoundsException" ∧ cd_at S n x y = 1) ∨ (E = "java/util/NoSuchElementException" ∧ cd_at S n x y = 2)) ∧ GW D B ad (Vw cy de ad S n T k th X) H)) 2 12 (AB B) := by
  refine E_vx (own := RX6) rfl rfl (Nat.le_of_ble_eq_true rfl) ?_
  intro p e s m below meth c hC hr hlk hex hG h0 ls hl
  have hx := hC.x
  have hb := hC.b
  have hS : va_S (AB B) s.heap s.heap [] := va_S.rf
  have hl : lo ls 4 [some (.ref (ad 0 0 0)), some (.int x), some (.int y), none] := lo_of hl
  obtain ⟨hW, hNE, hCH, hBL⟩ := h0
  have hW9 := hW
  obtain ⟨hB0, hB1, hB2, hB3, hB4, hB5, hB6, hB7, hKI, hEI, hKY⟩ := hW9
  
  refine o_aload_n hx hb dX6_at_0 hl rfl ?_
  refine o_iload_n hx hb dX6_at_1 hl rfl ?_
  refine k_X6_needEvent hfl hC hS hG hW ml_X6_224 ⟨Nat.le_of_ble_eq_true rfl, Nat.le_of_ble_eq_true rfl⟩ hl.1 (Nat.le_of_ble_eq_true rfl) dX6_at_2 ⟨Nat.le_of_ble_eq_true rfl, Nat.le_of_ble_eq_true rfl⟩ hex hlk (Nat.le_of_ble_eq_true rfl) (Nat.le_of_ble_eq_true rfl) (fun E H1 hE => ⟨Or.inl (⟨hE.1.1, (by simp only [cd_at]; exact cif_f hE.1.2)⟩), hE.2⟩) (fun a2 h2_0 h2_1 H locs hG hS => ?_)
  subst h2_1
  have z2 : ci (nI a2) = a2 := nI_clamp (by omega)
  refine o_iload_n hx hb dX6_at_5 hl rfl ?_
  refine k_X3_inOrder hC hS hG ⟨by omega, hW, hNE⟩ ml_X6_322 ⟨Nat.le_of_ble_eq_true rfl, Nat.le_of_ble_eq_true rfl⟩ hl.1 (Nat.le_of_ble_eq_true rfl) dX6_at_6 ⟨Nat.le_of_ble_eq_true rfl, Nat.le_of_ble_eq_true rfl⟩ (fun h6_0 => ?_) (fun w6 h6_0 => ?_)
  · skip
    refine o_astore_nq (x := none) hx hb dX6_at_9 hl (by decide) rfl (fun ls hl => ?_)
    refine o_aload_nq (x := none) hx hb dX6_at_10 hl rfl ?_
    refine lv_ifnonnullN hx hb dX6_at_11 ?_
    exact thrW_NS hC hfl hS hG hex hlk hl.1 (si := 35) rfl dX6_at_14 dX6_at_17 dX6_at_18 dX6_at_21 dX6_at_24 (Nat.le_of_ble_eq_true rfl) (Nat.le_of_ble_eq_true rfl) (Nat.le_of_ble_eq_true rfl) (Nat.le_of_ble_eq_true rfl) (fun H1 hG1 => ⟨Or.inr (⟨rfl, (by simp only [cd_at, z2]; exact (cif_t (ix_nI h2_0)).trans (cif_t h6_0))⟩), hG1⟩) (Nat.le_of_ble_eq_true rfl) (Nat.le_of_ble_eq_true rfl)
  · skip
    have ht6 := ordn_time h6_0
    obtain ⟨-, hz6, hy6, hn6, qw6, hqw6, hkw6⟩ := live hW hNE ht6
    refine o_astore_n hx hb dX6_at_9 hl (by decide) rfl (fun ls hl => ?_)
    refine o_aload_n hx hb dX6_at_10 hl rfl ?_
    refine lv_ifnonnull (tgt := 25) hx hb dX6_at_11 (by decide) ?_
    refine o_aload_n hx hb dX6_at_25 hl rfl ?_
    refine g_get hC hG us_X2 rfl 0 (by decide) fl_X6_303 (V_ent (by omega) (by omega) (by assumption)) rfl dX6_at_26 ?_
    refine g_get hC hG us_X0 rfl 0 (by decide) fl_X6_328 (V_ath (by omega)) rfl dX6_at_29 ?_
    refine vx_ret ?_
    exact R_I hC hS hr hlk rfl (⟨(by simp only [cd_at, z2]; exact (cif_t (ix_nI h2_0)).trans (cif_f (by rw [h6_0]; exact fun z => nomatch z))), (by unfold vl_at; rw [z2, h6_0]; rfl), (by exact hG)⟩) (Nat.le_of_ble_eq_true rfl) (Nat.le_of_ble_eq_true rfl) dX6_at_32
theorem k_X6_at {p : Program} {l : Launch} {e : Env} {R : Room} {s : State} {m : MethodId} {args : Array Value} {below : List Frame} {meth : Method} {c : Code} {H : Heap} {locs : List Loc} {cells slots : Nat} {cc : ByteArray} {pc nL : Nat} {ls : Array Slot} {rest : List Value} {own : String} {D : va_G} {cy : Nat → ClassId} {sa : Nat → Nat} {de B : Nat} {ad : Ad} {S : St} {n : Nat → Nat} {T : St} {k : Nat → Nat} {th : Int32} {X : Rl} {x y : Int32} {mcc mss : Nat} {Qc : Array Value → State → Outcome → State → Prop} {GX : String → Heap → Prop} (hfl : l.stackTraces = false)  (hC : Cx p m c cc nL s args own D cy sa de B) (hS : va_S (AB B) s.heap H locs) (hG : GW D B ad (Vw cy de ad S n T k th X) H) (h0 : CI S n)  {idx : Nat} (wl : Cond.methodLink own idx yX6_at ∈ G0) (hR : 7 + 1 ≤ R.frames ∧ 8 + (4 + 11) + 103 ≤ R.locals) (hsz : ls.size = nL) (hst : (rest.map fun v => v.category).sum ≤ 8) (hdg : decode cc pc = .ok (.invokevirtual idx, 3)) (hcs : cells + 2 ≤ R.cells ∧ slots + 12 ≤ R.slots) (hex : ∀ x ∈ c.exceptionTable.toList, False) (hlk : meth.locks = false) (hmc : cells + 2 ≤ mcc) (hms : slots + 12 ≤ mss) (hxx : ∀ (E : String) (H1 : Heap), ((fun E H => ((E = "java/lang/IndexOutOfBoundsException" ∧ cd_at S n x y = 1) ∨ (E = "java/util/NoSuchElementException" ∧ cd_at S n x y = 2)) ∧ GW D B ad (Vw cy de ad S n T k th X) H)) E H1 → GX E H1) (k0 : (cd_at S n x y = 0) → ∀ (H1 : Heap) (locs1 : List Loc), GW D B ad (Vw cy de ad S n T k th X) H1 → va_S (AB B) s.heap H1 locs1 → W p l e R s m args below meth c H1 locs1 (cells + 2) (slots + 12) (vx_MQ below Qc (oX B GX) args s mcc mss (AB B)) (F0 m (pc + 3) ls (.int (vl_at S x y) :: rest))) : W p l e R s m args below meth c H locs cells slots (vx_MQ below Qc (oX B GX) args s mcc mss (AB B)) (F0 m pc ls (.int y :: .int x :: .ref (ad 0 0 0) :: rest)) :=
  vx_calli (xV hC hS hG h0 (As := [.int x, .int y]) (c_X6_at l hfl) ⟨rfl, rfl⟩ wl im_X6_at sl_X6_X6_at in_X6 cd_X6_at (n := 2) (by decide +kernel) hR (recv hC hG (q := (RX6, TX6, 6)) rfl V_games) rfl hsz hst rfl hdg hcs) hS (fun _ _ h => h) (fun _ h => h) (fun _ _ h => h) (fun E ce q9 u t H1 locs1 ht hv hp hB hz hq hS1 hce hcv hcl => prop_out hS1 hex hlk (hxx E H1 (by dsimp only at hB; rw [ht] at hB; exact hB)) hce hcv hcl hmc hms) (fun r u t H1 locs1 ht _ hr hB _ _ hS1 => by
      subst hr
      have hB9 := hB; try dsimp only at hB9
      rw [ht] at hB9
      rcases hB9 with ⟨q0, rfl, hG1⟩
      · exact k0 q0 _ _ hG1 hS1)
set_option maxHeartbeats 4000000 in
set_option maxRecDepth 100000 in
theorem c_X6_slot (l : Launch) (hfl : l.stackTraces = false) {D : va_G} {cy : Nat → ClassId} {sa : Nat → Nat} {de B : Nat} {ad : Ad} {S : St} {n : Nat → Nat} {T : St} {k : Nat → Nat} {th : Int32} {X : Rl} {x y z : Int32}  : vx_Met l yX6_slot (Cond.code yX6_slot cX6_slot 6 (Option.some Jvm.ClassFile.FieldType.int) :: G0) ({ frames := 7, cells := 2, slots := 12, locals := 103 } : Room) (va_Pc [.ref (ad 0 0 0), .int x, .int y, .int z] (PW D cy sa de B ad (Vw cy de ad S n T k th X) (CI S n))) (oI B (fun r H => (cd_slot S n x y z = 0 ∧ r = (vl_slot S x z) ∧ GW D B ad (Vw cy de ad S n T k th X) H))) (oX B (fun E H => ((E = "java/lang/IndexOutOfBoundsException" ∧ cd_slot S n x y z = 1) ∨ (E = "java/lang/IllegalArgumentException" ∧ cd_slot S n x y z = 2) ∨ (E = "java/util/NoSuchElementException" ∧ cd_slot S n x y z = 3)) ∧ GW D B ad (Vw cy de ad S n T k th X) H)) 2 12 (AB B) := by
  refine E_vx (own := RX6) rfl rfl (Nat.le_of_ble_eq_true rfl) ?_
  intro p e s m below meth c hC hr hlk hex hG h0 ls hl
  have hx := hC.x
  have hb := hC.b
  have hS : va_S (AB B) s.heap s.heap [] := va_S.rf
  have hl : lo ls 6 [some (.ref (ad 0 0 0)), some (.int x), some (.int y), some (.int z), none, none] := lo_of hl
  obtain ⟨hW, hNE, hCH, hBL⟩ := h0
  have hW9 := hW
  obtain ⟨hB0, hB1, hB2, hB3, hB4, hB5, hB6, hB7, hKI, hEI, hKY⟩ := hW9
  
  refine o_aload_n hx hb dX6_slot_0 hl rfl ?_
  refine o_iload_n hx hb dX6_slot_1 hl rfl ?_
  refine k_X6_needEvent hfl hC hS hG hW ml_X6_224 ⟨Nat.le_of_ble_eq_true rfl, Nat.le_of_ble_eq_true rfl⟩ hl.1 (Nat.le_of_ble_eq_true rfl) dX6_slot_2 ⟨Nat.le_of_ble_eq_true rfl, Nat.le_of_ble_eq_true rfl⟩ hex hlk (Nat.le_of_ble_eq_true rfl) (Nat.le_of_ble_eq_true rfl) (fun E H1 hE => ⟨Or.inl (⟨hE.1.1, (by simp only [cd_slot]; exact cif_f hE.1.2)⟩), hE.2⟩) (fun a2 h2_0 h2_1 H locs hG hS => ?_)
  subst h2_1
  have z2 : ci (nI a2) = a2 := nI_clamp (by omega)
  refine o_astore hx hb dX6_slot_5 hl (by decide) rfl (fun ls hl => ?_)
  refine o_iload_n hx hb dX6_slot_7 hl rfl ?_
  refine lv_iconst (v := 1) hx hb dX6_slot_8 (by decide) ?_
  refine lv_icmp_lt (tgt := 18) hx hb dX6_slot_9 (by decide) (fun h9 => ?_) (fun h9 => ?_)
  · skip
    exact thrW_IA hC hfl hS hG hex hlk hl.1 (si := 36) rfl dX6_slot_18 dX6_slot_21 dX6_slot_22 dX6_slot_25 dX6_slot_28 (Nat.le_of_ble_eq_true rfl) (Nat.le_of_ble_eq_true rfl) (Nat.le_of_ble_eq_true rfl) (Nat.le_of_ble_eq_true rfl) (fun H1 hG1 => ⟨Or.inr (Or.inl (⟨rfl, (by simp only [cd_slot, z2]; exact (cif_t (ix_nI h2_0)).trans (cif_f (fun z => by first | exact absurd h9 (Int32.not_lt.mpr z.1) | exact h15 z.2)))⟩)), hG1⟩) (Nat.le_of_ble_eq_true rfl) (Nat.le_of_ble_eq_true rfl)
  · skip
    refine o_iload_n hx hb dX6_slot_12 hl rfl ?_
    refine lv_bipush (v := 16) hx hb dX6_slot_13 (by decide) ?_
    refine lv_icmp_le (tgt := 29) hx hb dX6_slot_15 (by decide) (fun h15 => ?_) (fun h15 => ?_)
    · skip
      refine o_iload_n hx hb dX6_slot_29 hl rfl ?_
      refine o_iload_n hx hb dX6_slot_30 hl rfl ?_
      refine lv_icmp_ge (tgt := 43) hx hb dX6_slot_31 (by decide) (fun h31 => ?_) (fun h31 => ?_)
      · skip
        refine lv_null hx hb dX6_slot_43 ?_
        refine o_astoreq (x := none) hx hb dX6_slot_44 hl (by decide) rfl (fun ls hl => ?_)
        refine o_aloadq (x := none) hx hb dX6_slot_46 hl rfl ?_
        refine lv_ifnonnullN hx hb dX6_slot_48 ?_
        exact thrW_NS hC hfl hS hG hex hlk hl.1 (si := 37) rfl dX6_slot_51 dX6_slot_54 dX6_slot_55 dX6_slot_58 dX6_slot_61 (Nat.le_of_ble_eq_true rfl) (Nat.le_of_ble_eq_true rfl) (Nat.le_of_ble_eq_true rfl) (Nat.le_of_ble_eq_true rfl) (fun H1 hG1 => ⟨Or.inr (Or.inr (⟨rfl, (by simp only [cd_slot, z2]; exact (cif_t (ix_nI h2_0)).trans ((cif_t ⟨Int32.not_lt.mp h9, h15⟩).trans (cif_f (fun z => by first | exact absurd z.1 (Int32.not_lt.mpr h31) | exact z.2 h37_0))))⟩)), hG1⟩) (Nat.le_of_ble_eq_true rfl) (Nat.le_of_ble_eq_true rfl)
      · skip
        refine o_aload hx hb dX6_slot_34 hl rfl ?_
        refine o_iload_n hx hb dX6_slot_36 hl rfl ?_
        refine k_X3_inOrderOfSlots hC hS hG ⟨by omega, hW, hNE⟩ ml_X6_335 ⟨Nat.le_of_ble_eq_true rfl, Nat.le_of_ble_eq_true rfl⟩ hl.1 (Nat.le_of_ble_eq_true rfl) dX6_slot_37 ⟨Nat.le_of_ble_eq_true rfl, Nat.le_of_ble_eq_true rfl⟩ (fun h37_0 => ?_) (fun w37 h37_0 => ?_)
        · skip
          refine lv_goto (tgt := 44) hx hb dX6_slot_40 (by decide) ?_
          refine o_astoreq (x := none) hx hb dX6_slot_44 hl (by decide) rfl (fun ls hl => ?_)
          refine o_aloadq (x := none) hx hb dX6_slot_46 hl rfl ?_
          refine lv_ifnonnullN hx hb dX6_slot_48 ?_
          exact thrW_NS hC hfl hS hG hex hlk hl.1 (si := 37) rfl dX6_slot_51 dX6_slot_54 dX6_slot_55 dX6_slot_58 dX6_slot_61 (Nat.le_of_ble_eq_true rfl) (Nat.le_of_ble_eq_true rfl) (Nat.le_of_ble_eq_true rfl) (Nat.le_of_ble_eq_true rfl) (fun H1 hG1 => ⟨Or.inr (Or.inr (⟨rfl, (by simp only [cd_slot, z2]; exact (cif_t (ix_nI h2_0)).trans ((cif_t ⟨Int32.not_lt.mp h9, h15⟩).trans (cif_f (fun z => by first | exact absurd z.1 (Int32.not_lt.mpr h31) | exact z.2 h37_0))))⟩)), hG1⟩) (Nat.le_of_ble_eq_true rfl) (Nat.le_of_ble_eq_true rfl)
        · skip
          have ht37 := slF_time h37_0
          obtain ⟨-, hz37, hy37, hn37, qw37, hqw37, hkw37⟩ := live hW hNE ht37
          refine lv_goto (tgt := 44) hx hb dX6_slot_40 (by decide) ?_
          refine o_astore hx hb dX6_slot_44 hl (by decide) rfl (fun ls hl => ?_)
          refine o_aload hx hb dX6_slot_46 hl rfl ?_
          refine lv_ifnonnull (tgt := 62) hx hb dX6_slot_48 (by decide) ?_
          refine o_aload hx hb dX6_slot_62 hl rfl ?_
          refine g_get hC hG us_X2 rfl 0 (by decide) fl_X6_303 (V_ent (by omega) (by omega) (by assumption)) rfl dX6_slot_64 ?_
          refine g_get hC hG us_X0 rfl 0 (by decide) fl_X6_328 (V_ath (by omega)) rfl dX6_slot_67 ?_
          refine vx_ret ?_
          exact R_I hC hS hr hlk rfl (⟨(by simp only [cd_slot, z2]; exact (cif_t (ix_nI h2_0)).trans ((cif_t ⟨Int32.not_lt.mp h9, h15⟩).trans (cif_t ⟨Int32.not_le.mp h31, by rw [h37_0]; exact fun z => nomatch z⟩))), (by unfold vl_slot; rw [z2, h37_0]; rfl), (by exact hG)⟩) (Nat.le_of_ble_eq_true rfl) (Nat.le_of_ble_eq_true rfl) dX6_slot_70
    · skip
      exact thrW_IA hC hfl hS hG hex hlk hl.1 (si := 36) rfl dX6_slot_18 dX6_slot_21 dX6_slot_22 dX6_slot_25 dX6_slot_28 (Nat.le_of_ble_eq_true rfl) (Nat.le_of_ble_eq_true rfl) (Nat.le_of_ble_eq_true rfl) (Nat.le_of_ble_eq_true rfl) (fun H1 hG1 => ⟨Or.inr (Or.inl (⟨rfl, (by simp only [cd_slot, z2]; exact (cif_t (ix_nI h2_0)).trans (cif_f (fun z => by first | exact absurd h9 (Int32.not_lt.mpr z.1) | exact h15 z.2)))⟩)), hG1⟩) (Nat.le_of_ble_eq_true rfl) (Nat.le_of_ble_eq_true rfl)
theorem k_X6_slot {p : Program} {l : Launch} {e : Env} {R : Room} {s : State} {m : MethodId} {args : Array Value} {below : List Frame} {meth : Method} {c : Code} {H : Heap} {locs : List Loc} {cells slots : Nat} {cc : ByteArray} {pc nL : Nat} {ls : Array Slot} {rest : List Value} {own : String} {D : va_G} {cy : Nat → ClassId} {sa : Nat → Nat} {de B : Nat} {ad : Ad} {S : St} {n : Nat → Nat} {T : St} {k : Nat → Nat} {th : Int32} {X : Rl} {x y z : Int32} {mcc mss : Nat} {Qc : Array Value → State → Outcome → State → Prop} {GX : String → Heap → Prop} (hfl : l.stackTraces = false)  (hC : Cx p m c cc nL s args own D cy sa de B) (hS : va_S (AB B) s.heap H locs) (hG : GW D B ad (Vw cy de ad S n T k th X) H) (h0 : CI S n)  {idx : Nat} (wl : Cond.methodLink own idx yX6_slot ∈ G0) (hR : 7 + 1 ≤ R.frames ∧ 8 + (6 + 11) + 103 ≤ R.locals) (hsz : ls.size = nL) (hst : (rest.map fun v => v.category).sum ≤ 8) (hdg : decode cc pc = .ok (.invokevirtual idx, 3)) (hcs : cells + 2 ≤ R.cells ∧ slots + 12 ≤ R.slots) (hex : ∀ x ∈ c.exceptionTable.toList, False) (hlk : meth.locks = false) (hmc : cells + 2 ≤ mcc) (hms : slots + 12 ≤ mss) (hxx : ∀ (E : String) (H1 : Heap), ((fun E H => ((E = "java/lang/IndexOutOfBoundsException" ∧ cd_slot S n x y z = 1) ∨ (E = "java/lang/IllegalArgumentException" ∧ cd_slot S n x y z = 2) ∨ (E = "java/util/NoSuchElementException" ∧ cd_slot S n x y z = 3)) ∧ GW D B ad (Vw cy de ad S n T k th X) H)) E H1 → GX E H1) (k0 : (cd_slot S n x y z = 0) → ∀ (H1 : Heap) (locs1 : List Loc), GW D B ad (Vw cy de ad S n T k th X) H1 → va_S (AB B) s.heap H1 locs1 → W p l e R s m args below meth c H1 locs1 (cells + 2) (slots + 12) (vx_MQ below Qc (oX B GX) args s mcc mss (AB B)) (F0 m (pc + 3) ls (.int (vl_slot S x z) :: rest))) : W p l e R s m args below meth c H locs cells slots (vx_MQ below Qc (oX B GX) args s mcc mss (AB B)) (F0 m pc ls (.int z :: .int y :: .int x :: .ref (ad 0 0 0) :: rest)) :=
  vx_calli (xV hC hS hG h0 (As := [.int x, .int y, .int z]) (c_X6_slot l hfl) ⟨rfl, rfl⟩ wl im_X6_slot sl_X6_X6_slot in_X6 cd_X6_slot (n := 3) (by decide +kernel) hR (recv hC hG (q := (RX6, TX6, 6)) rfl V_games) rfl hsz hst rfl hdg hcs) hS (fun _ _ h => h) (fun _ h => h) (fun _ _ h => h) (fun E ce q9 u t H1 locs1 ht hv hp hB hz hq hS1 hce hcv hcl => prop_out hS1 hex hlk (hxx E H1 (by dsimp only at hB; rw [ht] at hB; exact hB)) hce hcv hcl hmc hms) (fun r u t H1 locs1 ht _ hr hB _ _ hS1 => by
      subst hr
      have hB9 := hB; try dsimp only at hB9
      rw [ht] at hB9
      rcases hB9 with ⟨q0, rfl, hG1⟩
      · exact k0 q0 _ _ hG1 hS1)
set_option maxHeartbeats 4000000 in
set_option maxRecDepth 100000 in
theorem c_X6_record (l : Launch) (hfl : l.stackTraces = false) {D : va_G} {cy : Nat → ClassId} {sa : Nat → Nat} {de B : Nat} {ad : Ad} {S : St} {n : Nat → Nat} {T : St} {k : Nat → Nat} {th : Int32} {X : Rl} {x : Int32}  : vx_Met l yX6_record (Cond.code yX6_record cX6_record 3 (Option.some Jvm.ClassFile.FieldType.int) :: G0) ({ frames := 7, cells := 2, slots := 12, locals := 103 } : Room) (va_Pc [.ref (ad 0 0 0), .int x] (PW D cy sa de B ad (Vw cy de ad S n T k th X) (CI S n))) (oI B (fun r H => (cd_record S n x = 0 ∧ r = (S 14 (ci x) 0) ∧ GW D B ad (Vw cy de ad S n T k th X) H))) (oX B (fun E H => ((E = "java/lang/IndexOutOfBoundsException" ∧ cd_record S n x = 1) ∨ (E = "java/util/NoSuchElementException" ∧ cd_record S n x = 2)) ∧ GW D B ad (Vw cy de ad S n T k th X) H)) 2 12 (AB B) := by
  refine E_vx (own := RX6) rfl rfl (Nat.le_of_ble_eq_true rfl) ?_
  intro p e s m below meth c hC hr hlk hex hG h0 ls hl
  have hx := hC.x
  have hb := hC.b
  have hS : va_S (AB B) s.heap s.heap [] := va_S.rf
  have hl : lo ls 3 [some (.ref (ad 0 0 0)), some (.int x), none] := lo_of hl
  obtain ⟨hW, hNE, hCH, hBL⟩ := h0
  have hW9 := hW
  obtain ⟨hB0, hB1, hB2, hB3, hB4, hB5, hB6, hB7, hKI, hEI, hKY⟩ := hW9
  
  refine o_aload_n hx hb dX6_record_0 hl rfl ?_
  refine o_iload_n hx hb dX6_record_1 hl rfl ?_
  refine k_X6_needKind hfl hC hS hG hW ml_X6_181 ⟨Nat.le_of_ble_eq_true rfl, Nat.le_of_ble_eq_true rfl⟩ hl.1 (Nat.le_of_ble_eq_true rfl) dX6_record_2 ⟨Nat.le_of_ble_eq_true rfl, Nat.le_of_ble_eq_true rfl⟩ hex hlk (Nat.le_of_ble_eq_true rfl) (Nat.le_of_ble_eq_true rfl) (fun E H1 hE => ⟨Or.inl (⟨hE.1.1, (by simp only [cd_record]; exact cif_f hE.1.2)⟩), hE.2⟩) (fun a2 h2_0 h2_1 H locs hG hS => ?_)
  subst h2_1
  have z2 : ci (nI a2) = a2 := nI_clamp (by omega)
  refine o_astore_n hx hb dX6_record_5 hl (by decide) rfl (fun ls hl => ?_)
  refine o_aload_n hx hb dX6_record_6 hl rfl ?_
  refine g_get hC hG us_X4 rfl 5 (by decide) fl_X6_340 (V_kind (by omega)) rfl dX6_record_7 ?_
  refine lv_iconst (v := (-1)) hx hb dX6_record_10 (by decide) ?_
  refine lv_icmp_ne (tgt := 25) hx hb dX6_record_11 (by decide) (fun h11 => ?_) (fun h11 => ?_)
  · skip
    refine o_aload_n hx hb dX6_record_25 hl rfl ?_
    refine g_get hC hG us_X4 rfl 5 (by decide) fl_X6_340 (V_kind (by omega)) rfl dX6_record_26 ?_
    refine vx_ret ?_
    exact R_I hC hS hr hlk rfl (⟨(by simp only [cd_record, z2]; exact (cif_t (ix_nI h2_0)).trans (cif_f h11)), (by rw [z2]), (by exact hG)⟩) (Nat.le_of_ble_eq_true rfl) (Nat.le_of_ble_eq_true rfl) dX6_record_29
  · skip
    exact thrW_NS hC hfl hS hG hex hlk hl.1 (si := 38) rfl dX6_record_14 dX6_record_17 dX6_record_18 dX6_record_21 dX6_record_24 (Nat.le_of_ble_eq_true rfl) (Nat.le_of_ble_eq_true rfl) (Nat.le_of_ble_eq_true rfl) (Nat.le_of_ble_eq_true rfl) (fun H1 hG1 => ⟨Or.inr (⟨rfl, (by simp only [cd_record, z2]; exact (cif_t (ix_nI h2_0)).trans (cif_t h11))⟩), hG1⟩) (Nat.le_of_ble_eq_true rfl) (Nat.le_of_ble_eq_true rfl)
theorem k_X6_record {p : Program} {l : Launch} {e : Env} {R : Room} {s : State} {m : MethodId} {args : Array Value} {below : List Frame} {meth : Method} {c : Code} {H : Heap} {locs : List Loc} {cells slots : Nat} {cc : ByteArray} {pc nL : Nat} {ls : Array Slot} {rest : List Value} {own : String} {D : va_G} {cy : Nat → ClassId} {sa : Nat → Nat} {de B : Nat} {ad : Ad} {S : St} {n : Nat → Nat} {T : St} {k : Nat → Nat} {th : Int32} {X : Rl} {x : Int32} {mcc mss : Nat} {Qc : Array Value → State → Outcome → State → Prop} {GX : String → Heap → Prop} (hfl : l.stackTraces = false)  (hC : Cx p m c cc nL s args own D cy sa de B) (hS : va_S (AB B) s.heap H locs) (hG : GW D B ad (Vw cy de ad S n T k th X) H) (h0 : CI S n)  {idx : Nat} (wl : Cond.methodLink own idx yX6_record ∈ G0) (hR : 7 + 1 ≤ R.frames ∧ 8 + (3 + 11) + 103 ≤ R.locals) (hsz : ls.size = nL) (hst : (rest.map fun v => v.category).sum ≤ 8) (hdg : decode cc pc = .ok (.invokevirtual idx, 3)) (hcs : cells + 2 ≤ R.cells ∧ slots + 12 ≤ R.slots) (hex : ∀ x ∈ c.exceptionTable.toList, False) (hlk : meth.locks = false) (hmc : cells + 2 ≤ mcc) (hms : slots + 12 ≤ mss) (hxx : ∀ (E : String) (H1 : Heap), ((fun E H => ((E = "java/lang/IndexOutOfBoundsException" ∧ cd_record S n x = 1) ∨ (E = "java/util/NoSuchElementException" ∧ cd_record S n x = 2)) ∧ GW D B ad (Vw cy de ad S n T k th X) H)) E H1 → GX E H1) (k0 : (cd_record S n x = 0) → ∀ (H1 : Heap) (locs1 : List Loc), GW D B ad (Vw cy de ad S n T k th X) H1 → va_S (AB B) s.heap H1 locs1 → W p l e R s m args below meth c H1 locs1 (cells + 2) (slots + 12) (vx_MQ below Qc (oX B GX) args s mcc mss (AB B)) (F0 m (pc + 3) ls (.int (S 14 (ci x) 0) :: rest))) : W p l e R s m args below meth c H locs cells slots (vx_MQ below Qc (oX B GX) args s mcc mss (AB B)) (F0 m pc ls (.int x :: .ref (ad 0 0 0) :: rest)) :=
  vx_calli (xV hC hS hG h0 (As := [.int x]) (c_X6_record l hfl) ⟨rfl, rfl⟩ wl im_X6_record sl_X6_X6_record in_X6 cd_X6_record (n := 1) (by decide +kernel) hR (recv hC hG (q := (RX6, TX6, 6)) rfl V_games) rfl hsz hst rfl hdg hcs) hS (fun _ _ h => h) (fun _ h => h) (fun _ _ h => h) (fun E ce q9 u t H1 locs1 ht hv hp hB hz hq hS1 hce hcv hcl => prop_out hS1 hex hlk (hxx E H1 (by dsimp only at hB; rw [ht] at hB; exact hB)) hce hcv hcl hmc hms) (fun r u t H1 locs1 ht _ hr hB _ _ hS1 => by
      subst hr
      have hB9 := hB; try dsimp only at hB9
      rw [ht] at hB9
      rcases hB9 with ⟨q0, rfl, hG1⟩
      · exact k0 q0 _ _ hG1 hS1)
set_option maxHeartbeats 4000000 in
set_option maxRecDepth 100000 in
theorem c_X6_floor (l : Launch) (hfl : l.stackTraces = false) {D : va_G} {cy : Nat → ClassId} {sa : Nat → Nat} {de B : Nat} {ad : Ad} {S : St} {n : Nat → Nat} {T : St} {k : Nat → Nat} {th : Int32} {X : Rl} {x y : Int32}  : vx_Met l yX6_floor (Cond.code yX6_floor cX6_floor 4 (Option.some Jvm.ClassFile.FieldType.int) :: G0) ({ frames := 7, cells := 2, slots := 12, locals := 102 } : Room) (va_Pc [.ref (ad 0 0 0), .int x, .int y] (PW D cy sa de B ad (Vw cy de ad S n T k th X) (CI S n))) (oI B (fun r H => (cd_floor S n x y = 0 ∧ r = (ptF S y (n 0)) ∧ GW D B ad (Vw cy de ad (puF S x y (n 0)) n T k th X) H))) (oX B (fun E H => ((E = "java/lang/IndexOutOfBoundsException" ∧ cd_floor S n x y = 1) ∨ (E = "java/lang/IllegalArgumentException" ∧ cd_floor S n x y = 2) ∨ (E = "java/lang/UnsupportedOperationException" ∧ cd_floor S n x y = 3)) ∧ GW D B ad (Vw cy de ad S n T k th X) H)) 2 12 (AB B) := by
  refine E_vx (own := RX6) rfl rfl (Nat.le_of_ble_eq_true rfl) ?_
  intro p e s m below meth c hC hr hlk hex hG h0 ls hl
  have hx := hC.x
  have hb := hC.b
  have hS : va_S (AB B) s.heap s.heap [] := va_S.rf
  have hl : lo ls 4 [some (.ref (ad 0 0 0)), some (.int x), some (.int y), none] := lo_of hl
  obtain ⟨hW, hNE, hCH, hBL⟩ := h0
  have hW9 := hW
  obtain ⟨hB0, hB1, hB2, hB3, hB4, hB5, hB6, hB7, hKI, hEI, hKY⟩ := hW9
  
  refine o_iload_n hx hb dX6_floor_0 hl rfl ?_
  refine k_X6_needLand hfl hC hS hG trivial ml_X6_29 ⟨Nat.le_of_ble_eq_true rfl, Nat.le_of_ble_eq_true rfl⟩ hl.1 (Nat.le_of_ble_eq_true rfl) dX6_floor_1 ⟨Nat.le_of_ble_eq_true rfl, Nat.le_of_ble_eq_true rfl⟩ hex hlk (Nat.le_of_ble_eq_true rfl) (Nat.le_of_ble_eq_true rfl) (fun E H1 hE => ⟨Or.inl (⟨hE.1.1, (by simp only [cd_floor]; exact cif_f hE.1.2)⟩), hE.2⟩) (fun a1 h1_0 h1_1 H locs hG hS => ?_)
  subst h1_1
  have z1 : ci (nI a1) = a1 := nI_clamp (by omega)
  refine o_iload_n hx hb dX6_floor_4 hl rfl ?_
  refine o_aload_n hx hb dX6_floor_5 hl rfl ?_
  refine g_get hC hG us_X6 rfl 0 (by decide) fl_X6_10 V_games rfl dX6_floor_6 ?_
  refine k_Jx4a65c_size_8abf5 (q := 0) hC hS hG (by omega) ml_X6_33 ⟨Nat.le_of_ble_eq_true rfl, Nat.le_of_ble_eq_true rfl⟩ hl.1 (Nat.le_of_ble_eq_true rfl) dX6_floor_9 ⟨Nat.le_of_ble_eq_true rfl, Nat.le_of_ble_eq_true rfl⟩ ?_
  refine k_X6_areBitsBelow hC hS hG trivial ml_X6_213 ⟨Nat.le_of_ble_eq_true rfl, Nat.le_of_ble_eq_true rfl⟩ hl.1 (Nat.le_of_ble_eq_true rfl) dX6_floor_12 ⟨Nat.le_of_ble_eq_true rfl, Nat.le_of_ble_eq_true rfl⟩ (fun h12 => ?_) (fun h12 => ?_)
  · skip
    refine lv_if_eq (tgt := 35) hx hb dX6_floor_15 (by decide) (fun h15 => ?_) (fun h15 => ?_)
    · exact absurd h15 (by decide)
    · skip
      refine o_iload_n hx hb dX6_floor_18 hl rfl ?_
      refine k_J6_bitCount_0f7a4 hC hS hG trivial ml_X6_345 ⟨Nat.le_of_ble_eq_true rfl, Nat.le_of_ble_eq_true rfl⟩ hl.1 (Nat.le_of_ble_eq_true rfl) dX6_floor_19 ⟨Nat.le_of_ble_eq_true rfl, Nat.le_of_ble_eq_true rfl⟩ ?_
      refine lv_iconst (v := 4) hx hb dX6_floor_22 (by decide) ?_
      refine lv_icmp_gt (tgt := 35) hx hb dX6_floor_23 (by decide) (fun h23 => ?_) (fun h23 => ?_)
      · skip
        exact thrW_IA hC hfl hS hG hex hlk hl.1 (si := 39) rfl dX6_floor_35 dX6_floor_38 dX6_floor_39 dX6_floor_42 dX6_floor_45 (Nat.le_of_ble_eq_true rfl) (Nat.le_of_ble_eq_true rfl) (Nat.le_of_ble_eq_true rfl) (Nat.le_of_ble_eq_true rfl) (fun H1 hG1 => ⟨Or.inr (Or.inl (⟨rfl, (by simp only [cd_floor]; exact (cif_t (ix_nI h1_0)).trans (cif_f (fun z => by first | exact h12 z.1 | exact absurd h23 (Int32.not_lt.mpr z.2.1) | exact h29 z.2.2)))⟩)), hG1⟩) (Nat.le_of_ble_eq_true rfl) (Nat.le_of_ble_eq_true rfl)
      · skip
        refine o_aload_n hx hb dX6_floor_26 hl rfl ?_
        refine o_iload_n hx hb dX6_floor_27 hl rfl ?_
        refine o_iload_n hx hb dX6_floor_28 hl rfl ?_
        refine k_X6_areAllOfLand hC hS hG hW ml_X6_350 ⟨Nat.le_of_ble_eq_true rfl, Nat.le_of_ble_eq_true rfl⟩ hl.1 (Nat.le_of_ble_eq_true rfl) dX6_floor_29 ⟨Nat.le_of_ble_eq_true rfl, Nat.le_of_ble_eq_true rfl⟩ (fun h29 => ?_) (fun h29 => ?_)
        · skip
          refine lv_if_ne (tgt := 46) hx hb dX6_floor_32 (by decide) (fun h32 => ?_) (fun h32 => ?_)
          · skip
            refine o_aload_n hx hb dX6_floor_46 hl rfl ?_
            refine o_iload_n hx hb dX6_floor_47 hl rfl ?_
            refine k_X6_haveAllClasses hC hS hG hW ml_X6_355 ⟨Nat.le_of_ble_eq_true rfl, Nat.le_of_ble_eq_true rfl⟩ hl.1 (Nat.le_of_ble_eq_true rfl) dX6_floor_48 ⟨Nat.le_of_ble_eq_true rfl, Nat.le_of_ble_eq_true rfl⟩ (fun h48 => ?_) (fun h48 => ?_)
            · skip
              refine lv_if_ne (tgt := 65) hx hb dX6_floor_51 (by decide) (fun h51 => ?_) (fun h51 => ?_)
              · skip
                refine o_aload_n hx hb dX6_floor_65 hl rfl ?_
                refine o_iload_n hx hb dX6_floor_66 hl rfl ?_
                refine k_X6_pointsOf hC hS hG hW ml_X6_360 ⟨Nat.le_of_ble_eq_true rfl, Nat.le_of_ble_eq_true rfl⟩ hl.1 (Nat.le_of_ble_eq_true rfl) dX6_floor_67 ⟨Nat.le_of_ble_eq_true rfl, Nat.le_of_ble_eq_true rfl⟩ ?_
                refine o_istore_n hx hb dX6_floor_70 hl (by decide) rfl (fun ls hl => ?_)
                refine o_iload_n hx hb dX6_floor_71 hl rfl ?_
                refine lv_bipush (v := 12) hx hb dX6_floor_72 (by decide) ?_
                refine lv_icmp_le (tgt := 88) hx hb dX6_floor_74 (by decide) (fun h74 => ?_) (fun h74 => ?_)
                · skip
                  refine o_aload_n hx hb dX6_floor_88 hl rfl ?_
                  refine o_iload_n hx hb dX6_floor_89 hl rfl ?_
                  refine o_iload_n hx hb dX6_floor_90 hl rfl ?_
                  refine k_X6_putOnFloor hC hS hG hW ml_X6_365 ⟨Nat.le_of_ble_eq_true rfl, Nat.le_of_ble_eq_true rfl⟩ hl.1 (Nat.le_of_ble_eq_true rfl) dX6_floor_91 ⟨Nat.le_of_ble_eq_true rfl, Nat.le_of_ble_eq_true rfl⟩ (fun H locs hG hS => ?_)
                  refine o_iload_n hx hb dX6_floor_94 hl rfl ?_
                  refine vx_ret ?_
                  exact R_I hC hS hr hlk rfl (⟨(by simp only [cd_floor]; exact (cif_t (ix_nI h1_0)).trans ((cif_t ⟨h12, Int32.not_lt.mp h23, h29⟩).trans (cif_t ⟨h48, h74⟩))), (by rfl), (by exact hG)⟩) (Nat.le_of_ble_eq_true rfl) (Nat.le_of_ble_eq_true rfl) dX6_floor_95
                · skip
                  exact thrW_UO hC hfl hS hG hex hlk hl.1 (si := 41) rfl dX6_floor_77 dX6_floor_80 dX6_floor_81 dX6_floor_84 dX6_floor_87 (Nat.le_of_ble_eq_true rfl) (Nat.le_of_ble_eq_true rfl) (Nat.le_of_ble_eq_true rfl) (Nat.le_of_ble_eq_true rfl) (fun H1 hG1 => ⟨Or.inr (Or.inr (⟨rfl, (by simp only [cd_floor]; exact (cif_t (ix_nI h1_0)).trans ((cif_t ⟨h12, Int32.not_lt.mp h23, h29⟩).trans (cif_f (fun z => h74 z.2))))⟩)), hG1⟩) (Nat.le_of_ble_eq_true rfl) (Nat.le_of_ble_eq_true rfl)
              · exact absurd h51 (by decide)
            · skip
              refine lv_if_ne (tgt := 65) hx hb dX6_floor_51 (by decide) (fun h51 => ?_) (fun h51 => ?_)
              · exact absurd h51 (by decide)
              · skip
                exact thrW_UO hC hfl hS hG hex hlk hl.1 (si := 40) rfl dX6_floor_54 dX6_floor_57 dX6_floor_58 dX6_floor_61 dX6_floor_64 (Nat.le_of_ble_eq_true rfl) (Nat.le_of_ble_eq_true rfl) (Nat.le_of_ble_eq_true rfl) (Nat.le_of_ble_eq_true rfl) (fun H1 hG1 => ⟨Or.inr (Or.inr (⟨rfl, (by simp only [cd_floor]; exact (cif_t (ix_nI h1_0)).trans ((cif_t ⟨h12, Int32.not_lt.mp h23, h29⟩).trans (cif_f (fun z => h48 z.1))))⟩)), hG1⟩) (Nat.le_of_ble_eq_true rfl) (Nat.le_of_ble_eq_true rfl)
          · exact absurd h32 (by decide)
        · skip
          refine lv_if_ne (tgt := 46) hx hb dX6_floor_32 (by decide) (fun h32 => ?_) (fun h32 => ?_)
          · exact absurd h32 (by decide)
          · skip
            exact thrW_IA hC hfl hS hG hex hlk hl.1 (si := 39) rfl dX6_floor_35 dX6_floor_38 dX6_floor_39 dX6_floor_42 dX6_floor_45 (Nat.le_of_ble_eq_true rfl) (Nat.le_of_ble_eq_true rfl) (Nat.le_of_ble_eq_true rfl) (Nat.le_of_ble_eq_true rfl) (fun H1 hG1 => ⟨Or.inr (Or.inl (⟨rfl, (by simp only [cd_floor]; exact (cif_t (ix_nI h1_0)).trans (cif_f (fun z => by first | exact h12 z.1 | exact absurd h23 (Int32.not_lt.mpr z.2.1) | exact h29 z.2.2)))⟩)), hG1⟩) (Nat.le_of_ble_eq_true rfl) (Nat.le_of_ble_eq_true rfl)
  · skip
    refine lv_if_eq (tgt := 35) hx hb dX6_floor_15 (by decide) (fun h15 => ?_) (fun h15 => ?_)
    · skip
      exact thrW_IA hC hfl hS hG hex hlk hl.1 (si := 39) rfl dX6_floor_35 dX6_floor_38 dX6_floor_39 dX6_floor_42 dX6_floor_45 (Nat.le_of_ble_eq_true rfl) (Nat.le_of_ble_eq_true rfl) (Nat.le_of_ble_eq_true rfl) (Nat.le_of_ble_eq_true rfl) (fun H1 hG1 => ⟨Or.inr (Or.inl (⟨rfl, (by simp only [cd_floor]; exact (cif_t (ix_nI h1_0)).trans (cif_f (fun z => by first | exact h12 z.1 | exact absurd h23 (Int32.not_lt.mpr z.2.1) | exact h29 z.2.2)))⟩)), hG1⟩) (Nat.le_of_ble_eq_true rfl) (Nat.le_of_ble_eq_true rfl)
    · exact absurd h15 (by decide)
theorem k_X6_floor {p : Program} {l : Launch} {e : Env} {R : Room} {s : State} {m : MethodId} {args : Array Value} {below : List Frame} {meth : Method} {c : Code} {H : Heap} {locs : List Loc} {cells slots : Nat} {cc : ByteArray} {pc nL : Nat} {ls : Array Slot} {rest : List Value} {own : String} {D : va_G} {cy : Nat → ClassId} {sa : Nat → Nat} {de B : Nat} {ad : Ad} {S : St} {n : Nat → Nat} {T : St} {k : Nat → Nat} {th : Int32} {X : Rl} {x y : Int32} {mcc mss : Nat} {Qc : Array Value → State → Outcome → State → Prop} {GX : String → Heap → Prop} (hfl : l.stackTraces = false)  (hC : Cx p m c cc nL s args own D cy sa de B) (hS : va_S (AB B) s.heap H locs) (hG : GW D B ad (Vw cy de ad S n T k th X) H) (h0 : CI S n)  {idx : Nat} (wl : Cond.methodLink own idx yX6_floor ∈ G0) (hR : 7 + 1 ≤ R.frames ∧ 8 + (4 + 11) + 102 ≤ R.locals) (hsz : ls.size = nL) (hst : (rest.map fun v => v.category).sum ≤ 8) (hdg : decode cc pc = .ok (.invokevirtual idx, 3)) (hcs : cells + 2 ≤ R.cells ∧ slots + 12 ≤ R.slots) (hex : ∀ x ∈ c.exceptionTable.toList, False) (hlk : meth.locks = false) (hmc : cells + 2 ≤ mcc) (hms : slots + 12 ≤ mss) (hxx : ∀ (E : String) (H1 : Heap), ((fun E H => ((E = "java/lang/IndexOutOfBoundsException" ∧ cd_floor S n x y = 1) ∨ (E = "java/lang/IllegalArgumentException" ∧ cd_floor S n x y = 2) ∨ (E = "java/lang/UnsupportedOperationException" ∧ cd_floor S n x y = 3)) ∧ GW D B ad (Vw cy de ad S n T k th X) H)) E H1 → GX E H1) (k0 : (cd_floor S n x y = 0) → ∀ (H1 : Heap) (locs1 : List Loc), GW D B ad (Vw cy de ad (puF S x y (n 0)) n T k th X) H1 → va_S (AB B) s.heap H1 locs1 → W p l e R s m args below meth c H1 locs1 (cells + 2) (slots + 12) (vx_MQ below Qc (oX B GX) args s mcc mss (AB B)) (F0 m (pc + 3) ls (.int (ptF S y (n 0)) :: rest))) : W p l e R s m args below meth c H locs cells slots (vx_MQ below Qc (oX B GX) args s mcc mss (AB B)) (F0 m pc ls (.int y :: .int x :: .ref (ad 0 0 0) :: rest)) :=
  vx_calli (xV hC hS hG h0 (As := [.int x, .int y]) (c_X6_floor l hfl) ⟨rfl, rfl⟩ wl im_X6_floor sl_X6_X6_floor in_X6 cd_X6_floor (n := 2) (by decide +kernel) hR (recv hC hG (q := (RX6, TX6, 6)) rfl V_games) rfl hsz hst rfl hdg hcs) hS (fun _ _ h => h) (fun _ h => h) (fun _ _ h => h) (fun E ce q9 u t H1 locs1 ht hv hp hB hz hq hS1 hce hcv hcl => prop_out hS1 hex hlk (hxx E H1 (by dsimp only at hB; rw [ht] at hB; exact hB)) hce hcv hcl hmc hms) (fun r u t H1 locs1 ht _ hr hB _ _ hS1 => by
      subst hr
      have hB9 := hB; try dsimp only at hB9
      rw [ht] at hB9
      rcases hB9 with ⟨q0, rfl, hG1⟩
      · exact k0 q0 _ _ hG1 hS1)
set_option maxHeartbeats 4000000 in
set_option maxRecDepth 100000 in
theorem c_X6_swap (l : Launch) (hfl : l.stackTraces = false) {D : va_G} {cy : Nat → ClassId} {sa : Nat → Nat} {de B : Nat} {ad : Ad} {S : St} {n : Nat → Nat} {T : St} {k : Nat → Nat} {th : Int32} {X : Rl} {x y z : Int32}  : vx_Met l yX6_swap (Cond.code yX6_swap cX6_swap 7 (Option.some Jvm.ClassFile.FieldType.int) :: G0) ({ frames := 7, cells := 4, slots := 24, locals := 103 } : Room) (va_Pc [.ref (ad 0 0 0), .int x, .int y, .int z] (PW D cy sa de B ad (Vw cy de ad S n T k th X) (CI S n))) (oI B (fun r H => (cd_swap S n x y z = 0 ∧ r = (swp S n x (ci y) (ci z)) ∧ GW D B ad (Vw cy de ad (up_swap S y z) n T k th X) H))) (oX B (fun E H => ((E = "java/lang/IndexOutOfBoundsException" ∧ cd_swap S n x y z = 1) ∨ (E = "java/lang/IllegalArgumentException" ∧ cd_swap S n x y z = 2) ∨ (E = "java/lang/UnsupportedOperationException" ∧ cd_swap S n x y z = 3)) ∧ GW D B ad (Vw cy de ad S n T k th X) H)) 4 24 (AB B) := by
  refine E_vx (own := RX6) rfl rfl (Nat.le_of_ble_eq_true rfl) ?_
  intro p e s m below meth c hC hr hlk hex hG h0 ls hl
  have hx := hC.x
  have hb := hC.b
  have hS : va_S (AB B) s.heap s.heap [] := va_S.rf
  have hl : lo ls 7 [some (.ref (ad 0 0 0)), some (.int x), some (.int y), some (.int z), none, none, none] := lo_of hl
  obtain ⟨hW, hNE, hCH, hBL⟩ := h0
  have hW9 := hW
  obtain ⟨hB0, hB1, hB2, hB3, hB4, hB5, hB6, hB7, hKI, hEI, hKY⟩ := hW9
  
  refine o_iload_n hx hb dX6_swap_0 hl rfl ?_
  refine k_X6_needLand hfl hC hS hG trivial ml_X6_29 ⟨Nat.le_of_ble_eq_true rfl, Nat.le_of_ble_eq_true rfl⟩ hl.1 (Nat.le_of_ble_eq_true rfl) dX6_swap_1 ⟨Nat.le_of_ble_eq_true rfl, Nat.le_of_ble_eq_true rfl⟩ hex hlk (Nat.le_of_ble_eq_true rfl) (Nat.le_of_ble_eq_true rfl) (fun E H1 hE => ⟨Or.inl (⟨hE.1.1, (by simp only [cd_swap]; exact cif_f (fun z => hE.1.2 z.1))⟩), hE.2⟩) (fun a1 h1_0 h1_1 H locs hG hS => ?_)
  subst h1_1
  have z1 : ci (nI a1) = a1 := nI_clamp (by omega)
  refine o_aload_n hx hb dX6_swap_4 hl rfl ?_
  refine o_iload_n hx hb dX6_swap_5 hl rfl ?_
  refine k_X6_needAthlete hfl hC hS hG hW ml_X6_53 ⟨Nat.le_of_ble_eq_true rfl, Nat.le_of_ble_eq_true rfl⟩ hl.1 (Nat.le_of_ble_eq_true rfl) dX6_swap_6 ⟨Nat.le_of_ble_eq_true rfl, Nat.le_of_ble_eq_true rfl⟩ hex hlk (Nat.le_of_ble_eq_true rfl) (Nat.le_of_ble_eq_true rfl) (fun E H1 hE => ⟨Or.inl (⟨hE.1.1, (by simp only [cd_swap]; exact cif_f (fun z => hE.1.2 z.2.1))⟩), hE.2⟩) (fun a6 h6_0 h6_1 H locs hG hS => ?_)
  subst h6_1
  have z6 : ci (nI a6) = a6 := nI_clamp (by omega)
  refine o_astore hx hb dX6_swap_9 hl (by decide) rfl (fun ls hl => ?_)
  refine o_aload_n hx hb dX6_swap_11 hl rfl ?_
  refine o_iload_n hx hb dX6_swap_12 hl rfl ?_
  refine k_X6_needAthlete hfl hC hS hG hW ml_X6_53 ⟨Nat.le_of_ble_eq_true rfl, Nat.le_of_ble_eq_true rfl⟩ hl.1 (Nat.le_of_ble_eq_true rfl) dX6_swap_13 ⟨Nat.le_of_ble_eq_true rfl, Nat.le_of_ble_eq_true rfl⟩ hex hlk (Nat.le_of_ble_eq_true rfl) (Nat.le_of_ble_eq_true rfl) (fun E H1 hE => ⟨Or.inl (⟨hE.1.1, (by simp only [cd_swap]; exact cif_f (fun z => hE.1.2 z.2.2))⟩), hE.2⟩) (fun a13 h13_0 h13_1 H locs hG hS => ?_)
  subst h13_1
  have z13 : ci (nI a13) = a13 := nI_clamp (by omega)
  refine o_astore hx hb dX6_swap_16 hl (by decide) rfl (fun ls hl => ?_)
  refine o_aload hx hb dX6_swap_18 hl rfl ?_
  refine g_get hC hG us_X0 rfl 1 (by decide) fl_X6_138 (V_ath (by omega)) rfl dX6_swap_20 ?_
  refine o_iload_n hx hb dX6_swap_23 hl rfl ?_
  refine lv_icmp_ne (tgt := 35) hx hb dX6_swap_24 (by decide) (fun h24 => ?_) (fun h24 => ?_)
  · skip
    exact thrW_IA hC hfl hS hG hex hlk hl.1 (si := 42) rfl dX6_swap_35 dX6_swap_38 dX6_swap_39 dX6_swap_42 dX6_swap_45 (Nat.le_of_ble_eq_true rfl) (Nat.le_of_ble_eq_true rfl) (Nat.le_of_ble_eq_true rfl) (Nat.le_of_ble_eq_true rfl) (fun H1 hG1 => ⟨Or.inr (Or.inl (⟨rfl, (by simp only [cd_swap, z6, z13]; exact (cif_t ⟨ix_nI h1_0, ix_nI h6_0, ix_nI h13_0⟩).trans (cif_f (fun z => by first | exact h24 z.1.1 | exact z.1.2 h32)))⟩)), hG1⟩) (Nat.le_of_ble_eq_true rfl) (Nat.le_of_ble_eq_true rfl)
  · skip
    refine o_aload hx hb dX6_swap_27 hl rfl ?_
    refine g_get hC hG us_X0 rfl 9 (by decide) fl_X6_368 (V_ath (by omega)) rfl dX6_swap_29 ?_
    refine lv_if_ne (tgt := 46) hx hb dX6_swap_32 (by decide) (fun h32 => ?_) (fun h32 => ?_)
    · skip
      refine o_aload hx hb dX6_swap_46 hl rfl ?_
      refine g_get hC hG us_X0 rfl 1 (by decide) fl_X6_138 (V_ath (by omega)) rfl dX6_swap_48 ?_
      refine o_iload_n hx hb dX6_swap_51 hl rfl ?_
      refine lv_icmp_ne (tgt := 63) hx hb dX6_swap_52 (by decide) (fun h52 => ?_) (fun h52 => ?_)
      · skip
        exact thrW_IA hC hfl hS hG hex hlk hl.1 (si := 43) rfl dX6_swap_63 dX6_swap_66 dX6_swap_67 dX6_swap_70 dX6_swap_73 (Nat.le_of_ble_eq_true rfl) (Nat.le_of_ble_eq_true rfl) (Nat.le_of_ble_eq_true rfl) (Nat.le_of_ble_eq_true rfl) (fun H1 hG1 => ⟨Or.inr (Or.inl (⟨rfl, (by simp only [cd_swap, z6, z13]; exact (cif_t ⟨ix_nI h1_0, ix_nI h6_0, ix_nI h13_0⟩).trans (cif_f (fun z => by first | exact h52 z.2.1 | exact h60 z.2.2)))⟩)), hG1⟩) (Nat.le_of_ble_eq_true rfl) (Nat.le_of_ble_eq_true rfl)
      · skip
        refine o_aload hx hb dX6_swap_55 hl rfl ?_
        refine g_get hC hG us_X0 rfl 9 (by decide) fl_X6_368 (V_ath (by omega)) rfl dX6_swap_57 ?_
        refine lv_if_eq (tgt := 74) hx hb dX6_swap_60 (by decide) (fun h60 => ?_) (fun h60 => ?_)
        · skip
          refine o_aload_n hx hb dX6_swap_74 hl rfl ?_
          refine o_aload_n hx hb dX6_swap_75 hl rfl ?_
          refine o_iload_n hx hb dX6_swap_76 hl rfl ?_
          refine k_X6_bitsOnFloor hC hS hG hW ml_X6_375 ⟨Nat.le_of_ble_eq_true rfl, Nat.le_of_ble_eq_true rfl⟩ hl.1 (Nat.le_of_ble_eq_true rfl) dX6_swap_77 ⟨Nat.le_of_ble_eq_true rfl, Nat.le_of_ble_eq_true rfl⟩ ?_
          refine k_X6_pointsOf hC hS hG hW ml_X6_360 ⟨Nat.le_of_ble_eq_true rfl, Nat.le_of_ble_eq_true rfl⟩ hl.1 (Nat.le_of_ble_eq_true rfl) dX6_swap_80 ⟨Nat.le_of_ble_eq_true rfl, Nat.le_of_ble_eq_true rfl⟩ ?_
          refine o_aload hx hb dX6_swap_83 hl rfl ?_
          refine k_X0_pointsByNow hC hS hG ⟨by omega, hW⟩ ml_X6_378 ⟨Nat.le_of_ble_eq_true rfl, Nat.le_of_ble_eq_true rfl⟩ hl.1 (Nat.le_of_ble_eq_true rfl) dX6_swap_85 ⟨Nat.le_of_ble_eq_true rfl, Nat.le_of_ble_eq_true rfl⟩ ?_
          refine lv_isub hx hb dX6_swap_88 ?_
          refine o_aload hx hb dX6_swap_89 hl rfl ?_
          refine k_X0_pointsByNow hC hS hG ⟨by omega, hW⟩ ml_X6_378 ⟨Nat.le_of_ble_eq_true rfl, Nat.le_of_ble_eq_true rfl⟩ hl.1 (Nat.le_of_ble_eq_true rfl) dX6_swap_91 ⟨Nat.le_of_ble_eq_true rfl, Nat.le_of_ble_eq_true rfl⟩ ?_
          refine lv_iadd hx hb dX6_swap_94 ?_
          refine o_istore hx hb dX6_swap_95 hl (by decide) rfl (fun ls hl => ?_)
          refine o_aload hx hb dX6_swap_97 hl rfl ?_
          refine g_get hC hG us_X0 rfl 7 (by decide) fl_X6_157 (V_ath (by omega)) rfl dX6_swap_99 ?_
          rcases hKI a13 (by omega) with hk99 | ⟨q99, hq99, hk99⟩
          · skip
            rw [kro_null (show _ = -1 by exact hk99)]
            refine lv_ifnullN (tgt := 112) hx hb dX6_swap_102 (by decide) ?_
            exact thrW_UO hC hfl hS hG hex hlk hl.1 (si := 44) rfl dX6_swap_112 dX6_swap_115 dX6_swap_116 dX6_swap_119 dX6_swap_122 (Nat.le_of_ble_eq_true rfl) (Nat.le_of_ble_eq_true rfl) (Nat.le_of_ble_eq_true rfl) (Nat.le_of_ble_eq_true rfl) (fun H1 hG1 => ⟨Or.inr (Or.inr (⟨rfl, (by simp only [cd_swap, z6, z13]; exact (cif_t ⟨ix_nI h1_0, ix_nI h6_0, ix_nI h13_0⟩).trans ((cif_t ⟨⟨h24, h32⟩, h52, h60⟩).trans (cif_f (fun z => by first | exact z.1 hk99 | exact h109 z.2))))⟩)), hG1⟩) (Nat.le_of_ble_eq_true rfl) (Nat.le_of_ble_eq_true rfl)
          · skip
            rw [kro_ref (show _ = nI q99 by exact hk99) (by omega)]
            refine lv_ifnull hx hb dX6_swap_102 ?_
            refine o_iload hx hb dX6_swap_105 hl rfl ?_
            refine lv_bipush (v := 12) hx hb dX6_swap_107 (by decide) ?_
            refine lv_icmp_le (tgt := 123) hx hb dX6_swap_109 (by decide) (fun h109 => ?_) (fun h109 => ?_)
            · skip
              refine o_aload hx hb dX6_swap_123 hl rfl ?_
              refine lv_iconst (v := 0) hx hb dX6_swap_125 (by decide) ?_
              refine g_put hC hG hS us_X0 tyX0_ok nmX0 rfl 9 (by decide) fl_X6_368 rfl (V_ath (by omega)) rfl rfl (Nat.le_of_ble_eq_true rfl) (P_ath_stands (by omega)) dX6_swap_126 (fun H locs hG hS => ?_)
              refine o_aload hx hb dX6_swap_129 hl rfl ?_
              refine lv_iconst (v := 1) hx hb dX6_swap_131 (by decide) ?_
              refine g_put hC hG hS us_X0 tyX0_ok nmX0 rfl 9 (by decide) fl_X6_368 rfl (V_ath (by omega)) rfl rfl (Nat.le_of_ble_eq_true rfl) (P_ath_stands (by omega)) dX6_swap_132 (fun H locs hG hS => ?_)
              refine o_iload hx hb dX6_swap_135 hl rfl ?_
              refine vx_ret ?_
              exact R_I hC hS hr hlk rfl (⟨(by simp only [cd_swap, z6, z13]; exact (cif_t ⟨ix_nI h1_0, ix_nI h6_0, ix_nI h13_0⟩).trans ((cif_t ⟨⟨h24, h32⟩, h52, h60⟩).trans (cif_t ⟨by rw [hk99]; exact nI_ne_m1 (by omega), h109⟩))), (by rw [z6, z13]; rfl), (by simp only [up_swap, z6, z13]; exact hG)⟩) (Nat.le_of_ble_eq_true rfl) (Nat.le_of_ble_eq_true rfl) dX6_swap_137
            · skip
              exact thrW_UO hC hfl hS hG hex hlk hl.1 (si := 44) rfl dX6_swap_112 dX6_swap_115 dX6_swap_116 dX6_swap_119 dX6_swap_122 (Nat.le_of_ble_eq_true rfl) (Nat.le_of_ble_eq_true rfl) (Nat.le_of_ble_eq_true rfl) (Nat.le_of_ble_eq_true rfl) (fun H1 hG1 => ⟨Or.inr (Or.inr (⟨rfl, (by simp only [cd_swap, z6, z13]; exact (cif_t ⟨ix_nI h1_0, ix_nI h6_0, ix_nI h13_0⟩).trans ((cif_t ⟨⟨h24, h32⟩, h52, h60⟩).trans (cif_f (fun z => by first | exact z.1 hk99 | exact h109 z.2))))⟩)), hG1⟩) (Nat.le_of_ble_eq_true rfl) (Nat.le_of_ble_eq_true rfl)
        · skip
          exact thrW_IA hC hfl hS hG hex hlk hl.1 (si := 43) rfl dX6_swap_63 dX6_swap_66 dX6_swap_67 dX6_swap_70 dX6_swap_73 (Nat.le_of_ble_eq_true rfl) (Nat.le_of_ble_eq_true rfl) (Nat.le_of_ble_eq_true rfl) (Nat.le_of_ble_eq_true rfl) (fun H1 hG1 => ⟨Or.inr (Or.inl (⟨rfl, (by simp only [cd_swap, z6, z13]; exact (cif_t ⟨ix_nI h1_0, ix_nI h6_0, ix_nI h13_0⟩).trans (cif_f (fun z => by first | exact h52 z.2.1 | exact h60 z.2.2)))⟩)), hG1⟩) (Nat.le_of_ble_eq_true rfl) (Nat.le_of_ble_eq_true rfl)
    · skip
      exact thrW_IA hC hfl hS hG hex hlk hl.1 (si := 42) rfl dX6_swap_35 dX6_swap_38 dX6_swap_39 dX6_swap_42 dX6_swap_45 (Nat.le_of_ble_eq_true rfl) (Nat.le_of_ble_eq_true rfl) (Nat.le_of_ble_eq_true rfl) (Nat.le_of_ble_eq_true rfl) (fun H1 hG1 => ⟨Or.inr (Or.inl (⟨rfl, (by simp only [cd_swap, z6, z13]; exact (cif_t ⟨ix_nI h1_0, ix_nI h6_0, ix_nI h13_0⟩).trans (cif_f (fun z => by first | exact h24 z.1.1 | exact z.1.2 h32)))⟩)), hG1⟩) (Nat.le_of_ble_eq_true rfl) (Nat.le_of_ble_eq_true rfl)
theorem k_X6_swap {p : Program} {l : Launch} {e : Env} {R : Room} {s : State} {m : MethodId} {args : Array Value} {below : List Frame} {meth : Method} {c : Code} {H : Heap} {locs : List Loc} {cells slots : Nat} {cc : ByteArray} {pc nL : Nat} {ls : Array Slot} {rest : List Value} {own : String} {D : va_G} {cy : Nat → ClassId} {sa : Nat → Nat} {de B : Nat} {ad : Ad} {S : St} {n : Nat → Nat} {T : St} {k : Nat → Nat} {th : Int32} {X : Rl} {x y z : Int32} {mcc mss : Nat} {Qc : Array Value → State → Outcome → State → Prop} {GX : String → Heap → Prop} (hfl : l.stackTraces = false)  (hC : Cx p m c cc nL s args own D cy sa de B) (hS : va_S (AB B) s.heap H locs) (hG : GW D B ad (Vw cy de ad S n T k th X) H) (h0 : CI S n)  {idx : Nat} (wl : Cond.methodLink own idx yX6_swap ∈ G0) (hR : 7 + 1 ≤ R.frames ∧ 8 + (7 + 11) + 103 ≤ R.locals) (hsz : ls.size = nL) (hst : (rest.map fun v => v.category).sum ≤ 8) (hdg : decode cc pc = .ok (.invokevirtual idx, 3)) (hcs : cells + 4 ≤ R.cells ∧ slots + 24 ≤ R.slots) (hex : ∀ x ∈ c.exceptionTable.toList, False) (hlk : meth.locks = false) (hmc : cells + 4 ≤ mcc) (hms : slots + 24 ≤ mss) (hxx : ∀ (E : String) (H1 : Heap), ((fun E H => ((E = "java/lang/IndexOutOfBoundsException" ∧ cd_swap S n x y z = 1) ∨ (E = "java/lang/IllegalArgumentException" ∧ cd_swap S n x y z = 2) ∨ (E = "java/lang/UnsupportedOperationException" ∧ cd_swap S n x y z = 3)) ∧ GW D B ad (Vw cy de ad S n T k th X) H)) E H1 → GX E H1) (k0 : (cd_swap S n x y z = 0) → ∀ (H1 : Heap) (locs1 : List Loc), GW D B ad (Vw cy de ad (up_swap S y z) n T k th X) H1 → va_S (AB B) s.heap H1 locs1 → W p l e R s m args below meth c H1 locs1 (cells + 4) (slots + 24) (vx_MQ below Qc (oX B GX) args s mcc mss (AB B)) (F0 m (pc + 3) ls (.int (swp S n x (ci y) (ci z)) :: rest))) : W p l e R s m args below meth c H locs cells slots (vx_MQ below Qc (oX B GX) args s mcc mss (AB B)) (F0 m pc ls (.int z :: .int y :: .int x :: .ref (ad 0 0 0) :: rest)) :=
  vx_calli (xV hC hS hG h0 (As := [.int x, .int y, .int z]) (c_X6_swap l hfl) ⟨rfl, rfl⟩ wl im_X6_swap sl_X6_X6_swap in_X6 cd_X6_swap (n := 3) (by decide +kernel) hR (recv hC hG (q := (RX6, TX6, 6)) rfl V_games) rfl hsz hst rfl hdg hcs) hS (fun _ _ h => h) (fun _ h => h) (fun _ _ h => h) (fun E ce q9 u t H1 locs1 ht hv hp hB hz hq hS1 hce hcv hcl => prop_out hS1 hex hlk (hxx E H1 (by dsimp only at hB; rw [ht] at hB; exact hB)) hce hcv hcl hmc hms) (fun r u t H1 locs1 ht _ hr hB _ _ hS1 => by
      subst hr
      have hB9 := hB; try dsimp only at hB9
      rw [ht] at hB9
      rcases hB9 with ⟨q0, rfl, hG1⟩
      · exact k0 q0 _ _ hG1 hS1)
set_option maxHeartbeats 4000000 in
set_option maxRecDepth 100000 in
theorem c_X6_onFloor (l : Launch) (hfl : l.stackTraces = false) {D : va_G} {cy : Nat → ClassId} {sa : Nat → Nat} {de B : Nat} {ad : Ad} {S : St} {n : Nat → Nat} {T : St} {k : Nat → Nat} {th : Int32} {X : Rl} {x : Int32}  : vx_Met l yX6_onFloor (Cond.code yX6_onFloor cX6_onFloor 2 (Option.some Jvm.ClassFile.FieldType.int) :: G0) ({ frames := 7, cells := 1, slots := 6, locals := 102 } : Room) (va_Pc [.ref (ad 0 0 0), .int x] (PW D cy sa de B ad (Vw cy de ad S n T k th X) (CI S n))) (oI B (fun r H => (cd_money x = 0 ∧ r = (biF S x (n 0)) ∧ GW D B ad (Vw cy de ad S n T k th X) H))) (oX B (fun E H => ((E = "java/lang/IndexOutOfBoundsException" ∧ cd_money x = 1)) ∧ GW D B ad (Vw cy de ad S n T k th X) H)) 1 6 (AB B) := by
  refine E_vx (own := RX6) rfl rfl (Nat.le_of_ble_eq_true rfl) ?_
  intro p e s m below meth c hC hr hlk hex hG h0 ls hl
  have hx := hC.x
  have hb := hC.b
  have hS : va_S (AB B) s.heap s.heap [] := va_S.rf
  have hl : lo ls 2 [some (.ref (ad 0 0 0)), some (.int x)] := lo_of hl
  obtain ⟨hW, hNE, hCH, hBL⟩ := h0
  have hW9 := hW
  obtain ⟨hB0, hB1, hB2, hB3, hB4, hB5, hB6, hB7, hKI, hEI, hKY⟩ := hW9
  
  refine o_iload_n hx hb dX6_onFloor_0 hl rfl ?_
  refine k_X6_needLand hfl hC hS hG trivial ml_X6_29 ⟨Nat.le_of_ble_eq_true rfl, Nat.le_of_ble_eq_true rfl⟩ hl.1 (Nat.le_of_ble_eq_true rfl) dX6_onFloor_1 ⟨Nat.le_of_ble_eq_true rfl, Nat.le_of_ble_eq_true rfl⟩ hex hlk (Nat.le_of_ble_eq_true rfl) (Nat.le_of_ble_eq_true rfl) (fun E H1 hE => ⟨⟨hE.1.1, (by simp only [cd_money]; exact cif_f hE.1.2)⟩, hE.2⟩) (fun a1 h1_0 h1_1 H locs hG hS => ?_)
  subst h1_1
  have z1 : ci (nI a1) = a1 := nI_clamp (by omega)
  refine o_aload_n hx hb dX6_onFloor_4 hl rfl ?_
  refine o_iload_n hx hb dX6_onFloor_5 hl rfl ?_
  refine k_X6_bitsOnFloor hC hS hG hW ml_X6_375 ⟨Nat.le_of_ble_eq_true rfl, Nat.le_of_ble_eq_true rfl⟩ hl.1 (Nat.le_of_ble_eq_true rfl) dX6_onFloor_6 ⟨Nat.le_of_ble_eq_true rfl, Nat.le_of_ble_eq_true rfl⟩ ?_
  refine vx_ret ?_
  exact R_I hC hS hr hlk rfl (⟨(by simp only [cd_money]; exact cif_t (ix_nI h1_0)), (by rfl), (by exact hG)⟩) (Nat.le_of_ble_eq_true rfl) (Nat.le_of_ble_eq_true rfl) dX6_onFloor_9
theorem k_X6_onFloor {p : Program} {l : Launch} {e : Env} {R : Room} {s : State} {m : MethodId} {args : Array Value} {below : List Frame} {meth : Method} {c : Code} {H : Heap} {locs : List Loc} {cells slots : Nat} {cc : ByteArray} {pc nL : Nat} {ls : Array Slot} {rest : List Value} {own : String} {D : va_G} {cy : Nat → ClassId} {sa : Nat → Nat} {de B : Nat} {ad : Ad} {S : St} {n : Nat → Nat} {T : St} {k : Nat → Nat} {th : Int32} {X : Rl} {x : Int32} {mcc mss : Nat} {Qc : Array Value → State → Outcome → State → Prop} {GX : String → Heap → Prop} (hfl : l.stackTraces = false)  (hC : Cx p m c cc nL s args own D cy sa de B) (hS : va_S (AB B) s.heap H locs) (hG : GW D B ad (Vw cy de ad S n T k th X) H) (h0 : CI S n)  {idx : Nat} (wl : Cond.methodLink own idx yX6_onFloor ∈ G0) (hR : 7 + 1 ≤ R.frames ∧ 8 + (2 + 11) + 102 ≤ R.locals) (hsz : ls.size = nL) (hst : (rest.map fun v => v.category).sum ≤ 8) (hdg : decode cc pc = .ok (.invokevirtual idx, 3)) (hcs : cells + 1 ≤ R.cells ∧ slots + 6 ≤ R.slots) (hex : ∀ x ∈ c.exceptionTable.toList, False) (hlk : meth.locks = false) (hmc : cells + 1 ≤ mcc) (hms : slots + 6 ≤ mss) (hxx : ∀ (E : String) (H1 : Heap), ((fun E H => ((E = "java/lang/IndexOutOfBoundsException" ∧ cd_money x = 1)) ∧ GW D B ad (Vw cy de ad S n T k th X) H)) E H1 → GX E H1) (k0 : (cd_money x = 0) → ∀ (H1 : Heap) (locs1 : List Loc), GW D B ad (Vw cy de ad S n T k th X) H1 → va_S (AB B) s.heap H1 locs1 → W p l e R s m args below meth c H1 locs1 (cells + 1) (slots + 6) (vx_MQ below Qc (oX B GX) args s mcc mss (AB B)) (F0 m (pc + 3) ls (.int (biF S x (n 0)) :: rest))) : W p l e R s m args below meth c H locs cells slots (vx_MQ below Qc (oX B GX) args s mcc mss (AB B)) (F0 m pc ls (.int x :: .ref (ad 0 0 0) :: rest)) :=
  vx_calli (xV hC hS hG h0 (As := [.int x]) (c_X6_onFloor l hfl) ⟨rfl, rfl⟩ wl im_X6_onFloor sl_X6_X6_onFloor in_X6 cd_X6_onFloor (n := 1) (by decide +kernel) hR (recv hC hG (q := (RX6, TX6, 6)) rfl V_games) rfl hsz hst rfl hdg hcs) hS (fun _ _ h => h) (fun _ h => h) (fun _ _ h => h) (fun E ce q9 u t H1 locs1 ht hv hp hB hz hq hS1 hce hcv hcl => prop_out hS1 hex hlk (hxx E H1 (by dsimp only at hB; rw [ht] at hB; exact hB)) hce hcv hcl hmc hms) (fun r u t H1 locs1 ht _ hr hB _ _ hS1 => by
      subst hr
      have hB9 := hB; try dsimp only at hB9
      rw [ht] at hB9
      rcases hB9 with ⟨q0, rfl, hG1⟩
      · exact k0 q0 _ _ hG1 hS1)
set_option maxHeartbeats 4000000 in
set_option maxRecDepth 100000 in
theorem c_X6_points (l : Launch) (hfl : l.stackTraces = false) {D : va_G} {cy : Nat → ClassId} {sa : Nat → Nat} {de B : Nat} {ad : Ad} {S : St} {n : Nat → Nat} {T : St} {k : Nat → Nat} {th : Int32} {X : Rl} {x : Int32}  : vx_Met l yX6_points (Cond.code yX6_points cX6_points 2 (Option.some Jvm.ClassFile.FieldType.int) :: G0) ({ frames := 7, cells := 1, slots := 6, locals := 102 } : Room) (va_Pc [.ref (ad 0 0 0), .int x] (PW D cy sa de B ad (Vw cy de ad S n T k th X) (CI S n))) (oI B (fun r H => (cd_money x = 0 ∧ r = (ptF S (biF S x (n 0)) (n 0)) ∧ GW D B ad (Vw cy de ad S n T k th X) H))) (oX B (fun E H => ((E = "java/lang/IndexOutOfBoundsException" ∧ cd_money x = 1)) ∧ GW D B ad (Vw cy de ad S n T k th X) H)) 1 6 (AB B) := by
  refine E_vx (own := RX6) rfl rfl (Nat.le_of_ble_eq_true rfl) ?_
  intro p e s m below meth c hC hr hlk hex hG h0 ls hl
  have hx := hC.x
  have hb := hC.b
  have hS : va_S (AB B) s.heap s.heap [] := va_S.rf
  have hl : lo ls 2 [some (.ref (ad 0 0 0)), some (.int x)] := lo_of hl
  obtain ⟨hW, hNE, hCH, hBL⟩ := h0
  have hW9 := hW
  obtain ⟨hB0, hB1, hB2, hB3, hB4, hB5, hB6, hB7, hKI, hEI, hKY⟩ := hW9
  
  refine o_iload_n hx hb dX6_points_0 hl rfl ?_
  refine k_X6_needLand hfl hC hS hG trivial ml_X6_29 ⟨Nat.le_of_ble_eq_true rfl, Nat.le_of_ble_eq_true rfl⟩ hl.1 (Nat.le_of_ble_eq_true rfl) dX6_points_1 ⟨Nat.le_of_ble_eq_true rfl, Nat.le_of_ble_eq_true rfl⟩ hex hlk (Nat.le_of_ble_eq_true rfl) (Nat.le_of_ble_eq_true rfl) (fun E H1 hE => ⟨⟨hE.1.1, (by simp only [cd_money]; exact cif_f hE.1.2)⟩, hE.2⟩) (fun a1 h1_0 h1_1 H locs hG hS => ?_)
  subst h1_1
  have z1 : ci (nI a1) = a1 := nI_clamp (by omega)
  refine o_aload_n hx hb dX6_points_4 hl rfl ?_
  refine o_aload_n hx hb dX6_points_5 hl rfl ?_
  refine o_iload_n hx hb dX6_points_6 hl rfl ?_
  refine k_X6_bitsOnFloor hC hS hG hW ml_X6_375 ⟨Nat.le_of_ble_eq_true rfl, Nat.le_of_ble_eq_true rfl⟩ hl.1 (Nat.le_of_ble_eq_true rfl) dX6_points_7 ⟨Nat.le_of_ble_eq_true rfl, Nat.le_of_ble_eq_true rfl⟩ ?_
  refine k_X6_pointsOf hC hS hG hW ml_X6_360 ⟨Nat.le_of_ble_eq_true rfl, Nat.le_of_ble_eq_true rfl⟩ hl.1 (Nat.le_of_ble_eq_true rfl) dX6_points_10 ⟨Nat.le_of_ble_eq_true rfl, Nat.le_of_ble_eq_true rfl⟩ ?_
  refine vx_ret ?_
  exact R_I hC hS hr hlk rfl (⟨(by simp only [cd_money]; exact cif_t (ix_nI h1_0)), (by rfl), (by exact hG)⟩) (Nat.le_of_ble_eq_true rfl) (Nat.le_of_ble_eq_true rfl) dX6_points_13
theorem k_X6_points {p : Program} {l : Launch} {e : Env} {R : Room} {s : State} {m : MethodId} {args : Array Value} {below : List Frame} {meth : Method} {c : Code} {H : Heap} {locs : List Loc} {cells slots : Nat} {cc : ByteArray} {pc nL : Nat} {ls : Array Slot} {rest : List Value} {own : String} {D : va_G} {cy : Nat → ClassId} {sa : Nat → Nat} {de B : Nat} {ad : Ad} {S : St} {n : Nat → Nat} {T : St} {k : Nat → Nat} {th : Int32} {X : Rl} {x : Int32} {mcc mss : Nat} {Qc : Array Value → State → Outcome → State → Prop} {GX : String → Heap → Prop} (hfl : l.stackTraces = false)  (hC : Cx p m c cc nL s args own D cy sa de B) (hS : va_S (AB B) s.heap H locs) (hG : GW D B ad (Vw cy de ad S n T k th X) H) (h0 : CI S n)  {idx : Nat} (wl : Cond.methodLink own idx yX6_points ∈ G0) (hR : 7 + 1 ≤ R.frames ∧ 8 + (2 + 11) + 102 ≤ R.locals) (hsz : ls.size = nL) (hst : (rest.map fun v => v.category).sum ≤ 8) (hdg : decode cc pc = .ok (.invokevirtual idx, 3)) (hcs : cells + 1 ≤ R.cells ∧ slots + 6 ≤ R.slots) (hex : ∀ x ∈ c.exceptionTable.toList, False) (hlk : meth.locks = false) (hmc : cells + 1 ≤ mcc) (hms : slots + 6 ≤ mss) (hxx : ∀ (E : String) (H1 : Heap), ((fun E H => ((E = "java/lang/IndexOutOfBoundsException" ∧ cd_money x = 1)) ∧ GW D B ad (Vw cy de ad S n T k th X) H)) E H1 → GX E H1) (k0 : (cd_money x = 0) → ∀ (H1 : Heap) (locs1 : List Loc), GW D B ad (Vw cy de ad S n T k th X) H1 → va_S (AB B) s.heap H1 locs1 → W p l e R s m args below meth c H1 locs1 (cells + 1) (slots + 6) (vx_MQ below Qc (oX B GX) args s mcc mss (AB B)) (F0 m (pc + 3) ls (.int (ptF S (biF S x (n 0)) (n 0)) :: rest))) : W p l e R s m args below meth c H locs cells slots (vx_MQ below Qc (oX B GX) args s mcc mss (AB B)) (F0 m pc ls (.int x :: .ref (ad 0 0 0) :: rest)) :=
  vx_calli (xV hC hS hG h0 (As := [.int x]) (c_X6_points l hfl) ⟨rfl, rfl⟩ wl im_X6_points sl_X6_X6_points in_X6 cd_X6_points (n := 1) (by decide +kernel) hR (recv hC hG (q := (RX6, TX6, 6)) rfl V_games) rfl hsz hst rfl hdg hcs) hS (fun _ _ h => h) (fun _ h => h) (fun _ _ h => h) (fun E ce q9 u t H1 locs1 ht hv hp hB hz hq hS1 hce hcv hcl => prop_out hS1 hex hlk (hxx E H1 (by dsimp only at hB; rw [ht] at hB; exact hB)) hce hcv hcl hmc hms) (fun r u t H1 locs1 ht _ hr hB _ _ hS1 => by
      subst hr
      have hB9 := hB; try dsimp only at hB9
      rw [ht] at hB9
      rcases hB9 with ⟨q0, rfl, hG1⟩
      · exact k0 q0 _ _ hG1 hS1)
set_option maxHeartbeats 4000000 in
set_option maxRecDepth 100000 in
theorem c_X6_checksum (l : Launch) {D : va_G} {cy : Nat → ClassId} {sa : Nat → Nat} {de B : Nat} {ad : Ad} {S : St} {n : Nat → Nat} {T : St} {k : Nat → Nat} {th : Int32} {X : Rl}   : Met l yX6_checksum (Cond.code yX6_checksum cX6_checksum 5 (Option.some Jvm.ClassFile.FieldType.long) :: G0) ({ frames := 3, cells := 0, slots := 0, locals := 64 } : Room) (va_Pc [.ref (ad 0 0 0)] (PW D cy sa de B ad (Vw cy de ad S n T k th X) (CI S n))) (vp_Sl (fun r => r = vl_checksum S n)) 0 0 (fun _ => False) := by
  refine E_met (own := RX6) rfl rfl (Nat.le_of_ble_eq_true rfl) ?_
  intro p e s m below meth c hC hr hlk hnm hG h0 ls hl
  have hx := hC.x
  have hb := hC.b
  have hS : va_S (AB B) s.heap s.heap [] := va_S.rf
  have hl : lo ls 5 [some (.ref (ad 0 0 0)), none, none, none, none] := lo_of hl
  obtain ⟨hW, hNE, hCH, hBL⟩ := h0
  have hW9 := hW
  obtain ⟨hB0, hB1, hB2, hB3, hB4, hB5, hB6, hB7, hKI, hEI, hKY⟩ := hW9
  
  refine lv_ldc2 hx hb hC.o (hC.t _ ct_X6_383) dX6_checksum_0 ?_
  refine o_lstore_n hx hb dX6_checksum_3 hl (by decide) rfl (fun ls hl => ?_)
  refine lv_iconst (v := 0) hx hb dX6_checksum_4 (by decide) ?_
  refine o_istore_n hx hb dX6_checksum_5 hl (by decide) rfl (fun ls hl => ?_)
  have loop6 : ∀ (q9 : Nat) (y : Nat), y ≤ n 0 ∧ n 0 < y + q9 → ∀ ls : Array Slot, lo ls 5 [some (.ref (ad 0 0 0)), some (.long (ck1 S y)), none, some (.int (nI y)), none] → W p l e ({ frames := 3, cells := 0, slots := 0, locals := 64 } : Room) s m [.ref (ad 0 0 0)].toArray below meth c s.heap [] 0 0 (MQ below (vp_Sl (fun r => r = vl_checksum S n)) [.ref (ad 0 0 0)].toArray s 0 0 (fun _ => False)) (F0 m 6 ls []) := by
    intro q9
    induction q9 with
    | zero => intro y hq9; exact absurd hq9 (by omega)
    | succ q9 ih6 =>
      intro y hq9   ls hl
      refine o_iload_n hx hb dX6_checksum_6 hl rfl ?_
      refine o_aload_n hx hb dX6_checksum_7 hl rfl ?_
      refine g_get hC hG us_X6 rfl 0 (by decide) fl_X6_10 V_games rfl dX6_checksum_8 ?_
      refine k_Jx4a65c_size_8abf5 (q := 0) hC hS hG (by omega) ml_X6_33 ⟨Nat.le_of_ble_eq_true rfl, Nat.le_of_ble_eq_true rfl⟩ hl.1 (Nat.le_of_ble_eq_true rfl) dX6_checksum_11 ⟨Nat.le_of_ble_eq_true rfl, Nat.le_of_ble_eq_true rfl⟩ ?_
      refine n_icmp_ge (tgt := 65) hx hb y (n 0) rfl rfl (by omega) (by omega) dX6_checksum_14 (by decide) (fun h14 => ?_) (fun h14 => ?_)
      · skip
        refine lv_iconst (v := 0) hx hb dX6_checksum_65 (by decide) ?_
        refine o_istore_n hx hb dX6_checksum_66 hl (by decide) rfl (fun ls hl => ?_)
        have loop67 : ∀ (q9 : Nat) (w : Nat), w ≤ n 3 ∧ n 3 < w + q9 → ∀ ls : Array Slot, lo ls 5 [some (.ref (ad 0 0 0)), some (.long (ck2 S (ck1 S (n 0)) w)), none, some (.int (nI w)), none] → W p l e ({ frames := 3, cells := 0, slots := 0, locals := 64 } : Room) s m [.ref (ad 0 0 0)].toArray below meth c s.heap [] 0 0 (MQ below (vp_Sl (fun r => r = vl_checksum S n)) [.ref (ad 0 0 0)].toArray s 0 0 (fun _ => False)) (F0 m 67 ls []) := by
          intro q9
          induction q9 with
          | zero => intro w hq9; exact absurd hq9 (by omega)
          | succ q9 ih67 =>
            intro w hq9   ls hl
            refine o_iload_n hx hb dX6_checksum_67 hl rfl ?_
            refine o_aload_n hx hb dX6_checksum_68 hl rfl ?_
            refine g_get hC hG us_X6 rfl 3 (by decide) fl_X6_22 V_games rfl dX6_checksum_69 ?_
            refine k_Jx4a65c_size_8abf5 (q := 3) hC hS hG (by omega) ml_X6_33 ⟨Nat.le_of_ble_eq_true rfl, Nat.le_of_ble_eq_true rfl⟩ hl.1 (Nat.le_of_ble_eq_true rfl) dX6_checksum_72 ⟨Nat.le_of_ble_eq_true rfl, Nat.le_of_ble_eq_true rfl⟩ ?_
            refine n_icmp_ge (tgt := 100) hx hb w (n 3) rfl rfl (by omega) (by omega) dX6_checksum_75 (by decide) (fun h75 => ?_) (fun h75 => ?_)
            · skip
              refine lv_iconst (v := 0) hx hb dX6_checksum_100 (by decide) ?_
              refine o_istore_n hx hb dX6_checksum_101 hl (by decide) rfl (fun ls hl => ?_)
              have loop102 : ∀ (q9 : Nat) (v : Nat), v ≤ 6 ∧ 6 < v + q9 → ∀ ls : Array Slot, lo ls 5 [some (.ref (ad 0 0 0)), some (.long (ck3 S (ck2 S (ck1 S (n 0)) (n 3)) v)), none, some (.int (nI v)), none] → W p l e ({ frames := 3, cells := 0, slots := 0, locals := 64 } : Room) s m [.ref (ad 0 0 0)].toArray below meth c s.heap [] 0 0 (MQ below (vp_Sl (fun r => r = vl_checksum S n)) [.ref (ad 0 0 0)].toArray s 0 0 (fun _ => False)) (F0 m 102 ls []) := by
                intro q9
                induction q9 with
                | zero => intro v hq9; exact absurd hq9 (by omega)
                | succ q9 ih102 =>
                  intro v hq9   ls hl
                  refine o_iload_n hx hb dX6_checksum_102 hl rfl ?_
                  refine o_aload_n hx hb dX6_checksum_103 hl rfl ?_
                  refine g_get hC hG us_X6 rfl 4 (by decide) fl_X6_25 V_games rfl dX6_checksum_104 ?_
                  refine g_alen hC hG 0 rfl V_mon (v := nI 6) rfl dX6_checksum_107 ?_
                  refine n_icmp_ge (tgt := 131) hx hb v 6 rfl rfl (by omega) (by omega) dX6_checksum_108 (by decide) (fun h108 => ?_) (fun h108 => ?_)
                  · skip
                    refine o_lload_n hx hb dX6_checksum_131 hl rfl ?_
                    exact R_l hC hr hlk (by unfold vl_checksum; rw [show (6 : Nat) = v by omega]) dX6_checksum_132
                  · skip
                    refine lv_ldc2 hx hb hC.o (hC.t _ ct_X6_385) dX6_checksum_111 ?_
                    refine o_lload_n hx hb dX6_checksum_114 hl rfl ?_
                    refine lv_lmul hx hb dX6_checksum_115 ?_
                    refine o_aload_n hx hb dX6_checksum_116 hl rfl ?_
                    refine g_get hC hG us_X6 rfl 4 (by decide) fl_X6_25 V_games rfl dX6_checksum_117 ?_
                    refine o_iload_n hx hb dX6_checksum_120 hl rfl ?_
                    refine g_iald hC hG V_mon v rfl (by omega) (by omega) dX6_checksum_121 ?_
                    refine lv_i2l hx hb dX6_checksum_122 rfl ?_
                    refine lv_ladd hx hb dX6_checksum_123 ?_
                    refine o_lstore_n hx hb dX6_checksum_124 hl (by decide) rfl (fun ls hl => ?_)
                    refine o_iinc1 hx hb dX6_checksum_125 hl rfl (by decide) rfl (fun ls hl => ?_)
                    refine lv_goto (tgt := 102) hx hb dX6_checksum_128 (by decide) ?_
                    exact ih102 (v + 1) (by omega) ls hl
              exact loop102 7 0 (by omega) ls (by rw [show n 3 = w by omega]; exact hl)
            · skip
              refine o_aload_n hx hb dX6_checksum_78 hl rfl ?_
              refine g_get hC hG us_X6 rfl 3 (by decide) fl_X6_22 V_games rfl dX6_checksum_79 ?_
              refine o_iload_n hx hb dX6_checksum_82 hl rfl ?_
              refine k_Jx4a65c_get_915e3 (q := 3) hC hS hG ⟨by omega, by omega, by omega⟩ (show elT 3 = 8 from rfl) ml_X6_185 ⟨Nat.le_of_ble_eq_true rfl, Nat.le_of_ble_eq_true rfl⟩ hl.1 (Nat.le_of_ble_eq_true rfl) dX6_checksum_83 ⟨Nat.le_of_ble_eq_true rfl, Nat.le_of_ble_eq_true rfl⟩ ?_
              refine va_castS hx hb hC.o (hC.t _ cl_X6_221) (hC.K.1 4 _ rfl).2 (recv hC hG (q := (RX3, TX3, 5)) rfl (V_event (by omega))) dX6_checksum_86 ?_
              refine o_lload_n hx hb dX6_checksum_89 hl rfl ?_
              refine k_X3_addTimesTo hC hS hG ⟨by omega, hW, hNE⟩ ml_X6_387 ⟨Nat.le_of_ble_eq_true rfl, Nat.le_of_ble_eq_true rfl⟩ hl.1 (Nat.le_of_ble_eq_true rfl) dX6_checksum_90 ⟨Nat.le_of_ble_eq_true rfl, Nat.le_of_ble_eq_true rfl⟩ ?_
              refine o_lstore_n hx hb dX6_checksum_93 hl (by decide) rfl (fun ls hl => ?_)
              refine o_iinc1 hx hb dX6_checksum_94 hl rfl (by decide) rfl (fun ls hl => ?_)
              refine lv_goto (tgt := 67) hx hb dX6_checksum_97 (by decide) ?_
              exact ih67 (w + 1) (by omega) ls hl
        exact loop67 (n 3 + 1) 0 (by omega) ls (by rw [show n 0 = y by omega]; exact hl)
      · skip
        refine o_aload_n hx hb dX6_checksum_17 hl rfl ?_
        refine g_get hC hG us_X6 rfl 0 (by decide) fl_X6_10 V_games rfl dX6_checksum_18 ?_
        refine o_iload_n hx hb dX6_checksum_21 hl rfl ?_
        refine k_Jx4a65c_get_915e3 (q := 0) hC hS hG ⟨by omega, by omega, by omega⟩ (show elT 0 = 3 from rfl) ml_X6_185 ⟨Nat.le_of_ble_eq_true rfl, Nat.le_of_ble_eq_true rfl⟩ hl.1 (Nat.le_of_ble_eq_true rfl) dX6_checksum_22 ⟨Nat.le_of_ble_eq_true rfl, Nat.le_of_ble_eq_true rfl⟩ ?_
        refine va_castS hx hb hC.o (hC.t _ cl_X6_44) (hC.K.1 1 _ rfl).2 (recv hC hG (q := (RX0, TX0, 10)) rfl (V_ath (by omega))) dX6_checksum_25 ?_
        refine o_astore hx hb dX6_checksum_28 hl (by decide) rfl (fun ls hl => ?_)
        refine lv_ldc2 hx hb hC.o (hC.t _ ct_X6_385) dX6_checksum_30 ?_
        refine o_lload_n hx hb dX6_checksum_33 hl rfl ?_
        refine lv_lmul hx hb dX6_checksum_34 ?_
        refine o_aload hx hb dX6_checksum_35 hl rfl ?_
        refine g_get hC hG us_X0 rfl 7 (by decide) fl_X6_157 (V_ath (by omega)) rfl dX6_checksum_37 ?_
        rcases hKI y (by omega) with hk37 | ⟨q37, hq37, hk37⟩
        · skip
          rw [kro_null (show _ = -1 by exact hk37)]
          refine k_X6_numberOf (o := none) (kk := (-1)) hC hS hG ⟨hW, Or.inl rfl⟩ (kro_none rfl) ml_X6_127 ⟨Nat.le_of_ble_eq_true rfl, Nat.le_of_ble_eq_true rfl⟩ hl.1 (Nat.le_of_ble_eq_true rfl) dX6_checksum_40 ⟨Nat.le_of_ble_eq_true rfl, Nat.le_of_ble_eq_true rfl⟩ ?_
          refine lv_i2l hx hb dX6_checksum_43 rfl ?_
          refine lv_ladd hx hb dX6_checksum_44 ?_
          refine o_lstore_n hx hb dX6_checksum_45 hl (by decide) rfl (fun ls hl => ?_)
          refine lv_ldc2 hx hb hC.o (hC.t _ ct_X6_385) dX6_checksum_46 ?_
          refine o_lload_n hx hb dX6_checksum_49 hl rfl ?_
          refine lv_lmul hx hb dX6_checksum_50 ?_
          refine o_aload hx hb dX6_checksum_51 hl rfl ?_
          refine g_get hC hG us_X0 rfl 6 (by decide) fl_X6_141 (V_ath (by omega)) rfl dX6_checksum_53 ?_
          refine lv_i2l hx hb dX6_checksum_56 rfl ?_
          refine lv_ladd hx hb dX6_checksum_57 ?_
          refine o_lstore_n hx hb dX6_checksum_58 hl (by decide) rfl (fun ls hl => ?_)
          refine o_iinc1 hx hb dX6_checksum_59 hl rfl (by decide) rfl (fun ls hl => ?_)
          refine lv_goto (tgt := 6) hx hb dX6_checksum_62 (by decide) ?_
          exact ih6 (y + 1) (by omega) ls (by rw [show ck1 S (y + 1) = 31 * (31 * ck1 S y + (S 10 y 0).toInt64) + (S 9 y 0).toInt64 from rfl, hk37]; exact lo_none (i := 4) hl)
        · skip
          rw [kro_ref (show _ = nI q37 by exact hk37) (by omega)]
          refine k_X6_numberOf (o := some (ad 7 q37 0)) (kk := (nI q37)) hC hS hG ⟨hW, Or.inr ⟨_, by omega, rfl⟩⟩ (kro_some rfl (by omega)) ml_X6_127 ⟨Nat.le_of_ble_eq_true rfl, Nat.le_of_ble_eq_true rfl⟩ hl.1 (Nat.le_of_ble_eq_true rfl) dX6_checksum_40 ⟨Nat.le_of_ble_eq_true rfl, Nat.le_of_ble_eq_true rfl⟩ ?_
          refine lv_i2l hx hb dX6_checksum_43 rfl ?_
          refine lv_ladd hx hb dX6_checksum_44 ?_
          refine o_lstore_n hx hb dX6_checksum_45 hl (by decide) rfl (fun ls hl => ?_)
          refine lv_ldc2 hx hb hC.o (hC.t _ ct_X6_385) dX6_checksum_46 ?_
          refine o_lload_n hx hb dX6_checksum_49 hl rfl ?_
          refine lv_lmul hx hb dX6_checksum_50 ?_
          refine o_aload hx hb dX6_checksum_51 hl rfl ?_
          refine g_get hC hG us_X0 rfl 6 (by decide) fl_X6_141 (V_ath (by omega)) rfl dX6_checksum_53 ?_
          refine lv_i2l hx hb dX6_checksum_56 rfl ?_
          refine lv_ladd hx hb dX6_checksum_57 ?_
          refine o_lstore_n hx hb dX6_checksum_58 hl (by decide) rfl (fun ls hl => ?_)
          refine o_iinc1 hx hb dX6_checksum_59 hl rfl (by decide) rfl (fun ls hl => ?_)
          refine lv_goto (tgt := 6) hx hb dX6_checksum_62 (by decide) ?_
          exact ih6 (y + 1) (by omega) ls (by rw [show ck1 S (y + 1) = 31 * (31 * ck1 S y + (S 10 y 0).toInt64) + (S 9 y 0).toInt64 from rfl, hk37]; exact lo_none (i := 4) hl)
  exact loop6 (n 0 + 1) 0 (by omega) ls hl
theorem k_X6_checksum {p : Program} {l : Launch} {e : Env} {R : Room} {s : State} {m : MethodId} {args : Array Value} {below : List Frame} {meth : Method} {c : Code} {H : Heap} {locs : List Loc} {cells slots : Nat} {Q : State → Prop} {cc : ByteArray} {pc nL : Nat} {ls : Array Slot} {rest : List Value} {own : String} {D : va_G} {cy : Nat → ClassId} {sa : Nat → Nat} {de B : Nat} {ad : Ad} {S : St} {n : Nat → Nat} {T : St} {k : Nat → Nat} {th : Int32} {X : Rl}   (hC : Cx p m c cc nL s args own D cy sa de B) (hS : va_S (AB B) s.heap H locs) (hG : GW D B ad (Vw cy de ad S n T k th X) H) (h0 : CI S n)  {idx : Nat} (wl : Cond.methodLink own idx yX6_checksum ∈ G0) (hR : 3 + 1 ≤ R.frames ∧ 8 + (5 + 11) + 64 ≤ R.locals) (hsz : ls.size = nL) (hst : (rest.map fun v => v.category).sum ≤ 8) (hdg : decode cc pc = .ok (.invokevirtual idx, 3)) (hcs : cells + 0 ≤ R.cells ∧ slots + 0 ≤ R.slots) (kk : W p l e R s m args below meth c H locs cells slots Q (F0 m (pc + 3) ls (.long (vl_checksum S n) :: rest))) : W p l e R s m args below meth c H locs cells slots Q (F0 m pc ls (.ref (ad 0 0 0) :: rest)) :=
  vp_callSl (va_Run.run (rV hC hS hG h0 (As := []) (c_X6_checksum l) ⟨rfl, rfl⟩ wl im_X6_checksum sl_X6_X6_checksum in_X6 cd_X6_checksum (n := 0) (by decide +kernel) hR (recv hC hG (q := (RX6, TX6, 6)) rfl V_games) rfl hsz hst rfl hdg hcs)) (fun r hr => by subst hr; exact kk)
set_option maxHeartbeats 4000000 in
set_option maxRecDepth 100000 in
theorem c_X6_isSound (l : Launch) {D : va_G} {cy : Nat → ClassId} {sa : Nat → Nat} {de B : Nat} {ad : Ad} {S : St} {n : Nat → Nat} {T : St} {k : Nat → Nat} {th : Int32} {X : Rl}   : Met l yX6_isSound (Cond.code yX6_isSound cX6_isSound 2 (Option.some Jvm.ClassFile.FieldType.boolean) :: G0) ({ frames := 4, cells := 0, slots := 0, locals := 84 } : Room) (va_Pc [.ref (ad 0 0 0)] (PW D cy sa de B ad (Vw cy de ad S n T k th X) (CI S n))) (vp_Si (fun r => (r = 1 ∧ soundP S n) ∨ (r = 0 ∧ ¬ soundP S n))) 0 0 (fun _ => False) := by
  refine E_met (own := RX6) rfl rfl (Nat.le_of_ble_eq_true rfl) ?_
  intro p e s m below meth c hC hr hlk hnm hG h0 ls hl
  have hx := hC.x
  have hb := hC.b
  have hS : va_S (AB B) s.heap s.heap [] := va_S.rf
  have hl : lo ls 2 [some (.ref (ad 0 0 0)), none] := lo_of hl
  obtain ⟨hW, hNE, hCH, hBL⟩ := h0
  have hW9 := hW
  obtain ⟨hB0, hB1, hB2, hB3, hB4, hB5, hB6, hB7, hKI, hEI, hKY⟩ := hW9
  
  refine lv_iconst (v := 0) hx hb dX6_isSound_0 (by decide) ?_
  refine o_istore_n hx hb dX6_isSound_1 hl (by decide) rfl (fun ls hl => ?_)
  have loop2 : ∀ (q9 : Nat) (y : Nat), y ≤ n 0 ∧ n 0 < y + q9 → (∀ z, z < y → okA S z) → ∀ ls : Array Slot, lo ls 2 [some (.ref (ad 0 0 0)), some (.int (nI y))] → W p l e ({ frames := 4, cells := 0, slots := 0, locals := 84 } : Room) s m [.ref (ad 0 0 0)].toArray below meth c s.heap [] 0 0 (MQ below (vp_Si (fun r => (r = 1 ∧ soundP S n) ∨ (r = 0 ∧ ¬ soundP S n))) [.ref (ad 0 0 0)].toArray s 0 0 (fun _ => False)) (F0 m 2 ls []) := by
    intro q9
    induction q9 with
    | zero => intro y hq9; exact absurd hq9 (by omega)
    | succ q9 ih2 =>
      intro y hq9 hn  ls hl
      refine o_iload_n hx hb dX6_isSound_2 hl rfl ?_
      refine o_aload_n hx hb dX6_isSound_3 hl rfl ?_
      refine g_get hC hG us_X6 rfl 0 (by decide) fl_X6_10 V_games rfl dX6_isSound_4 ?_
      refine k_Jx4a65c_size_8abf5 (q := 0) hC hS hG (by omega) ml_X6_33 ⟨Nat.le_of_ble_eq_true rfl, Nat.le_of_ble_eq_true rfl⟩ hl.1 (Nat.le_of_ble_eq_true rfl) dX6_isSound_7 ⟨Nat.le_of_ble_eq_true rfl, Nat.le_of_ble_eq_true rfl⟩ ?_
      refine n_icmp_ge (tgt := 38) hx hb y (n 0) rfl rfl (by omega) (by omega) dX6_isSound_10 (by decide) (fun h10 => ?_) (fun h10 => ?_)
      · skip
        refine lv_iconst (v := 0) hx hb dX6_isSound_38 (by decide) ?_
        refine o_istore_n hx hb dX6_isSound_39 hl (by decide) rfl (fun ls hl => ?_)
        have loop40 : ∀ (q9 : Nat) (w : Nat), w ≤ n 3 ∧ n 3 < w + q9 → (∀ z, z < w → ∀ a, a < 16 → ¬ badE S z a) → ∀ ls : Array Slot, lo ls 2 [some (.ref (ad 0 0 0)), some (.int (nI w))] → W p l e ({ frames := 4, cells := 0, slots := 0, locals := 84 } : Room) s m [.ref (ad 0 0 0)].toArray below meth c s.heap [] 0 0 (MQ below (vp_Si (fun r => (r = 1 ∧ soundP S n) ∨ (r = 0 ∧ ¬ soundP S n))) [.ref (ad 0 0 0)].toArray s 0 0 (fun _ => False)) (F0 m 40 ls []) := by
          intro q9
          induction q9 with
          | zero => intro w hq9; exact absurd hq9 (by omega)
          | succ q9 ih40 =>
            intro w hq9 hm  ls hl
            refine o_iload_n hx hb dX6_isSound_40 hl rfl ?_
            refine o_aload_n hx hb dX6_isSound_41 hl rfl ?_
            refine g_get hC hG us_X6 rfl 3 (by decide) fl_X6_22 V_games rfl dX6_isSound_42 ?_
            refine k_Jx4a65c_size_8abf5 (q := 3) hC hS hG (by omega) ml_X6_33 ⟨Nat.le_of_ble_eq_true rfl, Nat.le_of_ble_eq_true rfl⟩ hl.1 (Nat.le_of_ble_eq_true rfl) dX6_isSound_45 ⟨Nat.le_of_ble_eq_true rfl, Nat.le_of_ble_eq_true rfl⟩ ?_
            refine n_icmp_ge (tgt := 76) hx hb w (n 3) rfl rfl (by omega) (by omega) dX6_isSound_48 (by decide) (fun h48 => ?_) (fun h48 => ?_)
            · skip
              refine lv_iconst (v := 1) hx hb dX6_isSound_76 (by decide) ?_
              exact R_i hC hr hlk rfl (Or.inl ⟨rfl, fun i hi => hn i (by omega), fun e he => hm e (by omega)⟩) dX6_isSound_77
            · skip
              refine o_aload_n hx hb dX6_isSound_51 hl rfl ?_
              refine g_get hC hG us_X6 rfl 3 (by decide) fl_X6_22 V_games rfl dX6_isSound_52 ?_
              refine o_iload_n hx hb dX6_isSound_55 hl rfl ?_
              refine k_Jx4a65c_get_915e3 (q := 3) hC hS hG ⟨by omega, by omega, by omega⟩ (show elT 3 = 8 from rfl) ml_X6_185 ⟨Nat.le_of_ble_eq_true rfl, Nat.le_of_ble_eq_true rfl⟩ hl.1 (Nat.le_of_ble_eq_true rfl) dX6_isSound_56 ⟨Nat.le_of_ble_eq_true rfl, Nat.le_of_ble_eq_true rfl⟩ ?_
              refine va_castS hx hb hC.o (hC.t _ cl_X6_221) (hC.K.1 4 _ rfl).2 (recv hC hG (q := (RX3, TX3, 5)) rfl (V_event (by omega))) dX6_isSound_59 ?_
              refine k_X3_isInOrder hC hS hG ⟨by omega, hW, hNE⟩ ml_X6_401 ⟨Nat.le_of_ble_eq_true rfl, Nat.le_of_ble_eq_true rfl⟩ hl.1 (Nat.le_of_ble_eq_true rfl) dX6_isSound_62 ⟨Nat.le_of_ble_eq_true rfl, Nat.le_of_ble_eq_true rfl⟩ (fun h62 => ?_) (fun h62 => ?_)
              · skip
                refine lv_if_ne (tgt := 70) hx hb dX6_isSound_65 (by decide) (fun h65 => ?_) (fun h65 => ?_)
                · skip
                  refine o_iinc1 hx hb dX6_isSound_70 hl rfl (by decide) rfl (fun ls hl => ?_)
                  refine lv_goto (tgt := 40) hx hb dX6_isSound_73 (by decide) ?_
                  exact ih40 (w + 1) (by omega) (fun z hz => (Nat.lt_or_ge z w).elim (hm z) (fun h => by rw [show z = w by omega]; exact h62)) ls hl
                · exact absurd h65 (by decide)
              · skip
                refine lv_if_ne (tgt := 70) hx hb dX6_isSound_65 (by decide) (fun h65 => ?_) (fun h65 => ?_)
                · exact absurd h65 (by decide)
                · skip
                  refine lv_iconst (v := 0) hx hb dX6_isSound_68 (by decide) ?_
                  exact R_i hC hr hlk rfl (Or.inr ⟨rfl, fun z => h62 (z.2 w (by omega))⟩) dX6_isSound_69
        exact loop40 (n 3 + 1) 0 (by omega) (fun _ h => absurd h (Nat.not_lt_zero _)) ls hl
      · skip
        refine o_aload_n hx hb dX6_isSound_13 hl rfl ?_
        refine g_get hC hG us_X6 rfl 0 (by decide) fl_X6_10 V_games rfl dX6_isSound_14 ?_
        refine o_iload_n hx hb dX6_isSound_17 hl rfl ?_
        refine k_Jx4a65c_get_915e3 (q := 0) hC hS hG ⟨by omega, by omega, by omega⟩ (show elT 0 = 3 from rfl) ml_X6_185 ⟨Nat.le_of_ble_eq_true rfl, Nat.le_of_ble_eq_true rfl⟩ hl.1 (Nat.le_of_ble_eq_true rfl) dX6_isSound_18 ⟨Nat.le_of_ble_eq_true rfl, Nat.le_of_ble_eq_true rfl⟩ ?_
        refine va_castS hx hb hC.o (hC.t _ cl_X6_44) (hC.K.1 1 _ rfl).2 (recv hC hG (q := (RX0, TX0, 10)) rfl (V_ath (by omega))) dX6_isSound_21 ?_
        refine k_X0_isInOrder hC hS hG ⟨by omega, hW⟩ ml_X6_398 ⟨Nat.le_of_ble_eq_true rfl, Nat.le_of_ble_eq_true rfl⟩ hl.1 (Nat.le_of_ble_eq_true rfl) dX6_isSound_24 ⟨Nat.le_of_ble_eq_true rfl, Nat.le_of_ble_eq_true rfl⟩ (fun h24 => ?_) (fun h24 => ?_)
        · skip
          refine lv_if_ne (tgt := 32) hx hb dX6_isSound_27 (by decide) (fun h27 => ?_) (fun h27 => ?_)
          · skip
            refine o_iinc1 hx hb dX6_isSound_32 hl rfl (by decide) rfl (fun ls hl => ?_)
            refine lv_goto (tgt := 2) hx hb dX6_isSound_35 (by decide) ?_
            exact ih2 (y + 1) (by omega) (fun z hz => (Nat.lt_or_ge z y).elim (hn z) (fun h => by rw [show z = y by omega]; exact h24)) ls hl
          · exact absurd h27 (by decide)
        · skip
          refine lv_if_ne (tgt := 32) hx hb dX6_isSound_27 (by decide) (fun h27 => ?_) (fun h27 => ?_)
          · exact absurd h27 (by decide)
          · skip
            refine lv_iconst (v := 0) hx hb dX6_isSound_30 (by decide) ?_
            exact R_i hC hr hlk rfl (Or.inr ⟨rfl, fun z => h24 (z.1 y (by omega))⟩) dX6_isSound_31
  exact loop2 (n 0 + 1) 0 (by omega) (fun _ h => absurd h (Nat.not_lt_zero _)) ls hl
theorem k_X6_isSound {p : Program} {l : Launch} {e : Env} {R : Room} {s : State} {m : MethodId} {args : Array Value} {below : List Frame} {meth : Method} {c : Code} {H : Heap} {locs : List Loc} {cells slots : Nat} {Q : State → Prop} {cc : ByteArray} {pc nL : Nat} {ls : Array Slot} {rest : List Value} {own : String} {D : va_G} {cy : Nat → ClassId} {sa : Nat → Nat} {de B : Nat} {ad : Ad} {S : St} {n : Nat → Nat} {T : St} {k : Nat → Nat} {th : Int32} {X : Rl}   (hC : Cx p m c cc nL s args own D cy sa de B) (hS : va_S (AB B) s.heap H locs) (hG : GW D B ad (Vw cy de ad S n T k th X) H) (h0 : CI S n)  {idx : Nat} (wl : Cond.methodLink own idx yX6_isSound ∈ G0) (hR : 4 + 1 ≤ R.frames ∧ 8 + (2 + 11) + 84 ≤ R.locals) (hsz : ls.size = nL) (hst : (rest.map fun v => v.category).sum ≤ 8) (hdg : decode cc pc = .ok (.invokevirtual idx, 3)) (hcs : cells + 0 ≤ R.cells ∧ slots + 0 ≤ R.slots) (kt : (soundP S n) → W p l e R s m args below meth c H locs cells slots Q (F0 m (pc + 3) ls (.int 1 :: rest))) (kf : ¬ (soundP S n) → W p l e R s m args below meth c H locs cells slots Q (F0 m (pc + 3) ls (.int 0 :: rest))) : W p l e R s m args below meth c H locs cells slots Q (F0 m pc ls (.ref (ad 0 0 0) :: rest)) :=
  vp_callSi (va_Run.run (rV hC hS hG h0 (As := []) (c_X6_isSound l) ⟨rfl, rfl⟩ wl im_X6_isSound sl_X6_X6_isSound in_X6 cd_X6_isSound (n := 0) (by decide +kernel) hR (recv hC hG (q := (RX6, TX6, 6)) rfl V_games) rfl hsz hst rfl hdg hcs)) (fun r hr => by rcases hr with ⟨rfl, hp⟩ | ⟨rfl, hp⟩; exact kt hp; exact kf hp)
