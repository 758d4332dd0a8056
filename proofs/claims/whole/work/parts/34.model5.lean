set_option maxHeartbeats 4000000 in
set_option maxRecDepth 100000 in
theorem c_X7_isNoEntry (l : Launch) {D : va_G} {cy : Nat → ClassId} {sa : Nat → Nat} {de B : Nat} {ad : Ad} {S : St} {n : Nat → Nat} {T : St} {k : Nat → Nat} {th : Int32} {X : Rl} {x y : Int32}  : Met l yX7_isNoEntry (Cond.code yX7_isNoEntry cX7_isNoEntry 3 (Option.some Jvm.ClassFile.FieldType.boolean) :: G0) ({ frames := 3, cells := 0, slots := 0, locals := 65 } : Room) (va_Pc [.ref (ad 13 0 0), .int x, .int y] (PW D cy sa de B ad (Vw cy de ad S n T k th X) (MB k))) (oI B (fun r H => (¬ (ix x (k 3) ∧ ix y (k 0)) ∧ r = 1 ∧ GW D B ad (Vw cy de ad S n T k 1 X) H) ∨ (∃ (e9 : Nat) (a9 : Nat), e9 < k 3 ∧ x = nI e9 ∧ a9 < k 0 ∧ y = nI a9 ∧ T 20 e9 a9 = -1 ∧ r = 1 ∧ GW D B ad (Vw cy de ad S n T k 2 X) H) ∨ (∃ (e9 : Nat) (a9 : Nat), e9 < k 3 ∧ x = nI e9 ∧ a9 < k 0 ∧ y = nI a9 ∧ ¬ T 20 e9 a9 = -1 ∧ r = 0 ∧ GW D B ad (Vw cy de ad S n T k 0 X) H))) 0 0 (AB B) := by
  refine E_met (own := RX7) rfl rfl (Nat.le_of_ble_eq_true rfl) ?_
  intro p e s m below meth c hC hr hlk hnm hG h0 ls hl
  have hx := hC.x
  have hb := hC.b
  have hS : va_S (AB B) s.heap s.heap [] := va_S.rf
  have hl : lo ls 3 [some (.ref (ad 13 0 0)), some (.int x), some (.int y)] := lo_of hl
  have hMB := h0
  have hMB9 := hMB
  obtain ⟨hM0, hM1, hM2, hM3⟩ := hMB9
  refine o_aload_n hx hb dX7_isNoEntry_0 hl rfl ?_
  refine o_aload_n hx hb dX7_isNoEntry_1 hl rfl ?_
  refine o_iload_n hx hb dX7_isNoEntry_2 hl rfl ?_
  refine o_iload_n hx hb dX7_isNoEntry_3 hl rfl ?_
  refine k_X7_isNoPair hC hS hG hMB ml_X7_146 ⟨Nat.le_of_ble_eq_true rfl, Nat.le_of_ble_eq_true rfl⟩ hl.1 (Nat.le_of_ble_eq_true rfl) dX7_isNoEntry_4 ⟨Nat.le_of_ble_eq_true rfl, Nat.le_of_ble_eq_true rfl⟩ (fun h4 => ?_) (fun h4 => ?_)
  · skip
    refine lv_iconst (v := 1) hx hb dX7_isNoEntry_7 (by decide) ?_
    refine k_X7_isThrown hC hS hG (by first | exact Or.inl rfl | exact Or.inr rfl) ml_X7_94 ⟨Nat.le_of_ble_eq_true rfl, Nat.le_of_ble_eq_true rfl⟩ hl.1 (Nat.le_of_ble_eq_true rfl) dX7_isNoEntry_8 ⟨Nat.le_of_ble_eq_true rfl, Nat.le_of_ble_eq_true rfl⟩ (fun h8_0 H locs hG hS => ?_) (fun h8_0 H locs hG hS => ?_)
    · skip
      refine lv_if_ne (tgt := 39) hx hb dX7_isNoEntry_11 (by decide) (fun h11 => ?_) (fun h11 => ?_)
      · skip
        refine lv_iconst (v := 1) hx hb dX7_isNoEntry_39 (by decide) ?_
        refine lv_goto (tgt := 44) hx hb dX7_isNoEntry_40 (by decide) ?_
        exact R_I hC hS hr hlk rfl (by first | exact Or.inl ⟨h4, rfl, hG⟩ | exact Or.inr (Or.inl ⟨a1, a2, ha1, rfl, ha2, rfl, h24, rfl, hG⟩) | exact Or.inr (Or.inr ⟨a1, a2, ha1, rfl, ha2, rfl, h24, rfl, hG⟩)) (Nat.le_of_ble_eq_true rfl) (Nat.le_of_ble_eq_true rfl) dX7_isNoEntry_44
      · exact absurd h11 (by decide)
    · skip
      exact absurd h8_0 (by decide)
  · skip
    refine lv_iconst (v := 1) hx hb dX7_isNoEntry_7 (by decide) ?_
    refine k_X7_isThrown hC hS hG (by first | exact Or.inl rfl | exact Or.inr rfl) ml_X7_94 ⟨Nat.le_of_ble_eq_true rfl, Nat.le_of_ble_eq_true rfl⟩ hl.1 (Nat.le_of_ble_eq_true rfl) dX7_isNoEntry_8 ⟨Nat.le_of_ble_eq_true rfl, Nat.le_of_ble_eq_true rfl⟩ (fun h8_0 H locs hG hS => ?_) (fun h8_0 H locs hG hS => ?_)
    · skip
      exact absurd h8_0 (by decide)
    · skip
      refine lv_if_ne (tgt := 39) hx hb dX7_isNoEntry_11 (by decide) (fun h11 => ?_) (fun h11 => ?_)
      · exact absurd h11 (by decide)
      · skip
        obtain ⟨⟨a1, ha1, hx1⟩, ⟨a2, ha2, hx2⟩⟩ := Classical.not_not.mp h4
        subst hx1
        subst hx2
        have za1 : ci (nI a1) = a1 := nI_clamp (by omega)
        have za2 : ci (nI a2) = a2 := nI_clamp (by omega)
        refine o_aload_n hx hb dX7_isNoEntry_14 hl rfl ?_
        refine o_aload_n hx hb dX7_isNoEntry_15 hl rfl ?_
        refine g_get hC hG us_X7 rfl 17 (by decide) fl_X7_65 V_model rfl dX7_isNoEntry_16 ?_
        refine o_iload_n hx hb dX7_isNoEntry_19 hl rfl ?_
        refine g_aald hC hG 7 rfl rfl V_o17 _ rfl (by omega) (by omega) dX7_isNoEntry_20 ?_
        refine o_iload_n hx hb dX7_isNoEntry_21 hl rfl ?_
        refine g_iald hC hG (V_r17 (by omega)) _ rfl (by omega) (by omega) dX7_isNoEntry_22 ?_
        refine lv_iconst (v := (-1)) hx hb dX7_isNoEntry_23 (by decide) ?_
        refine lv_icmp_ne (tgt := 31) hx hb dX7_isNoEntry_24 (by decide) (fun h24 => ?_) (fun h24 => ?_)
        · skip
          refine lv_iconst (v := 0) hx hb dX7_isNoEntry_31 (by decide) ?_
          refine lv_iconst (v := 2) hx hb dX7_isNoEntry_32 (by decide) ?_
          refine k_X7_isThrown hC hS hG (by first | exact Or.inl rfl | exact Or.inr rfl) ml_X7_94 ⟨Nat.le_of_ble_eq_true rfl, Nat.le_of_ble_eq_true rfl⟩ hl.1 (Nat.le_of_ble_eq_true rfl) dX7_isNoEntry_33 ⟨Nat.le_of_ble_eq_true rfl, Nat.le_of_ble_eq_true rfl⟩ (fun h33_0 H locs hG hS => ?_) (fun h33_0 H locs hG hS => ?_)
          · skip
            exact absurd h33_0 (by decide)
          · skip
            refine lv_if_eq (tgt := 43) hx hb dX7_isNoEntry_36 (by decide) (fun h36 => ?_) (fun h36 => ?_)
            · skip
              refine lv_iconst (v := 0) hx hb dX7_isNoEntry_43 (by decide) ?_
              exact R_I hC hS hr hlk rfl (by first | exact Or.inl ⟨h4, rfl, hG⟩ | exact Or.inr (Or.inl ⟨a1, a2, ha1, rfl, ha2, rfl, h24, rfl, hG⟩) | exact Or.inr (Or.inr ⟨a1, a2, ha1, rfl, ha2, rfl, h24, rfl, hG⟩)) (Nat.le_of_ble_eq_true rfl) (Nat.le_of_ble_eq_true rfl) dX7_isNoEntry_44
            · exact absurd h36 (by decide)
        · skip
          refine lv_iconst (v := 1) hx hb dX7_isNoEntry_27 (by decide) ?_
          refine lv_goto (tgt := 32) hx hb dX7_isNoEntry_28 (by decide) ?_
          refine lv_iconst (v := 2) hx hb dX7_isNoEntry_32 (by decide) ?_
          refine k_X7_isThrown hC hS hG (by first | exact Or.inl rfl | exact Or.inr rfl) ml_X7_94 ⟨Nat.le_of_ble_eq_true rfl, Nat.le_of_ble_eq_true rfl⟩ hl.1 (Nat.le_of_ble_eq_true rfl) dX7_isNoEntry_33 ⟨Nat.le_of_ble_eq_true rfl, Nat.le_of_ble_eq_true rfl⟩ (fun h33_0 H locs hG hS => ?_) (fun h33_0 H locs hG hS => ?_)
          · skip
            refine lv_if_eq (tgt := 43) hx hb dX7_isNoEntry_36 (by decide) (fun h36 => ?_) (fun h36 => ?_)
            · exact absurd h36 (by decide)
            · skip
              refine lv_iconst (v := 1) hx hb dX7_isNoEntry_39 (by decide) ?_
              refine lv_goto (tgt := 44) hx hb dX7_isNoEntry_40 (by decide) ?_
              exact R_I hC hS hr hlk rfl (by first | exact Or.inl ⟨h4, rfl, hG⟩ | exact Or.inr (Or.inl ⟨a1, a2, ha1, rfl, ha2, rfl, h24, rfl, hG⟩) | exact Or.inr (Or.inr ⟨a1, a2, ha1, rfl, ha2, rfl, h24, rfl, hG⟩)) (Nat.le_of_ble_eq_true rfl) (Nat.le_of_ble_eq_true rfl) dX7_isNoEntry_44
          · skip
            exact absurd h33_0 (by decide)
theorem k_X7_isNoEntry {p : Program} {l : Launch} {e : Env} {R : Room} {s : State} {m : MethodId} {args : Array Value} {below : List Frame} {meth : Method} {c : Code} {H : Heap} {locs : List Loc} {cells slots : Nat} {Q : State → Prop} {cc : ByteArray} {pc nL : Nat} {ls : Array Slot} {rest : List Value} {own : String} {D : va_G} {cy : Nat → ClassId} {sa : Nat → Nat} {de B : Nat} {ad : Ad} {S : St} {n : Nat → Nat} {T : St} {k : Nat → Nat} {th : Int32} {X : Rl} {x y : Int32}  (hC : Cx p m c cc nL s args own D cy sa de B) (hS : va_S (AB B) s.heap H locs) (hG : GW D B ad (Vw cy de ad S n T k th X) H) (h0 : MB k)  {idx : Nat} (wl : Cond.methodLink own idx yX7_isNoEntry ∈ G0) (hR : 3 + 1 ≤ R.frames ∧ 8 + (3 + 11) + 65 ≤ R.locals) (hsz : ls.size = nL) (hst : (rest.map fun v => v.category).sum ≤ 8) (hdg : decode cc pc = .ok (.invokevirtual idx, 3)) (hcs : cells + 0 ≤ R.cells ∧ slots + 0 ≤ R.slots) (k0 : (¬ (ix x (k 3) ∧ ix y (k 0))) → ∀ (H1 : Heap) (locs1 : List Loc), GW D B ad (Vw cy de ad S n T k 1 X) H1 → va_S (AB B) s.heap H1 locs1 → W p l e R s m args below meth c H1 locs1 cells slots Q (F0 m (pc + 3) ls (.int 1 :: rest))) (k1 : ∀ (e9 : Nat) (a9 : Nat), (e9 < k 3) → (x = nI e9) → (a9 < k 0) → (y = nI a9) → (T 20 e9 a9 = -1) → ∀ (H1 : Heap) (locs1 : List Loc), GW D B ad (Vw cy de ad S n T k 2 X) H1 → va_S (AB B) s.heap H1 locs1 → W p l e R s m args below meth c H1 locs1 cells slots Q (F0 m (pc + 3) ls (.int 1 :: rest))) (k2 : ∀ (e9 : Nat) (a9 : Nat), (e9 < k 3) → (x = nI e9) → (a9 < k 0) → (y = nI a9) → (¬ T 20 e9 a9 = -1) → ∀ (H1 : Heap) (locs1 : List Loc), GW D B ad (Vw cy de ad S n T k 0 X) H1 → va_S (AB B) s.heap H1 locs1 → W p l e R s m args below meth c H1 locs1 cells slots Q (F0 m (pc + 3) ls (.int 0 :: rest))) : W p l e R s m args below meth c H locs cells slots Q (F0 m pc ls (.int y :: .int x :: .ref (ad 13 0 0) :: rest)) :=
  va_calli (rV hC hS hG h0 (As := [.int x, .int y]) (c_X7_isNoEntry l) ⟨rfl, rfl⟩ wl im_X7_isNoEntry sl_X7_X7_isNoEntry in_X7 cd_X7_isNoEntry (n := 2) (by decide +kernel) hR (recv hC hG (q := (RX7, TX7, 26)) rfl V_model) rfl hsz hst rfl hdg hcs) hS (fun _ _ h => h) (fun _ h => h) (fun r u t H1 locs1 ht _ hr hB _ _ hS1 => by
      subst hr
      have hB9 := hB; try dsimp only at hB9
      rw [ht] at hB9
      rcases hB9 with ⟨q0, rfl, hG1⟩ | ⟨e9, a9, q0, q1, q2, q3, q4, rfl, hG1⟩ | ⟨e9, a9, q0, q1, q2, q3, q4, rfl, hG1⟩
      · exact k0 q0 _ _ hG1 hS1
      · exact k1 e9 a9 q0 q1 q2 q3 q4 _ _ hG1 hS1
      · exact k2 e9 a9 q0 q1 q2 q3 q4 _ _ hG1 hS1)
set_option maxHeartbeats 4000000 in
set_option maxRecDepth 100000 in
theorem c_X7_begin (l : Launch) {D : va_G} {cy : Nat → ClassId} {sa : Nat → Nat} {de B : Nat} {ad : Ad} {S : St} {n : Nat → Nat} {T : St} {k : Nat → Nat} {th : Int32} {X : Rl} {x : Int32}  : Met l yX7_begin (Cond.code yX7_begin cX7_begin 5 (Option.some Jvm.ClassFile.FieldType.int) :: G0) ({ frames := 2, cells := 0, slots := 0, locals := 43 } : Room) (va_Pc [.ref (ad 13 0 0), .int x] (PW D cy sa de B ad (Vw cy de ad S n T k th X) (Inv T k))) (oI B (fun r H => (cd_begin T k x = 0 ∧ r = (cnt (stP T (ci x)) 16) ∧ GW D B ad (Vw cy de ad S n (up3 T 18 (ci x) 0 1) (k) 0 X) H) ∨ (∃ (t9 : Nat), cd_begin T k x = t9 ∧ ¬ t9 = 0 ∧ GW D B ad (Vw cy de ad S n T k (nI t9) X) H))) 0 0 (AB B) := by
  refine E_met (own := RX7) rfl rfl (Nat.le_of_ble_eq_true rfl) ?_
  intro p e s m below meth c hC hr hlk hnm hG h0 ls hl
  have hx := hC.x
  have hb := hC.b
  have hS : va_S (AB B) s.heap s.heap [] := va_S.rf
  have hl : lo ls 5 [some (.ref (ad 13 0 0)), some (.int x), none, none, none] := lo_of hl
  have hI := h0
  obtain ⟨hCI, hD0, hD1, hD2, hB01, hF30, hK8, hMK, hU1, hU2, hS10, hEO, hCF, hFT, hME, hYR, hEK, hLA⟩ := h0
  obtain ⟨hW, hNE, hCH, hBL⟩ := hCI
  have hW9 := hW
  obtain ⟨hB0, hB1, hB2, hB3, hB4, hB5, hB6, hB7, hKI, hEI, hKY⟩ := hW9
  have hMB : MB k := ⟨hB0, hB1, hB2, hB3⟩
  have hKYm : KYm T k := hKY
  refine o_aload_n hx hb dX7_begin_0 hl rfl ?_
  refine o_aload_n hx hb dX7_begin_1 hl rfl ?_
  refine o_iload_n hx hb dX7_begin_2 hl rfl ?_
  refine k_X7_isNoEvent hC hS hG hMB ml_X7_139 ⟨Nat.le_of_ble_eq_true rfl, Nat.le_of_ble_eq_true rfl⟩ hl.1 (Nat.le_of_ble_eq_true rfl) dX7_begin_3 ⟨Nat.le_of_ble_eq_true rfl, Nat.le_of_ble_eq_true rfl⟩ (fun h3 => ?_) (fun h3 => ?_)
  · skip
    refine lv_iconst (v := 1) hx hb dX7_begin_6 (by decide) ?_
    refine k_X7_isThrown hC hS hG (by first | exact Or.inl rfl | exact Or.inr rfl) ml_X7_94 ⟨Nat.le_of_ble_eq_true rfl, Nat.le_of_ble_eq_true rfl⟩ hl.1 (Nat.le_of_ble_eq_true rfl) dX7_begin_7 ⟨Nat.le_of_ble_eq_true rfl, Nat.le_of_ble_eq_true rfl⟩ (fun h7_0 H locs hG hS => ?_) (fun h7_0 H locs hG hS => ?_)
    · skip
      refine lv_if_eq (tgt := 15) hx hb dX7_begin_10 (by decide) (fun h10 => ?_) (fun h10 => ?_)
      · exact absurd h10 (by decide)
      · skip
        refine lv_iconst (v := 0) hx hb dX7_begin_13 (by decide) ?_
        exact R_I hC hS hr hlk rfl (Or.inr ⟨1, (by simp only [cd_begin]; exact cif_f h3), (by decide), hG⟩) (Nat.le_of_ble_eq_true rfl) (Nat.le_of_ble_eq_true rfl) dX7_begin_14
    · skip
      exact absurd h7_0 (by decide)
  · skip
    refine lv_iconst (v := 1) hx hb dX7_begin_6 (by decide) ?_
    refine k_X7_isThrown hC hS hG (by first | exact Or.inl rfl | exact Or.inr rfl) ml_X7_94 ⟨Nat.le_of_ble_eq_true rfl, Nat.le_of_ble_eq_true rfl⟩ hl.1 (Nat.le_of_ble_eq_true rfl) dX7_begin_7 ⟨Nat.le_of_ble_eq_true rfl, Nat.le_of_ble_eq_true rfl⟩ (fun h7_0 H locs hG hS => ?_) (fun h7_0 H locs hG hS => ?_)
    · skip
      exact absurd h7_0 (by decide)
    · skip
      refine lv_if_eq (tgt := 15) hx hb dX7_begin_10 (by decide) (fun h10 => ?_) (fun h10 => ?_)
      · skip
        obtain ⟨a3, ha3, hxa3⟩ := Classical.not_not.mp h3
        subst hxa3
        have za3 : ci (nI a3) = a3 := nI_clamp (by omega)
        refine lv_iconst (v := 0) hx hb dX7_begin_15 (by decide) ?_
        refine o_istore_n hx hb dX7_begin_16 hl (by decide) rfl (fun ls hl => ?_)
        refine lv_iconst (v := 0) hx hb dX7_begin_17 (by decide) ?_
        refine o_istore_n hx hb dX7_begin_18 hl (by decide) rfl (fun ls hl => ?_)
        refine lv_iconst (v := 0) hx hb dX7_begin_19 (by decide) ?_
        refine o_istore hx hb dX7_begin_20 hl (by decide) rfl (fun ls hl => ?_)
        have loop22 : ∀ (q9 : Nat) (y : Nat), y ≤ k 0 ∧ k 0 < y + q9 → ∀ ls : Array Slot, lo ls 5 [some (.ref (ad 13 0 0)), some (.int (nI a3)), some (.int (cnt (stP T a3) y)), some (.int (lnd T a3 y)), some (.int (nI y))] → W p l e ({ frames := 2, cells := 0, slots := 0, locals := 43 } : Room) s m [.ref (ad 13 0 0), .int (nI a3)].toArray below meth c H locs 0 0 (MQ below (oI B (fun r H => (cd_begin T k (nI a3) = 0 ∧ r = (cnt (stP T (ci (nI a3))) 16) ∧ GW D B ad (Vw cy de ad S n (up3 T 18 (ci (nI a3)) 0 1) (k) 0 X) H) ∨ (∃ (t9 : Nat), cd_begin T k (nI a3) = t9 ∧ ¬ t9 = 0 ∧ GW D B ad (Vw cy de ad S n T k (nI t9) X) H))) [.ref (ad 13 0 0), .int (nI a3)].toArray s 0 0 (AB B)) (F0 m 22 ls []) := by
          intro q9
          induction q9 with
          | zero => intro y hq9; exact absurd hq9 (by omega)
          | succ q9 ih22 =>
            intro y hq9   ls hl
            refine o_iload hx hb dX7_begin_22 hl rfl ?_
            refine o_aload_n hx hb dX7_begin_24 hl rfl ?_
            refine g_get hC hG us_X7 rfl 20 (by decide) fl_X7_80 V_model rfl dX7_begin_25 ?_
            refine n_icmp_ge (tgt := 81) hx hb y (k 0) rfl rfl (by omega) (by omega) dX7_begin_28 (by decide) (fun h28 => ?_) (fun h28 => ?_)
            · skip
              rw [show cnt (stP T a3) y = cnt (stP T a3) 16 by rw [st_16 hW, show y = k 0 by omega], show lnd T a3 y = lnd T a3 16 by rw [la_16 hW, show y = k 0 by omega]] at hl
              refine o_aload_n hx hb dX7_begin_81 hl rfl ?_
              refine o_aload_n hx hb dX7_begin_82 hl rfl ?_
              refine g_get hC hG us_X7 rfl 15 (by decide) fl_X7_59 V_model rfl dX7_begin_83 ?_
              refine o_iload_n hx hb dX7_begin_86 hl rfl ?_
              refine g_zald hC hG V_m15 _ rfl (by omega) (by omega) dX7_begin_87 ?_
              refine lv_if_ne (tgt := 104) hx hb dX7_begin_88 (by decide) (fun h88 => ?_) (fun h88 => ?_)
              · skip
                refine lv_iconst (v := 1) hx hb dX7_begin_104 (by decide) ?_
                refine lv_goto (tgt := 109) hx hb dX7_begin_105 (by decide) ?_
                refine lv_iconst (v := 2) hx hb dX7_begin_109 (by decide) ?_
                refine k_X7_isThrown hC hS hG (by first | exact Or.inl rfl | exact Or.inr rfl) ml_X7_94 ⟨Nat.le_of_ble_eq_true rfl, Nat.le_of_ble_eq_true rfl⟩ hl.1 (Nat.le_of_ble_eq_true rfl) dX7_begin_110 ⟨Nat.le_of_ble_eq_true rfl, Nat.le_of_ble_eq_true rfl⟩ (fun h110_0 H locs hG hS => ?_) (fun h110_0 H locs hG hS => ?_)
                · skip
                  refine lv_if_eq (tgt := 118) hx hb dX7_begin_113 (by decide) (fun h113 => ?_) (fun h113 => ?_)
                  · exact absurd h113 (by decide)
                  · skip
                    refine lv_iconst (v := 0) hx hb dX7_begin_116 (by decide) ?_
                    exact R_I hC hS hr hlk rfl (Or.inr ⟨2, (by simp only [cd_begin, za3]; exact (cif_t (ix_nI ha3)).trans (cif_f (fun z => by first | exact h88 z.1 | exact absurd h93 (Int32.not_lt.mpr z.2.1) | exact h101 z.2.2))), (by decide), hG⟩) (Nat.le_of_ble_eq_true rfl) (Nat.le_of_ble_eq_true rfl) dX7_begin_117
                · skip
                  exact absurd h110_0 (by decide)
              · skip
                refine o_iload_n hx hb dX7_begin_91 hl rfl ?_
                refine lv_iconst (v := 3) hx hb dX7_begin_92 (by decide) ?_
                refine lv_icmp_lt (tgt := 104) hx hb dX7_begin_93 (by decide) (fun h93 => ?_) (fun h93 => ?_)
                · skip
                  refine lv_iconst (v := 1) hx hb dX7_begin_104 (by decide) ?_
                  refine lv_goto (tgt := 109) hx hb dX7_begin_105 (by decide) ?_
                  refine lv_iconst (v := 2) hx hb dX7_begin_109 (by decide) ?_
                  refine k_X7_isThrown hC hS hG (by first | exact Or.inl rfl | exact Or.inr rfl) ml_X7_94 ⟨Nat.le_of_ble_eq_true rfl, Nat.le_of_ble_eq_true rfl⟩ hl.1 (Nat.le_of_ble_eq_true rfl) dX7_begin_110 ⟨Nat.le_of_ble_eq_true rfl, Nat.le_of_ble_eq_true rfl⟩ (fun h110_0 H locs hG hS => ?_) (fun h110_0 H locs hG hS => ?_)
                  · skip
                    refine lv_if_eq (tgt := 118) hx hb dX7_begin_113 (by decide) (fun h113 => ?_) (fun h113 => ?_)
                    · exact absurd h113 (by decide)
                    · skip
                      refine lv_iconst (v := 0) hx hb dX7_begin_116 (by decide) ?_
                      exact R_I hC hS hr hlk rfl (Or.inr ⟨2, (by simp only [cd_begin, za3]; exact (cif_t (ix_nI ha3)).trans (cif_f (fun z => by first | exact h88 z.1 | exact absurd h93 (Int32.not_lt.mpr z.2.1) | exact h101 z.2.2))), (by decide), hG⟩) (Nat.le_of_ble_eq_true rfl) (Nat.le_of_ble_eq_true rfl) dX7_begin_117
                  · skip
                    exact absurd h110_0 (by decide)
                · skip
                  refine o_iload_n hx hb dX7_begin_96 hl rfl ?_
                  refine k_J6_bitCount_0f7a4 hC hS hG trivial ml_X7_152 ⟨Nat.le_of_ble_eq_true rfl, Nat.le_of_ble_eq_true rfl⟩ hl.1 (Nat.le_of_ble_eq_true rfl) dX7_begin_97 ⟨Nat.le_of_ble_eq_true rfl, Nat.le_of_ble_eq_true rfl⟩ ?_
                  refine lv_iconst (v := 2) hx hb dX7_begin_100 (by decide) ?_
                  refine lv_icmp_ge (tgt := 108) hx hb dX7_begin_101 (by decide) (fun h101 => ?_) (fun h101 => ?_)
                  · skip
                    refine lv_iconst (v := 0) hx hb dX7_begin_108 (by decide) ?_
                    refine lv_iconst (v := 2) hx hb dX7_begin_109 (by decide) ?_
                    refine k_X7_isThrown hC hS hG (by first | exact Or.inl rfl | exact Or.inr rfl) ml_X7_94 ⟨Nat.le_of_ble_eq_true rfl, Nat.le_of_ble_eq_true rfl⟩ hl.1 (Nat.le_of_ble_eq_true rfl) dX7_begin_110 ⟨Nat.le_of_ble_eq_true rfl, Nat.le_of_ble_eq_true rfl⟩ (fun h110_0 H locs hG hS => ?_) (fun h110_0 H locs hG hS => ?_)
                    · skip
                      exact absurd h110_0 (by decide)
                    · skip
                      refine lv_if_eq (tgt := 118) hx hb dX7_begin_113 (by decide) (fun h113 => ?_) (fun h113 => ?_)
                      · skip
                        refine o_aload_n hx hb dX7_begin_118 hl rfl ?_
                        refine g_get hC hG us_X7 rfl 15 (by decide) fl_X7_59 V_model rfl dX7_begin_119 ?_
                        refine o_iload_n hx hb dX7_begin_122 hl rfl ?_
                        refine lv_iconst (v := 1) hx hb dX7_begin_123 (by decide) ?_
                        refine g_zast hC hG hS V_m15 _ rfl (by omega) (by omega) (Or.inr rfl) P_m15 dX7_begin_124 (fun H locs hG hS => ?_)
                        refine o_iload_n hx hb dX7_begin_125 hl rfl ?_
                        exact R_I hC hS hr hlk rfl (Or.inl ⟨(by simp only [cd_begin, za3]; exact (cif_t (ix_nI ha3)).trans (cif_t ⟨h88, Int32.not_lt.mp h93, h101⟩)), (by rw [za3]), (by rw [za3]; exact hG)⟩) (Nat.le_of_ble_eq_true rfl) (Nat.le_of_ble_eq_true rfl) dX7_begin_126
                      · exact absurd h113 (by decide)
                  · skip
                    refine lv_iconst (v := 1) hx hb dX7_begin_104 (by decide) ?_
                    refine lv_goto (tgt := 109) hx hb dX7_begin_105 (by decide) ?_
                    refine lv_iconst (v := 2) hx hb dX7_begin_109 (by decide) ?_
                    refine k_X7_isThrown hC hS hG (by first | exact Or.inl rfl | exact Or.inr rfl) ml_X7_94 ⟨Nat.le_of_ble_eq_true rfl, Nat.le_of_ble_eq_true rfl⟩ hl.1 (Nat.le_of_ble_eq_true rfl) dX7_begin_110 ⟨Nat.le_of_ble_eq_true rfl, Nat.le_of_ble_eq_true rfl⟩ (fun h110_0 H locs hG hS => ?_) (fun h110_0 H locs hG hS => ?_)
                    · skip
                      refine lv_if_eq (tgt := 118) hx hb dX7_begin_113 (by decide) (fun h113 => ?_) (fun h113 => ?_)
                      · exact absurd h113 (by decide)
                      · skip
                        refine lv_iconst (v := 0) hx hb dX7_begin_116 (by decide) ?_
                        exact R_I hC hS hr hlk rfl (Or.inr ⟨2, (by simp only [cd_begin, za3]; exact (cif_t (ix_nI ha3)).trans (cif_f (fun z => by first | exact h88 z.1 | exact absurd h93 (Int32.not_lt.mpr z.2.1) | exact h101 z.2.2))), (by decide), hG⟩) (Nat.le_of_ble_eq_true rfl) (Nat.le_of_ble_eq_true rfl) dX7_begin_117
                    · skip
                      exact absurd h110_0 (by decide)
            · skip
              refine o_iload_n hx hb dX7_begin_31 hl rfl ?_
              refine o_aload_n hx hb dX7_begin_32 hl rfl ?_
              refine o_iload_n hx hb dX7_begin_33 hl rfl ?_
              refine o_iload hx hb dX7_begin_34 hl rfl ?_
              refine k_X7_isStanding hC hS hG ⟨by omega, by omega⟩ ml_X7_149 ⟨Nat.le_of_ble_eq_true rfl, Nat.le_of_ble_eq_true rfl⟩ hl.1 (Nat.le_of_ble_eq_true rfl) dX7_begin_36 ⟨Nat.le_of_ble_eq_true rfl, Nat.le_of_ble_eq_true rfl⟩ (fun h36 => ?_) (fun h36 => ?_)
              · skip
                refine lv_if_eq (tgt := 46) hx hb dX7_begin_39 (by decide) (fun h39 => ?_) (fun h39 => ?_)
                · exact absurd h39 (by decide)
                · skip
                  refine lv_iconst (v := 1) hx hb dX7_begin_42 (by decide) ?_
                  refine lv_goto (tgt := 47) hx hb dX7_begin_43 (by decide) ?_
                  refine lv_iadd hx hb dX7_begin_47 ?_
                  refine o_istore_n hx hb dX7_begin_48 hl (by decide) rfl (fun ls hl => ?_)
                  try rw [Int32.add_zero] at hl
                  refine o_iload_n hx hb dX7_begin_49 hl rfl ?_
                  refine o_aload_n hx hb dX7_begin_50 hl rfl ?_
                  refine o_iload_n hx hb dX7_begin_51 hl rfl ?_
                  refine o_iload hx hb dX7_begin_52 hl rfl ?_
                  refine k_X7_isStanding hC hS hG ⟨by omega, by omega⟩ ml_X7_149 ⟨Nat.le_of_ble_eq_true rfl, Nat.le_of_ble_eq_true rfl⟩ hl.1 (Nat.le_of_ble_eq_true rfl) dX7_begin_54 ⟨Nat.le_of_ble_eq_true rfl, Nat.le_of_ble_eq_true rfl⟩ (fun h54 => ?_) (fun h54 => ?_)
                  · skip
                    refine lv_if_eq (tgt := 72) hx hb dX7_begin_57 (by decide) (fun h57 => ?_) (fun h57 => ?_)
                    · exact absurd h57 (by decide)
                    · skip
                      refine lv_iconst (v := 1) hx hb dX7_begin_60 (by decide) ?_
                      refine o_aload_n hx hb dX7_begin_61 hl rfl ?_
                      refine g_get hC hG us_X7 rfl 0 (by decide) fl_X7_9 V_model rfl dX7_begin_62 ?_
                      refine o_iload hx hb dX7_begin_65 hl rfl ?_
                      refine g_iald hC hG V_m0 _ rfl (by omega) (by omega) dX7_begin_67 ?_
                      refine lv_ishl hx hb dX7_begin_68 ?_
                      refine lv_goto (tgt := 73) hx hb dX7_begin_69 (by decide) ?_
                      refine lv_ior hx hb dX7_begin_73 ?_
                      refine o_istore_n hx hb dX7_begin_74 hl (by decide) rfl (fun ls hl => ?_)
                      try rw [Int32.or_zero] at hl
                      refine o_iinc1 hx hb dX7_begin_75 hl rfl (by decide) rfl (fun ls hl => ?_)
                      refine lv_goto (tgt := 22) hx hb dX7_begin_78 (by decide) ?_
                      exact ih22 (y + 1) (by omega) ls (by first | (rw [cnt_t (P := stP T a3) h36, lnd_t h54]; exact hl) | (rw [cnt_f (P := stP T a3) h36, lnd_f h54]; exact hl) | exact absurd h36 h54 | exact absurd h54 h36)
                  · skip
                    refine lv_if_eq (tgt := 72) hx hb dX7_begin_57 (by decide) (fun h57 => ?_) (fun h57 => ?_)
                    · skip
                      refine lv_iconst (v := 0) hx hb dX7_begin_72 (by decide) ?_
                      refine lv_ior hx hb dX7_begin_73 ?_
                      refine o_istore_n hx hb dX7_begin_74 hl (by decide) rfl (fun ls hl => ?_)
                      try rw [Int32.or_zero] at hl
                      refine o_iinc1 hx hb dX7_begin_75 hl rfl (by decide) rfl (fun ls hl => ?_)
                      refine lv_goto (tgt := 22) hx hb dX7_begin_78 (by decide) ?_
                      exact ih22 (y + 1) (by omega) ls (by first | (rw [cnt_t (P := stP T a3) h36, lnd_t h54]; exact hl) | (rw [cnt_f (P := stP T a3) h36, lnd_f h54]; exact hl) | exact absurd h36 h54 | exact absurd h54 h36)
                    · exact absurd h57 (by decide)
              · skip
                refine lv_if_eq (tgt := 46) hx hb dX7_begin_39 (by decide) (fun h39 => ?_) (fun h39 => ?_)
                · skip
                  refine lv_iconst (v := 0) hx hb dX7_begin_46 (by decide) ?_
                  refine lv_iadd hx hb dX7_begin_47 ?_
                  refine o_istore_n hx hb dX7_begin_48 hl (by decide) rfl (fun ls hl => ?_)
                  try rw [Int32.add_zero] at hl
                  refine o_iload_n hx hb dX7_begin_49 hl rfl ?_
                  refine o_aload_n hx hb dX7_begin_50 hl rfl ?_
                  refine o_iload_n hx hb dX7_begin_51 hl rfl ?_
                  refine o_iload hx hb dX7_begin_52 hl rfl ?_
                  refine k_X7_isStanding hC hS hG ⟨by omega, by omega⟩ ml_X7_149 ⟨Nat.le_of_ble_eq_true rfl, Nat.le_of_ble_eq_true rfl⟩ hl.1 (Nat.le_of_ble_eq_true rfl) dX7_begin_54 ⟨Nat.le_of_ble_eq_true rfl, Nat.le_of_ble_eq_true rfl⟩ (fun h54 => ?_) (fun h54 => ?_)
                  · skip
                    refine lv_if_eq (tgt := 72) hx hb dX7_begin_57 (by decide) (fun h57 => ?_) (fun h57 => ?_)
                    · exact absurd h57 (by decide)
                    · skip
                      refine lv_iconst (v := 1) hx hb dX7_begin_60 (by decide) ?_
                      refine o_aload_n hx hb dX7_begin_61 hl rfl ?_
                      refine g_get hC hG us_X7 rfl 0 (by decide) fl_X7_9 V_model rfl dX7_begin_62 ?_
                      refine o_iload hx hb dX7_begin_65 hl rfl ?_
                      refine g_iald hC hG V_m0 _ rfl (by omega) (by omega) dX7_begin_67 ?_
                      refine lv_ishl hx hb dX7_begin_68 ?_
                      refine lv_goto (tgt := 73) hx hb dX7_begin_69 (by decide) ?_
                      refine lv_ior hx hb dX7_begin_73 ?_
                      refine o_istore_n hx hb dX7_begin_74 hl (by decide) rfl (fun ls hl => ?_)
                      try rw [Int32.or_zero] at hl
                      refine o_iinc1 hx hb dX7_begin_75 hl rfl (by decide) rfl (fun ls hl => ?_)
                      refine lv_goto (tgt := 22) hx hb dX7_begin_78 (by decide) ?_
                      exact ih22 (y + 1) (by omega) ls (by first | (rw [cnt_t (P := stP T a3) h36, lnd_t h54]; exact hl) | (rw [cnt_f (P := stP T a3) h36, lnd_f h54]; exact hl) | exact absurd h36 h54 | exact absurd h54 h36)
                  · skip
                    refine lv_if_eq (tgt := 72) hx hb dX7_begin_57 (by decide) (fun h57 => ?_) (fun h57 => ?_)
                    · skip
                      refine lv_iconst (v := 0) hx hb dX7_begin_72 (by decide) ?_
                      refine lv_ior hx hb dX7_begin_73 ?_
                      refine o_istore_n hx hb dX7_begin_74 hl (by decide) rfl (fun ls hl => ?_)
                      try rw [Int32.or_zero] at hl
                      refine o_iinc1 hx hb dX7_begin_75 hl rfl (by decide) rfl (fun ls hl => ?_)
                      refine lv_goto (tgt := 22) hx hb dX7_begin_78 (by decide) ?_
                      exact ih22 (y + 1) (by omega) ls (by first | (rw [cnt_t (P := stP T a3) h36, lnd_t h54]; exact hl) | (rw [cnt_f (P := stP T a3) h36, lnd_f h54]; exact hl) | exact absurd h36 h54 | exact absurd h54 h36)
                    · exact absurd h57 (by decide)
                · exact absurd h39 (by decide)
        exact loop22 (k 0 + 1) 0 (by omega) ls hl
      · exact absurd h10 (by decide)
theorem k_X7_begin {p : Program} {l : Launch} {e : Env} {R : Room} {s : State} {m : MethodId} {args : Array Value} {below : List Frame} {meth : Method} {c : Code} {H : Heap} {locs : List Loc} {cells slots : Nat} {Q : State → Prop} {cc : ByteArray} {pc nL : Nat} {ls : Array Slot} {rest : List Value} {own : String} {D : va_G} {cy : Nat → ClassId} {sa : Nat → Nat} {de B : Nat} {ad : Ad} {S : St} {n : Nat → Nat} {T : St} {k : Nat → Nat} {th : Int32} {X : Rl} {x : Int32}  (hC : Cx p m c cc nL s args own D cy sa de B) (hS : va_S (AB B) s.heap H locs) (hG : GW D B ad (Vw cy de ad S n T k th X) H) (h0 : Inv T k)  {idx : Nat} (wl : Cond.methodLink own idx yX7_begin ∈ G0) (hR : 2 + 1 ≤ R.frames ∧ 8 + (5 + 11) + 43 ≤ R.locals) (hsz : ls.size = nL) (hst : (rest.map fun v => v.category).sum ≤ 8) (hdg : decode cc pc = .ok (.invokevirtual idx, 3)) (hcs : cells + 0 ≤ R.cells ∧ slots + 0 ≤ R.slots) (k0 : (cd_begin T k x = 0) → ∀ (H1 : Heap) (locs1 : List Loc), GW D B ad (Vw cy de ad S n (up3 T 18 (ci x) 0 1) (k) 0 X) H1 → va_S (AB B) s.heap H1 locs1 → W p l e R s m args below meth c H1 locs1 cells slots Q (F0 m (pc + 3) ls (.int (cnt (stP T (ci x)) 16) :: rest))) (k1 : ∀ (r9 : Int32), ∀ (t9 : Nat), (cd_begin T k x = t9) → (¬ t9 = 0) → ∀ (H1 : Heap) (locs1 : List Loc), GW D B ad (Vw cy de ad S n T k (nI t9) X) H1 → va_S (AB B) s.heap H1 locs1 → W p l e R s m args below meth c H1 locs1 cells slots Q (F0 m (pc + 3) ls (.int r9 :: rest))) : W p l e R s m args below meth c H locs cells slots Q (F0 m pc ls (.int x :: .ref (ad 13 0 0) :: rest)) :=
  va_calli (rV hC hS hG h0 (As := [.int x]) (c_X7_begin l) ⟨rfl, rfl⟩ wl im_X7_begin sl_X7_X7_begin in_X7 cd_X7_begin (n := 1) (by decide +kernel) hR (recv hC hG (q := (RX7, TX7, 26)) rfl V_model) rfl hsz hst rfl hdg hcs) hS (fun _ _ h => h) (fun _ h => h) (fun r u t H1 locs1 ht _ hr hB _ _ hS1 => by
      subst hr
      have hB9 := hB; try dsimp only at hB9
      rw [ht] at hB9
      rcases hB9 with ⟨q0, rfl, hG1⟩ | ⟨t9, q0, q1, hG1⟩
      · exact k0 q0 _ _ hG1 hS1
      · exact k1 r t9 q0 q1 _ _ hG1 hS1)
set_option maxHeartbeats 4000000 in
set_option maxRecDepth 100000 in
theorem c_X7_result (l : Launch) {D : va_G} {cy : Nat → ClassId} {sa : Nat → Nat} {de B : Nat} {ad : Ad} {S : St} {n : Nat → Nat} {T : St} {k : Nat → Nat} {th : Int32} {X : Rl} {x y t g : Int32}  : Met l yX7_result (Cond.code yX7_result cX7_result 8 (Option.some Jvm.ClassFile.FieldType.int) :: G0) ({ frames := 3, cells := 0, slots := 0, locals := 65 } : Room) (va_Pc [.ref (ad 13 0 0), .int x, .int y, .int t, .int g] (PW D cy sa de B ad (Vw cy de ad S n T k th X) (Inv T k))) (oI B (fun r H => (cd_result T k x y t g = 0 ∧ r = (vl_result T (ci x) (ci y) t g) ∧ GW D B ad (Vw cy de ad S n (reS T (ci x) (ci y) t g) (k) 0 X) H) ∨ (∃ (t9 : Nat), cd_result T k x y t g = t9 ∧ ¬ t9 = 0 ∧ GW D B ad (Vw cy de ad S n T k (nI t9) X) H))) 0 0 (AB B) := by
  refine E_met (own := RX7) rfl rfl (Nat.le_of_ble_eq_true rfl) ?_
  intro p e s m below meth c hC hr hlk hnm hG h0 ls hl
  have hx := hC.x
  have hb := hC.b
  have hS : va_S (AB B) s.heap s.heap [] := va_S.rf
  have hl : lo ls 8 [some (.ref (ad 13 0 0)), some (.int x), some (.int y), some (.int t), some (.int g), none, none, none] := lo_of hl
  have hI := h0
  obtain ⟨hCI, hD0, hD1, hD2, hB01, hF30, hK8, hMK, hU1, hU2, hS10, hEO, hCF, hFT, hME, hYR, hEK, hLA⟩ := h0
  obtain ⟨hW, hNE, hCH, hBL⟩ := hCI
  have hW9 := hW
  obtain ⟨hB0, hB1, hB2, hB3, hB4, hB5, hB6, hB7, hKI, hEI, hKY⟩ := hW9
  have hMB : MB k := ⟨hB0, hB1, hB2, hB3⟩
  have hKYm : KYm T k := hKY
  refine o_aload_n hx hb dX7_result_0 hl rfl ?_
  refine o_aload_n hx hb dX7_result_1 hl rfl ?_
  refine o_iload_n hx hb dX7_result_2 hl rfl ?_
  refine o_iload_n hx hb dX7_result_3 hl rfl ?_
  refine k_X7_isNoPair hC hS hG hMB ml_X7_146 ⟨Nat.le_of_ble_eq_true rfl, Nat.le_of_ble_eq_true rfl⟩ hl.1 (Nat.le_of_ble_eq_true rfl) dX7_result_4 ⟨Nat.le_of_ble_eq_true rfl, Nat.le_of_ble_eq_true rfl⟩ (fun h4 => ?_) (fun h4 => ?_)
  · skip
    refine lv_iconst (v := 1) hx hb dX7_result_7 (by decide) ?_
    refine k_X7_isThrown hC hS hG (by first | exact Or.inl rfl | exact Or.inr rfl) ml_X7_94 ⟨Nat.le_of_ble_eq_true rfl, Nat.le_of_ble_eq_true rfl⟩ hl.1 (Nat.le_of_ble_eq_true rfl) dX7_result_8 ⟨Nat.le_of_ble_eq_true rfl, Nat.le_of_ble_eq_true rfl⟩ (fun h8_0 H locs hG hS => ?_) (fun h8_0 H locs hG hS => ?_)
    · skip
      refine lv_if_eq (tgt := 16) hx hb dX7_result_11 (by decide) (fun h11 => ?_) (fun h11 => ?_)
      · exact absurd h11 (by decide)
      · skip
        refine lv_iconst (v := 0) hx hb dX7_result_14 (by decide) ?_
        exact R_I hC hS hr hlk rfl (Or.inr ⟨1, (by simp only [cd_result]; exact cif_f h4), (by decide), hG⟩) (Nat.le_of_ble_eq_true rfl) (Nat.le_of_ble_eq_true rfl) dX7_result_15
    · skip
      exact absurd h8_0 (by decide)
  · skip
    refine lv_iconst (v := 1) hx hb dX7_result_7 (by decide) ?_
    refine k_X7_isThrown hC hS hG (by first | exact Or.inl rfl | exact Or.inr rfl) ml_X7_94 ⟨Nat.le_of_ble_eq_true rfl, Nat.le_of_ble_eq_true rfl⟩ hl.1 (Nat.le_of_ble_eq_true rfl) dX7_result_8 ⟨Nat.le_of_ble_eq_true rfl, Nat.le_of_ble_eq_true rfl⟩ (fun h8_0 H locs hG hS => ?_) (fun h8_0 H locs hG hS => ?_)
    · skip
      exact absurd h8_0 (by decide)
    · skip
      refine lv_if_eq (tgt := 16) hx hb dX7_result_11 (by decide) (fun h11 => ?_) (fun h11 => ?_)
      · skip
        obtain ⟨⟨a1, ha1, hx1⟩, ⟨a2, ha2, hx2⟩⟩ := Classical.not_not.mp h4
        subst hx1
        subst hx2
        have za1 : ci (nI a1) = a1 := nI_clamp (by omega)
        have za2 : ci (nI a2) = a2 := nI_clamp (by omega)
        refine o_aload_n hx hb dX7_result_16 hl rfl ?_
        refine g_get hC hG us_X7 rfl 17 (by decide) fl_X7_65 V_model rfl dX7_result_17 ?_
        refine o_iload_n hx hb dX7_result_20 hl rfl ?_
        refine g_aald hC hG 7 rfl rfl V_o17 _ rfl (by omega) (by omega) dX7_result_21 ?_
        refine o_iload_n hx hb dX7_result_22 hl rfl ?_
        refine g_iald hC hG (V_r17 (by omega)) _ rfl (by omega) (by omega) dX7_result_23 ?_
        refine o_istore hx hb dX7_result_24 hl (by decide) rfl (fun ls hl => ?_)
        refine o_iload hx hb dX7_result_26 hl rfl ?_
        refine lv_iconst (v := (-1)) hx hb dX7_result_28 (by decide) ?_
        refine lv_icmp_eq (tgt := 49) hx hb dX7_result_29 (by decide) (fun h29 => ?_) (fun h29 => ?_)
        · skip
          have hg : ¬ gdP T a1 a2 := by first | exact fun z => z.1 h29 | exact fun z => h42 (by have z2 := z.2; rwa [hkq, show ci (nI q) = q from nI_clamp (by omega)] at z2)
          refine lv_iconst (v := 0) hx hb dX7_result_49 (by decide) ?_
          refine o_istore hx hb dX7_result_50 hl (by decide) rfl (fun ls hl => ?_)
          refine o_aload_n hx hb dX7_result_52 hl rfl ?_
          refine o_iload_n hx hb dX7_result_53 hl rfl ?_
          refine lv_iconst (v := 1) hx hb dX7_result_54 (by decide) ?_
          refine lv_ldc hx hb hC.o (hC.t _ ct_X7_158) dX7_result_55 ?_
          refine k_X7_isIn hC hS hG trivial ml_X7_83 ⟨Nat.le_of_ble_eq_true rfl, Nat.le_of_ble_eq_true rfl⟩ hl.1 (Nat.le_of_ble_eq_true rfl) dX7_result_57 ⟨Nat.le_of_ble_eq_true rfl, Nat.le_of_ble_eq_true rfl⟩ (fun h57 => ?_) (fun h57 => ?_)
          · skip
            refine lv_if_eq (tgt := 79) hx hb dX7_result_60 (by decide) (fun h60 => ?_) (fun h60 => ?_)
            · exact absurd h60 (by decide)
            · skip
              refine o_iload hx hb dX7_result_63 hl rfl ?_
              refine lv_if_eq (tgt := 83) hx hb dX7_result_65 (by decide) (fun h65 => ?_) (fun h65 => ?_)
              · skip
                refine lv_iconst (v := 0) hx hb dX7_result_83 (by decide) ?_
                refine lv_iconst (v := 2) hx hb dX7_result_84 (by decide) ?_
                refine k_X7_isThrown hC hS hG (by first | exact Or.inl rfl | exact Or.inr rfl) ml_X7_94 ⟨Nat.le_of_ble_eq_true rfl, Nat.le_of_ble_eq_true rfl⟩ hl.1 (Nat.le_of_ble_eq_true rfl) dX7_result_85 ⟨Nat.le_of_ble_eq_true rfl, Nat.le_of_ble_eq_true rfl⟩ (fun h85_0 H locs hG hS => ?_) (fun h85_0 H locs hG hS => ?_)
                · skip
                  exact absurd h85_0 (by decide)
                · skip
                  refine lv_if_eq (tgt := 93) hx hb dX7_result_88 (by decide) (fun h88 => ?_) (fun h88 => ?_)
                  · skip
                    refine o_aload_n hx hb dX7_result_93 hl rfl ?_
                    refine o_aload_n hx hb dX7_result_94 hl rfl ?_
                    refine g_get hC hG us_X7 rfl 15 (by decide) fl_X7_59 V_model rfl dX7_result_95 ?_
                    refine o_iload_n hx hb dX7_result_98 hl rfl ?_
                    refine g_zald hC hG V_m15 _ rfl (by omega) (by omega) dX7_result_99 ?_
                    refine lv_if_eq (tgt := 133) hx hb dX7_result_100 (by decide) (fun h100 => ?_) (fun h100 => ?_)
                    · skip
                      refine lv_iconst (v := 1) hx hb dX7_result_133 (by decide) ?_
                      refine lv_goto (tgt := 138) hx hb dX7_result_134 (by decide) ?_
                      refine lv_iconst (v := 3) hx hb dX7_result_138 (by decide) ?_
                      refine k_X7_isThrown hC hS hG (by first | exact Or.inl rfl | exact Or.inr rfl) ml_X7_94 ⟨Nat.le_of_ble_eq_true rfl, Nat.le_of_ble_eq_true rfl⟩ hl.1 (Nat.le_of_ble_eq_true rfl) dX7_result_139 ⟨Nat.le_of_ble_eq_true rfl, Nat.le_of_ble_eq_true rfl⟩ (fun h139_0 H locs hG hS => ?_) (fun h139_0 H locs hG hS => ?_)
                      · skip
                        refine lv_if_eq (tgt := 147) hx hb dX7_result_142 (by decide) (fun h142 => ?_) (fun h142 => ?_)
                        · exact absurd h142 (by decide)
                        · skip
                          refine lv_iconst (v := 0) hx hb dX7_result_145 (by decide) ?_
                          exact R_I hC hS hr hlk rfl (Or.inr ⟨3, (by simp only [cd_result, za1, za2]; exact (cif_t ⟨ix_nI ha1, ix_nI ha2⟩).trans ((cif_t ⟨h57, by first | exact fun z => absurd z hg | exact fun _ => h73⟩).trans (cif_f (fun z => by first | exact z.1 h100 | exact h109 z.2.1 | exact h115 z.2.2.1 | exact z.2.2.2 h130)))), (by decide), hG⟩) (Nat.le_of_ble_eq_true rfl) (Nat.le_of_ble_eq_true rfl) dX7_result_146
                      · skip
                        exact absurd h139_0 (by decide)
                    · skip
                      refine o_aload_n hx hb dX7_result_103 hl rfl ?_
                      refine g_get hC hG us_X7 rfl 16 (by decide) fl_X7_62 V_model rfl dX7_result_104 ?_
                      refine o_iload_n hx hb dX7_result_107 hl rfl ?_
                      refine g_zald hC hG V_m16 _ rfl (by omega) (by omega) dX7_result_108 ?_
                      refine lv_if_ne (tgt := 133) hx hb dX7_result_109 (by decide) (fun h109 => ?_) (fun h109 => ?_)
                      · skip
                        refine lv_iconst (v := 1) hx hb dX7_result_133 (by decide) ?_
                        refine lv_goto (tgt := 138) hx hb dX7_result_134 (by decide) ?_
                        refine lv_iconst (v := 3) hx hb dX7_result_138 (by decide) ?_
                        refine k_X7_isThrown hC hS hG (by first | exact Or.inl rfl | exact Or.inr rfl) ml_X7_94 ⟨Nat.le_of_ble_eq_true rfl, Nat.le_of_ble_eq_true rfl⟩ hl.1 (Nat.le_of_ble_eq_true rfl) dX7_result_139 ⟨Nat.le_of_ble_eq_true rfl, Nat.le_of_ble_eq_true rfl⟩ (fun h139_0 H locs hG hS => ?_) (fun h139_0 H locs hG hS => ?_)
                        · skip
                          refine lv_if_eq (tgt := 147) hx hb dX7_result_142 (by decide) (fun h142 => ?_) (fun h142 => ?_)
                          · exact absurd h142 (by decide)
                          · skip
                            refine lv_iconst (v := 0) hx hb dX7_result_145 (by decide) ?_
                            exact R_I hC hS hr hlk rfl (Or.inr ⟨3, (by simp only [cd_result, za1, za2]; exact (cif_t ⟨ix_nI ha1, ix_nI ha2⟩).trans ((cif_t ⟨h57, by first | exact fun z => absurd z hg | exact fun _ => h73⟩).trans (cif_f (fun z => by first | exact z.1 h100 | exact h109 z.2.1 | exact h115 z.2.2.1 | exact z.2.2.2 h130)))), (by decide), hG⟩) (Nat.le_of_ble_eq_true rfl) (Nat.le_of_ble_eq_true rfl) dX7_result_146
                        · skip
                          exact absurd h139_0 (by decide)
                      · skip
                        refine o_aload_n hx hb dX7_result_112 hl rfl ?_
                        refine o_iload_n hx hb dX7_result_113 hl rfl ?_
                        refine o_iload_n hx hb dX7_result_114 hl rfl ?_
                        refine k_X7_isStanding hC hS hG ⟨by omega, by omega⟩ ml_X7_149 ⟨Nat.le_of_ble_eq_true rfl, Nat.le_of_ble_eq_true rfl⟩ hl.1 (Nat.le_of_ble_eq_true rfl) dX7_result_115 ⟨Nat.le_of_ble_eq_true rfl, Nat.le_of_ble_eq_true rfl⟩ (fun h115 => ?_) (fun h115 => ?_)
                        · skip
                          obtain ⟨-, -, q, hq, hkq⟩ := ent_lt hW h115.1
                          refine lv_if_eq (tgt := 133) hx hb dX7_result_118 (by decide) (fun h118 => ?_) (fun h118 => ?_)
                          · exact absurd h118 (by decide)
                          · skip
                            refine o_aload_n hx hb dX7_result_121 hl rfl ?_
                            refine g_get hC hG us_X7 rfl 19 (by decide) fl_X7_73 V_model rfl dX7_result_122 ?_
                            refine o_iload_n hx hb dX7_result_125 hl rfl ?_
                            refine g_aald hC hG 7 rfl rfl V_o19 _ rfl (by omega) (by omega) dX7_result_126 ?_
                            refine o_iload_n hx hb dX7_result_127 hl rfl ?_
                            refine g_iald hC hG (V_r19 (by omega)) _ rfl (by omega) (by omega) dX7_result_128 ?_
                            refine lv_iconst (v := (-1)) hx hb dX7_result_129 (by decide) ?_
                            refine lv_icmp_eq (tgt := 137) hx hb dX7_result_130 (by decide) (fun h130 => ?_) (fun h130 => ?_)
                            · skip
                              refine lv_iconst (v := 0) hx hb dX7_result_137 (by decide) ?_
                              refine lv_iconst (v := 3) hx hb dX7_result_138 (by decide) ?_
                              refine k_X7_isThrown hC hS hG (by first | exact Or.inl rfl | exact Or.inr rfl) ml_X7_94 ⟨Nat.le_of_ble_eq_true rfl, Nat.le_of_ble_eq_true rfl⟩ hl.1 (Nat.le_of_ble_eq_true rfl) dX7_result_139 ⟨Nat.le_of_ble_eq_true rfl, Nat.le_of_ble_eq_true rfl⟩ (fun h139_0 H locs hG hS => ?_) (fun h139_0 H locs hG hS => ?_)
                              · skip
                                exact absurd h139_0 (by decide)
                              · skip
                                refine lv_if_eq (tgt := 147) hx hb dX7_result_142 (by decide) (fun h142 => ?_) (fun h142 => ?_)
                                · skip
                                  refine o_iload hx hb dX7_result_147 hl rfl ?_
                                  refine lv_if_eq (tgt := 169) hx hb dX7_result_149 (by decide) (fun h149 => ?_) (fun h149 => ?_)
                                  · skip
                                    have zq : ci (T 20 a1 a2) = q := by rw [hkq]; exact nI_clamp (by omega)
                                    refine o_aload_n hx hb dX7_result_169 hl rfl ?_
                                    refine g_get hC hG us_X7 rfl 19 (by decide) fl_X7_73 V_model rfl dX7_result_170 ?_
                                    refine o_iload_n hx hb dX7_result_173 hl rfl ?_
                                    refine g_aald hC hG 7 rfl rfl V_o19 _ rfl (by omega) (by omega) dX7_result_174 ?_
                                    refine o_iload_n hx hb dX7_result_175 hl rfl ?_
                                    refine o_iload_n hx hb dX7_result_176 hl rfl ?_
                                    refine o_aload_n hx hb dX7_result_177 hl rfl ?_
                                    refine g_get hC hG us_X7 rfl 14 (by decide) fl_X7_56 V_model rfl dX7_result_178 ?_
                                    refine o_iload_n hx hb dX7_result_181 hl rfl ?_
                                    refine g_aald hC hG 7 rfl rfl V_o14 _ rfl (by omega) (by omega) dX7_result_182 ?_
                                    refine o_iload hx hb dX7_result_183 hl rfl ?_
                                    refine g_iald hC hG (V_r14 (by omega)) q hkq (by omega) (by omega) dX7_result_185 ?_
                                    refine lv_imul hx hb dX7_result_186 ?_
                                    refine lv_bipush (v := 100) hx hb dX7_result_187 (by decide) ?_
                                    refine lv_idiv hx hb dX7_result_189 (by decide) ?_
                                    refine g_iast hC hG hS (V_r19 (by omega)) _ rfl (by omega) (by omega) (P_r19 (by omega)) dX7_result_190 (fun H locs hG hS => ?_)
                                    refine o_aload_n hx hb dX7_result_191 hl rfl ?_
                                    refine g_get hC hG us_X7 rfl 5 (by decide) fl_X7_28 V_model rfl dX7_result_192 ?_
                                    refine o_iload_n hx hb dX7_result_195 hl rfl ?_
                                    refine g_cald hC hG V_m5 _ rfl (by omega) (by omega) dX7_result_196 ?_
                                    refine lv_bipush (v := 99) hx hb dX7_result_197 (by decide) ?_
                                    refine lv_icmp_ne (tgt := 228) hx hb dX7_result_199 (by decide) (fun h199 => ?_) (fun h199 => ?_)
                                    · skip
                                      refine lv_iconst (v := 0) hx hb dX7_result_228 (by decide) ?_
                                      refine o_istore hx hb dX7_result_229 hl (by decide) rfl (fun ls hl => ?_)
                                      refine o_aload_n hx hb dX7_result_231 hl rfl ?_
                                      refine g_get hC hG us_X7 rfl 11 (by decide) fl_X7_47 V_model rfl dX7_result_232 ?_
                                      refine o_iload hx hb dX7_result_235 hl rfl ?_
                                      refine o_iload hx hb dX7_result_237 hl rfl ?_
                                      refine lv_if_eq (tgt := 246) hx hb dX7_result_239 (by decide) (fun h239 => ?_) (fun h239 => ?_)
                                      · skip
                                        refine o_aload_n hx hb dX7_result_246 hl rfl ?_
                                        refine g_get hC hG us_X7 rfl 11 (by decide) fl_X7_47 V_model rfl dX7_result_247 ?_
                                        refine o_iload hx hb dX7_result_250 hl rfl ?_
                                        refine g_iald hC hG V_m11 q hkq (by omega) (by omega) dX7_result_252 ?_
                                        refine g_iast hC hG hS V_m11 q hkq (by omega) (by omega) P_m11 dX7_result_253 (fun H locs hG hS => ?_)
                                        refine o_aload_n hx hb dX7_result_254 hl rfl ?_
                                        refine g_get hC hG us_X7 rfl 19 (by decide) fl_X7_73 V_model rfl dX7_result_255 ?_
                                        refine o_iload_n hx hb dX7_result_258 hl rfl ?_
                                        refine g_aald hC hG 7 rfl rfl V_o19 _ rfl (by omega) (by omega) dX7_result_259 ?_
                                        refine o_iload_n hx hb dX7_result_260 hl rfl ?_
                                        refine g_iald hC hG (V_r19 (by omega)) _ rfl (by omega) (by omega) dX7_result_261 ?_
                                        exact R_I hC hS hr hlk rfl (Or.inl ⟨(by simp only [cd_result, za1, za2]; exact (cif_t ⟨ix_nI ha1, ix_nI ha2⟩).trans ((cif_t ⟨h57, by first | exact fun z => absurd z hg | exact fun _ => h73⟩).trans (cif_t ⟨h100, h109, h115, fun z => z h130⟩))), (by rw [za1, za2, show vl_result T a1 a2 t g = _ from cif_f (fun z => by first | exact hg z.1 | exact absurd z.2 (Int32.not_lt.mpr h155)), up3_ne (by omega), up3_self]; unfold ftm; rw [zq]), (by rw [za1, za2, show reS T a1 a2 t g = rcS T a1 a2 t from cif_f (fun z => by first | exact hg z.1 | exact absurd z.2 (Int32.not_lt.mpr h155))]; first | (rw [rcS_t zq h199, if_pos (by first | exact Or.inl h210 | exact Or.inr (Int32.not_le.mp h221))]; exact hG) | (rw [rcS_t zq h199, if_neg (fun z => z.elim h210 (fun z => absurd z (Int32.not_lt.mpr h221)))]; rw [up3_same rfl] at hG; exact hG) | (rw [rcS_f zq h199]; rw [up3_same rfl] at hG; exact hG))⟩) (Nat.le_of_ble_eq_true rfl) (Nat.le_of_ble_eq_true rfl) dX7_result_262
                                      · exact absurd h239 (by decide)
                                    · skip
                                      refine o_aload_n hx hb dX7_result_202 hl rfl ?_
                                      refine g_get hC hG us_X7 rfl 11 (by decide) fl_X7_47 V_model rfl dX7_result_203 ?_
                                      refine o_iload hx hb dX7_result_206 hl rfl ?_
                                      refine g_iald hC hG V_m11 q hkq (by omega) (by omega) dX7_result_208 ?_
                                      refine lv_iconst (v := (-1)) hx hb dX7_result_209 (by decide) ?_
                                      refine lv_icmp_eq (tgt := 224) hx hb dX7_result_210 (by decide) (fun h210 => ?_) (fun h210 => ?_)
                                      · skip
                                        refine lv_iconst (v := 1) hx hb dX7_result_224 (by decide) ?_
                                        refine lv_goto (tgt := 229) hx hb dX7_result_225 (by decide) ?_
                                        refine o_istore hx hb dX7_result_229 hl (by decide) rfl (fun ls hl => ?_)
                                        refine o_aload_n hx hb dX7_result_231 hl rfl ?_
                                        refine g_get hC hG us_X7 rfl 11 (by decide) fl_X7_47 V_model rfl dX7_result_232 ?_
                                        refine o_iload hx hb dX7_result_235 hl rfl ?_
                                        refine o_iload hx hb dX7_result_237 hl rfl ?_
                                        refine lv_if_eq (tgt := 246) hx hb dX7_result_239 (by decide) (fun h239 => ?_) (fun h239 => ?_)
                                        · exact absurd h239 (by decide)
                                        · skip
                                          refine o_iload_n hx hb dX7_result_242 hl rfl ?_
                                          refine lv_goto (tgt := 253) hx hb dX7_result_243 (by decide) ?_
                                          refine g_iast hC hG hS V_m11 q hkq (by omega) (by omega) P_m11 dX7_result_253 (fun H locs hG hS => ?_)
                                          refine o_aload_n hx hb dX7_result_254 hl rfl ?_
                                          refine g_get hC hG us_X7 rfl 19 (by decide) fl_X7_73 V_model rfl dX7_result_255 ?_
                                          refine o_iload_n hx hb dX7_result_258 hl rfl ?_
                                          refine g_aald hC hG 7 rfl rfl V_o19 _ rfl (by omega) (by omega) dX7_result_259 ?_
                                          refine o_iload_n hx hb dX7_result_260 hl rfl ?_
                                          refine g_iald hC hG (V_r19 (by omega)) _ rfl (by omega) (by omega) dX7_result_261 ?_
                                          exact R_I hC hS hr hlk rfl (Or.inl ⟨(by simp only [cd_result, za1, za2]; exact (cif_t ⟨ix_nI ha1, ix_nI ha2⟩).trans ((cif_t ⟨h57, by first | exact fun z => absurd z hg | exact fun _ => h73⟩).trans (cif_t ⟨h100, h109, h115, fun z => z h130⟩))), (by rw [za1, za2, show vl_result T a1 a2 t g = _ from cif_f (fun z => by first | exact hg z.1 | exact absurd z.2 (Int32.not_lt.mpr h155)), up3_ne (by omega), up3_self]; unfold ftm; rw [zq]), (by rw [za1, za2, show reS T a1 a2 t g = rcS T a1 a2 t from cif_f (fun z => by first | exact hg z.1 | exact absurd z.2 (Int32.not_lt.mpr h155))]; first | (rw [rcS_t zq h199, if_pos (by first | exact Or.inl h210 | exact Or.inr (Int32.not_le.mp h221))]; exact hG) | (rw [rcS_t zq h199, if_neg (fun z => z.elim h210 (fun z => absurd z (Int32.not_lt.mpr h221)))]; rw [up3_same rfl] at hG; exact hG) | (rw [rcS_f zq h199]; rw [up3_same rfl] at hG; exact hG))⟩) (Nat.le_of_ble_eq_true rfl) (Nat.le_of_ble_eq_true rfl) dX7_result_262
                                      · skip
                                        refine o_iload_n hx hb dX7_result_213 hl rfl ?_
                                        refine o_aload_n hx hb dX7_result_214 hl rfl ?_
                                        refine g_get hC hG us_X7 rfl 11 (by decide) fl_X7_47 V_model rfl dX7_result_215 ?_
                                        refine o_iload hx hb dX7_result_218 hl rfl ?_
                                        refine g_iald hC hG V_m11 q hkq (by omega) (by omega) dX7_result_220 ?_
                                        refine lv_icmp_ge (tgt := 228) hx hb dX7_result_221 (by decide) (fun h221 => ?_) (fun h221 => ?_)
                                        · skip
                                          refine lv_iconst (v := 0) hx hb dX7_result_228 (by decide) ?_
                                          refine o_istore hx hb dX7_result_229 hl (by decide) rfl (fun ls hl => ?_)
                                          refine o_aload_n hx hb dX7_result_231 hl rfl ?_
                                          refine g_get hC hG us_X7 rfl 11 (by decide) fl_X7_47 V_model rfl dX7_result_232 ?_
                                          refine o_iload hx hb dX7_result_235 hl rfl ?_
                                          refine o_iload hx hb dX7_result_237 hl rfl ?_
                                          refine lv_if_eq (tgt := 246) hx hb dX7_result_239 (by decide) (fun h239 => ?_) (fun h239 => ?_)
                                          · skip
                                            refine o_aload_n hx hb dX7_result_246 hl rfl ?_
                                            refine g_get hC hG us_X7 rfl 11 (by decide) fl_X7_47 V_model rfl dX7_result_247 ?_
                                            refine o_iload hx hb dX7_result_250 hl rfl ?_
                                            refine g_iald hC hG V_m11 q hkq (by omega) (by omega) dX7_result_252 ?_
                                            refine g_iast hC hG hS V_m11 q hkq (by omega) (by omega) P_m11 dX7_result_253 (fun H locs hG hS => ?_)
                                            refine o_aload_n hx hb dX7_result_254 hl rfl ?_
                                            refine g_get hC hG us_X7 rfl 19 (by decide) fl_X7_73 V_model rfl dX7_result_255 ?_
                                            refine o_iload_n hx hb dX7_result_258 hl rfl ?_
                                            refine g_aald hC hG 7 rfl rfl V_o19 _ rfl (by omega) (by omega) dX7_result_259 ?_
                                            refine o_iload_n hx hb dX7_result_260 hl rfl ?_
                                            refine g_iald hC hG (V_r19 (by omega)) _ rfl (by omega) (by omega) dX7_result_261 ?_
                                            exact R_I hC hS hr hlk rfl (Or.inl ⟨(by simp only [cd_result, za1, za2]; exact (cif_t ⟨ix_nI ha1, ix_nI ha2⟩).trans ((cif_t ⟨h57, by first | exact fun z => absurd z hg | exact fun _ => h73⟩).trans (cif_t ⟨h100, h109, h115, fun z => z h130⟩))), (by rw [za1, za2, show vl_result T a1 a2 t g = _ from cif_f (fun z => by first | exact hg z.1 | exact absurd z.2 (Int32.not_lt.mpr h155)), up3_ne (by omega), up3_self]; unfold ftm; rw [zq]), (by rw [za1, za2, show reS T a1 a2 t g = rcS T a1 a2 t from cif_f (fun z => by first | exact hg z.1 | exact absurd z.2 (Int32.not_lt.mpr h155))]; first | (rw [rcS_t zq h199, if_pos (by first | exact Or.inl h210 | exact Or.inr (Int32.not_le.mp h221))]; exact hG) | (rw [rcS_t zq h199, if_neg (fun z => z.elim h210 (fun z => absurd z (Int32.not_lt.mpr h221)))]; rw [up3_same rfl] at hG; exact hG) | (rw [rcS_f zq h199]; rw [up3_same rfl] at hG; exact hG))⟩) (Nat.le_of_ble_eq_true rfl) (Nat.le_of_ble_eq_true rfl) dX7_result_262
                                          · exact absurd h239 (by decide)
                                        · skip
                                          refine lv_iconst (v := 1) hx hb dX7_result_224 (by decide) ?_
                                          refine lv_goto (tgt := 229) hx hb dX7_result_225 (by decide) ?_
                                          refine o_istore hx hb dX7_result_229 hl (by decide) rfl (fun ls hl => ?_)
                                          refine o_aload_n hx hb dX7_result_231 hl rfl ?_
                                          refine g_get hC hG us_X7 rfl 11 (by decide) fl_X7_47 V_model rfl dX7_result_232 ?_
                                          refine o_iload hx hb dX7_result_235 hl rfl ?_
                                          refine o_iload hx hb dX7_result_237 hl rfl ?_
                                          refine lv_if_eq (tgt := 246) hx hb dX7_result_239 (by decide) (fun h239 => ?_) (fun h239 => ?_)
                                          · exact absurd h239 (by decide)
                                          · skip
                                            refine o_iload_n hx hb dX7_result_242 hl rfl ?_
                                            refine lv_goto (tgt := 253) hx hb dX7_result_243 (by decide) ?_
                                            refine g_iast hC hG hS V_m11 q hkq (by omega) (by omega) P_m11 dX7_result_253 (fun H locs hG hS => ?_)
                                            refine o_aload_n hx hb dX7_result_254 hl rfl ?_
                                            refine g_get hC hG us_X7 rfl 19 (by decide) fl_X7_73 V_model rfl dX7_result_255 ?_
                                            refine o_iload_n hx hb dX7_result_258 hl rfl ?_
                                            refine g_aald hC hG 7 rfl rfl V_o19 _ rfl (by omega) (by omega) dX7_result_259 ?_
                                            refine o_iload_n hx hb dX7_result_260 hl rfl ?_
                                            refine g_iald hC hG (V_r19 (by omega)) _ rfl (by omega) (by omega) dX7_result_261 ?_
                                            exact R_I hC hS hr hlk rfl (Or.inl ⟨(by simp only [cd_result, za1, za2]; exact (cif_t ⟨ix_nI ha1, ix_nI ha2⟩).trans ((cif_t ⟨h57, by first | exact fun z => absurd z hg | exact fun _ => h73⟩).trans (cif_t ⟨h100, h109, h115, fun z => z h130⟩))), (by rw [za1, za2, show vl_result T a1 a2 t g = _ from cif_f (fun z => by first | exact hg z.1 | exact absurd z.2 (Int32.not_lt.mpr h155)), up3_ne (by omega), up3_self]; unfold ftm; rw [zq]), (by rw [za1, za2, show reS T a1 a2 t g = rcS T a1 a2 t from cif_f (fun z => by first | exact hg z.1 | exact absurd z.2 (Int32.not_lt.mpr h155))]; first | (rw [rcS_t zq h199, if_pos (by first | exact Or.inl h210 | exact Or.inr (Int32.not_le.mp h221))]; exact hG) | (rw [rcS_t zq h199, if_neg (fun z => z.elim h210 (fun z => absurd z (Int32.not_lt.mpr h221)))]; rw [up3_same rfl] at hG; exact hG) | (rw [rcS_f zq h199]; rw [up3_same rfl] at hG; exact hG))⟩) (Nat.le_of_ble_eq_true rfl) (Nat.le_of_ble_eq_true rfl) dX7_result_262
                                  · exact absurd h149 (by decide)
                                · exact absurd h142 (by decide)
                            · skip
                              refine lv_iconst (v := 1) hx hb dX7_result_133 (by decide) ?_
                              refine lv_goto (tgt := 138) hx hb dX7_result_134 (by decide) ?_
                              refine lv_iconst (v := 3) hx hb dX7_result_138 (by decide) ?_
                              refine k_X7_isThrown hC hS hG (by first | exact Or.inl rfl | exact Or.inr rfl) ml_X7_94 ⟨Nat.le_of_ble_eq_true rfl, Nat.le_of_ble_eq_true rfl⟩ hl.1 (Nat.le_of_ble_eq_true rfl) dX7_result_139 ⟨Nat.le_of_ble_eq_true rfl, Nat.le_of_ble_eq_true rfl⟩ (fun h139_0 H locs hG hS => ?_) (fun h139_0 H locs hG hS => ?_)
                              · skip
                                refine lv_if_eq (tgt := 147) hx hb dX7_result_142 (by decide) (fun h142 => ?_) (fun h142 => ?_)
                                · exact absurd h142 (by decide)
                                · skip
                                  refine lv_iconst (v := 0) hx hb dX7_result_145 (by decide) ?_
                                  exact R_I hC hS hr hlk rfl (Or.inr ⟨3, (by simp only [cd_result, za1, za2]; exact (cif_t ⟨ix_nI ha1, ix_nI ha2⟩).trans ((cif_t ⟨h57, by first | exact fun z => absurd z hg | exact fun _ => h73⟩).trans (cif_f (fun z => by first | exact z.1 h100 | exact h109 z.2.1 | exact h115 z.2.2.1 | exact z.2.2.2 h130)))), (by decide), hG⟩) (Nat.le_of_ble_eq_true rfl) (Nat.le_of_ble_eq_true rfl) dX7_result_146
                              · skip
                                exact absurd h139_0 (by decide)
                        · skip
                          refine lv_if_eq (tgt := 133) hx hb dX7_result_118 (by decide) (fun h118 => ?_) (fun h118 => ?_)
                          · skip
                            refine lv_iconst (v := 1) hx hb dX7_result_133 (by decide) ?_
                            refine lv_goto (tgt := 138) hx hb dX7_result_134 (by decide) ?_
                            refine lv_iconst (v := 3) hx hb dX7_result_138 (by decide) ?_
                            refine k_X7_isThrown hC hS hG (by first | exact Or.inl rfl | exact Or.inr rfl) ml_X7_94 ⟨Nat.le_of_ble_eq_true rfl, Nat.le_of_ble_eq_true rfl⟩ hl.1 (Nat.le_of_ble_eq_true rfl) dX7_result_139 ⟨Nat.le_of_ble_eq_true rfl, Nat.le_of_ble_eq_true rfl⟩ (fun h139_0 H locs hG hS => ?_) (fun h139_0 H locs hG hS => ?_)
                            · skip
                              refine lv_if_eq (tgt := 147) hx hb dX7_result_142 (by decide) (fun h142 => ?_) (fun h142 => ?_)
                              · exact absurd h142 (by decide)
                              · skip
                                refine lv_iconst (v := 0) hx hb dX7_result_145 (by decide) ?_
                                exact R_I hC hS hr hlk rfl (Or.inr ⟨3, (by simp only [cd_result, za1, za2]; exact (cif_t ⟨ix_nI ha1, ix_nI ha2⟩).trans ((cif_t ⟨h57, by first | exact fun z => absurd z hg | exact fun _ => h73⟩).trans (cif_f (fun z => by first | exact z.1 h100 | exact h109 z.2.1 | exact h115 z.2.2.1 | exact z.2.2.2 h130)))), (by decide), hG⟩) (Nat.le_of_ble_eq_true rfl) (Nat.le_of_ble_eq_true rfl) dX7_result_146
                            · skip
                              exact absurd h139_0 (by decide)
                          · exact absurd h118 (by decide)
                  · exact absurd h88 (by decide)
              · exact absurd h65 (by decide)
          · skip
            refine lv_if_eq (tgt := 79) hx hb dX7_result_60 (by decide) (fun h60 => ?_) (fun h60 => ?_)
            · skip
              refine lv_iconst (v := 1) hx hb dX7_result_79 (by decide) ?_
              refine lv_goto (tgt := 84) hx hb dX7_result_80 (by decide) ?_
              refine lv_iconst (v := 2) hx hb dX7_result_84 (by decide) ?_
              refine k_X7_isThrown hC hS hG (by first | exact Or.inl rfl | exact Or.inr rfl) ml_X7_94 ⟨Nat.le_of_ble_eq_true rfl, Nat.le_of_ble_eq_true rfl⟩ hl.1 (Nat.le_of_ble_eq_true rfl) dX7_result_85 ⟨Nat.le_of_ble_eq_true rfl, Nat.le_of_ble_eq_true rfl⟩ (fun h85_0 H locs hG hS => ?_) (fun h85_0 H locs hG hS => ?_)
              · skip
                refine lv_if_eq (tgt := 93) hx hb dX7_result_88 (by decide) (fun h88 => ?_) (fun h88 => ?_)
                · exact absurd h88 (by decide)
                · skip
                  refine lv_iconst (v := 0) hx hb dX7_result_91 (by decide) ?_
                  exact R_I hC hS hr hlk rfl (Or.inr ⟨2, (by simp only [cd_result, za1, za2]; exact (cif_t ⟨ix_nI ha1, ix_nI ha2⟩).trans (cif_f (fun z => by first | exact h57 z.1 | exact h73 (z.2 hg)))), (by decide), hG⟩) (Nat.le_of_ble_eq_true rfl) (Nat.le_of_ble_eq_true rfl) dX7_result_92
              · skip
                exact absurd h85_0 (by decide)
            · exact absurd h60 (by decide)
        · skip
          obtain ⟨-, -, q, hq, hkq⟩ := ent_lt hW h29
          refine o_aload_n hx hb dX7_result_32 hl rfl ?_
          refine g_get hC hG us_X7 rfl 10 (by decide) fl_X7_44 V_model rfl dX7_result_33 ?_
          refine o_iload hx hb dX7_result_36 hl rfl ?_
          refine g_aald hC hG 7 rfl rfl V_o10 q hkq (by omega) (by omega) dX7_result_38 ?_
          refine lv_iconst (v := 0) hx hb dX7_result_39 (by decide) ?_
          refine g_iald hC hG (V_r10 (by omega)) 0 rfl (by omega) (by omega) dX7_result_40 ?_
          refine lv_iconst (v := 4) hx hb dX7_result_41 (by decide) ?_
          refine lv_icmp_ne (tgt := 49) hx hb dX7_result_42 (by decide) (fun h42 => ?_) (fun h42 => ?_)
          · skip
            have hg : ¬ gdP T a1 a2 := by first | exact fun z => z.1 h29 | exact fun z => h42 (by have z2 := z.2; rwa [hkq, show ci (nI q) = q from nI_clamp (by omega)] at z2)
            refine lv_iconst (v := 0) hx hb dX7_result_49 (by decide) ?_
            refine o_istore hx hb dX7_result_50 hl (by decide) rfl (fun ls hl => ?_)
            refine o_aload_n hx hb dX7_result_52 hl rfl ?_
            refine o_iload_n hx hb dX7_result_53 hl rfl ?_
            refine lv_iconst (v := 1) hx hb dX7_result_54 (by decide) ?_
            refine lv_ldc hx hb hC.o (hC.t _ ct_X7_158) dX7_result_55 ?_
            refine k_X7_isIn hC hS hG trivial ml_X7_83 ⟨Nat.le_of_ble_eq_true rfl, Nat.le_of_ble_eq_true rfl⟩ hl.1 (Nat.le_of_ble_eq_true rfl) dX7_result_57 ⟨Nat.le_of_ble_eq_true rfl, Nat.le_of_ble_eq_true rfl⟩ (fun h57 => ?_) (fun h57 => ?_)
            · skip
              refine lv_if_eq (tgt := 79) hx hb dX7_result_60 (by decide) (fun h60 => ?_) (fun h60 => ?_)
              · exact absurd h60 (by decide)
              · skip
                refine o_iload hx hb dX7_result_63 hl rfl ?_
                refine lv_if_eq (tgt := 83) hx hb dX7_result_65 (by decide) (fun h65 => ?_) (fun h65 => ?_)
                · skip
                  refine lv_iconst (v := 0) hx hb dX7_result_83 (by decide) ?_
                  refine lv_iconst (v := 2) hx hb dX7_result_84 (by decide) ?_
                  refine k_X7_isThrown hC hS hG (by first | exact Or.inl rfl | exact Or.inr rfl) ml_X7_94 ⟨Nat.le_of_ble_eq_true rfl, Nat.le_of_ble_eq_true rfl⟩ hl.1 (Nat.le_of_ble_eq_true rfl) dX7_result_85 ⟨Nat.le_of_ble_eq_true rfl, Nat.le_of_ble_eq_true rfl⟩ (fun h85_0 H locs hG hS => ?_) (fun h85_0 H locs hG hS => ?_)
                  · skip
                    exact absurd h85_0 (by decide)
                  · skip
                    refine lv_if_eq (tgt := 93) hx hb dX7_result_88 (by decide) (fun h88 => ?_) (fun h88 => ?_)
                    · skip
                      refine o_aload_n hx hb dX7_result_93 hl rfl ?_
                      refine o_aload_n hx hb dX7_result_94 hl rfl ?_
                      refine g_get hC hG us_X7 rfl 15 (by decide) fl_X7_59 V_model rfl dX7_result_95 ?_
                      refine o_iload_n hx hb dX7_result_98 hl rfl ?_
                      refine g_zald hC hG V_m15 _ rfl (by omega) (by omega) dX7_result_99 ?_
                      refine lv_if_eq (tgt := 133) hx hb dX7_result_100 (by decide) (fun h100 => ?_) (fun h100 => ?_)
                      · skip
                        refine lv_iconst (v := 1) hx hb dX7_result_133 (by decide) ?_
                        refine lv_goto (tgt := 138) hx hb dX7_result_134 (by decide) ?_
                        refine lv_iconst (v := 3) hx hb dX7_result_138 (by decide) ?_
                        refine k_X7_isThrown hC hS hG (by first | exact Or.inl rfl | exact Or.inr rfl) ml_X7_94 ⟨Nat.le_of_ble_eq_true rfl, Nat.le_of_ble_eq_true rfl⟩ hl.1 (Nat.le_of_ble_eq_true rfl) dX7_result_139 ⟨Nat.le_of_ble_eq_true rfl, Nat.le_of_ble_eq_true rfl⟩ (fun h139_0 H locs hG hS => ?_) (fun h139_0 H locs hG hS => ?_)
                        · skip
                          refine lv_if_eq (tgt := 147) hx hb dX7_result_142 (by decide) (fun h142 => ?_) (fun h142 => ?_)
                          · exact absurd h142 (by decide)
                          · skip
                            refine lv_iconst (v := 0) hx hb dX7_result_145 (by decide) ?_
                            exact R_I hC hS hr hlk rfl (Or.inr ⟨3, (by simp only [cd_result, za1, za2]; exact (cif_t ⟨ix_nI ha1, ix_nI ha2⟩).trans ((cif_t ⟨h57, by first | exact fun z => absurd z hg | exact fun _ => h73⟩).trans (cif_f (fun z => by first | exact z.1 h100 | exact h109 z.2.1 | exact h115 z.2.2.1 | exact z.2.2.2 h130)))), (by decide), hG⟩) (Nat.le_of_ble_eq_true rfl) (Nat.le_of_ble_eq_true rfl) dX7_result_146
                        · skip
                          exact absurd h139_0 (by decide)
                      · skip
                        refine o_aload_n hx hb dX7_result_103 hl rfl ?_
                        refine g_get hC hG us_X7 rfl 16 (by decide) fl_X7_62 V_model rfl dX7_result_104 ?_
                        refine o_iload_n hx hb dX7_result_107 hl rfl ?_
                        refine g_zald hC hG V_m16 _ rfl (by omega) (by omega) dX7_result_108 ?_
                        refine lv_if_ne (tgt := 133) hx hb dX7_result_109 (by decide) (fun h109 => ?_) (fun h109 => ?_)
                        · skip
                          refine lv_iconst (v := 1) hx hb dX7_result_133 (by decide) ?_
                          refine lv_goto (tgt := 138) hx hb dX7_result_134 (by decide) ?_
                          refine lv_iconst (v := 3) hx hb dX7_result_138 (by decide) ?_
                          refine k_X7_isThrown hC hS hG (by first | exact Or.inl rfl | exact Or.inr rfl) ml_X7_94 ⟨Nat.le_of_ble_eq_true rfl, Nat.le_of_ble_eq_true rfl⟩ hl.1 (Nat.le_of_ble_eq_true rfl) dX7_result_139 ⟨Nat.le_of_ble_eq_true rfl, Nat.le_of_ble_eq_true rfl⟩ (fun h139_0 H locs hG hS => ?_) (fun h139_0 H locs hG hS => ?_)
                          · skip
                            refine lv_if_eq (tgt := 147) hx hb dX7_result_142 (by decide) (fun h142 => ?_) (fun h142 => ?_)
                            · exact absurd h142 (by decide)
                            · skip
                              refine lv_iconst (v := 0) hx hb dX7_result_145 (by decide) ?_
                              exact R_I hC hS hr hlk rfl (Or.inr ⟨3, (by simp only [cd_result, za1, za2]; exact (cif_t ⟨ix_nI ha1, ix_nI ha2⟩).trans ((cif_t ⟨h57, by first | exact fun z => absurd z hg | exact fun _ => h73⟩).trans (cif_f (fun z => by first | exact z.1 h100 | exact h109 z.2.1 | exact h115 z.2.2.1 | exact z.2.2.2 h130)))), (by decide), hG⟩) (Nat.le_of_ble_eq_true rfl) (Nat.le_of_ble_eq_true rfl) dX7_result_146
                          · skip
                            exact absurd h139_0 (by decide)
                        · skip
                          refine o_aload_n hx hb dX7_result_112 hl rfl ?_
                          refine o_iload_n hx hb dX7_result_113 hl rfl ?_
                          refine o_iload_n hx hb dX7_result_114 hl rfl ?_
                          refine k_X7_isStanding hC hS hG ⟨by omega, by omega⟩ ml_X7_149 ⟨Nat.le_of_ble_eq_true rfl, Nat.le_of_ble_eq_true rfl⟩ hl.1 (Nat.le_of_ble_eq_true rfl) dX7_result_115 ⟨Nat.le_of_ble_eq_true rfl, Nat.le_of_ble_eq_true rfl⟩ (fun h115 => ?_) (fun h115 => ?_)
                          · skip
                            obtain ⟨-, -, q, hq, hkq⟩ := ent_lt hW h115.1
                            refine lv_if_eq (tgt := 133) hx hb dX7_result_118 (by decide) (fun h118 => ?_) (fun h118 => ?_)
                            · exact absurd h118 (by decide)
                            · skip
                              refine o_aload_n hx hb dX7_result_121 hl rfl ?_
                              refine g_get hC hG us_X7 rfl 19 (by decide) fl_X7_73 V_model rfl dX7_result_122 ?_
                              refine o_iload_n hx hb dX7_result_125 hl rfl ?_
                              refine g_aald hC hG 7 rfl rfl V_o19 _ rfl (by omega) (by omega) dX7_result_126 ?_
                              refine o_iload_n hx hb dX7_result_127 hl rfl ?_
                              refine g_iald hC hG (V_r19 (by omega)) _ rfl (by omega) (by omega) dX7_result_128 ?_
                              refine lv_iconst (v := (-1)) hx hb dX7_result_129 (by decide) ?_
                              refine lv_icmp_eq (tgt := 137) hx hb dX7_result_130 (by decide) (fun h130 => ?_) (fun h130 => ?_)
                              · skip
                                refine lv_iconst (v := 0) hx hb dX7_result_137 (by decide) ?_
                                refine lv_iconst (v := 3) hx hb dX7_result_138 (by decide) ?_
                                refine k_X7_isThrown hC hS hG (by first | exact Or.inl rfl | exact Or.inr rfl) ml_X7_94 ⟨Nat.le_of_ble_eq_true rfl, Nat.le_of_ble_eq_true rfl⟩ hl.1 (Nat.le_of_ble_eq_true rfl) dX7_result_139 ⟨Nat.le_of_ble_eq_true rfl, Nat.le_of_ble_eq_true rfl⟩ (fun h139_0 H locs hG hS => ?_) (fun h139_0 H locs hG hS => ?_)
                                · skip
                                  exact absurd h139_0 (by decide)
                                · skip
                                  refine lv_if_eq (tgt := 147) hx hb dX7_result_142 (by decide) (fun h142 => ?_) (fun h142 => ?_)
                                  · skip
                                    refine o_iload hx hb dX7_result_147 hl rfl ?_
                                    refine lv_if_eq (tgt := 169) hx hb dX7_result_149 (by decide) (fun h149 => ?_) (fun h149 => ?_)
                                    · skip
                                      have zq : ci (T 20 a1 a2) = q := by rw [hkq]; exact nI_clamp (by omega)
                                      refine o_aload_n hx hb dX7_result_169 hl rfl ?_
                                      refine g_get hC hG us_X7 rfl 19 (by decide) fl_X7_73 V_model rfl dX7_result_170 ?_
                                      refine o_iload_n hx hb dX7_result_173 hl rfl ?_
                                      refine g_aald hC hG 7 rfl rfl V_o19 _ rfl (by omega) (by omega) dX7_result_174 ?_
                                      refine o_iload_n hx hb dX7_result_175 hl rfl ?_
                                      refine o_iload_n hx hb dX7_result_176 hl rfl ?_
                                      refine o_aload_n hx hb dX7_result_177 hl rfl ?_
                                      refine g_get hC hG us_X7 rfl 14 (by decide) fl_X7_56 V_model rfl dX7_result_178 ?_
                                      refine o_iload_n hx hb dX7_result_181 hl rfl ?_
                                      refine g_aald hC hG 7 rfl rfl V_o14 _ rfl (by omega) (by omega) dX7_result_182 ?_
                                      refine o_iload hx hb dX7_result_183 hl rfl ?_
                                      refine g_iald hC hG (V_r14 (by omega)) q hkq (by omega) (by omega) dX7_result_185 ?_
                                      refine lv_imul hx hb dX7_result_186 ?_
                                      refine lv_bipush (v := 100) hx hb dX7_result_187 (by decide) ?_
                                      refine lv_idiv hx hb dX7_result_189 (by decide) ?_
                                      refine g_iast hC hG hS (V_r19 (by omega)) _ rfl (by omega) (by omega) (P_r19 (by omega)) dX7_result_190 (fun H locs hG hS => ?_)
                                      refine o_aload_n hx hb dX7_result_191 hl rfl ?_
                                      refine g_get hC hG us_X7 rfl 5 (by decide) fl_X7_28 V_model rfl dX7_result_192 ?_
                                      refine o_iload_n hx hb dX7_result_195 hl rfl ?_
                                      refine g_cald hC hG V_m5 _ rfl (by omega) (by omega) dX7_result_196 ?_
                                      refine lv_bipush (v := 99) hx hb dX7_result_197 (by decide) ?_
                                      refine lv_icmp_ne (tgt := 228) hx hb dX7_result_199 (by decide) (fun h199 => ?_) (fun h199 => ?_)
                                      · skip
                                        refine lv_iconst (v := 0) hx hb dX7_result_228 (by decide) ?_
                                        refine o_istore hx hb dX7_result_229 hl (by decide) rfl (fun ls hl => ?_)
                                        refine o_aload_n hx hb dX7_result_231 hl rfl ?_
                                        refine g_get hC hG us_X7 rfl 11 (by decide) fl_X7_47 V_model rfl dX7_result_232 ?_
                                        refine o_iload hx hb dX7_result_235 hl rfl ?_
                                        refine o_iload hx hb dX7_result_237 hl rfl ?_
                                        refine lv_if_eq (tgt := 246) hx hb dX7_result_239 (by decide) (fun h239 => ?_) (fun h239 => ?_)
                                        · skip
                                          refine o_aload_n hx hb dX7_result_246 hl rfl ?_
                                          refine g_get hC hG us_X7 rfl 11 (by decide) fl_X7_47 V_model rfl dX7_result_247 ?_
                                          refine o_iload hx hb dX7_result_250 hl rfl ?_
                                          refine g_iald hC hG V_m11 q hkq (by omega) (by omega) dX7_result_252 ?_
                                          refine g_iast hC hG hS V_m11 q hkq (by omega) (by omega) P_m11 dX7_result_253 (fun H locs hG hS => ?_)
                                          refine o_aload_n hx hb dX7_result_254 hl rfl ?_
                                          refine g_get hC hG us_X7 rfl 19 (by decide) fl_X7_73 V_model rfl dX7_result_255 ?_
                                          refine o_iload_n hx hb dX7_result_258 hl rfl ?_
                                          refine g_aald hC hG 7 rfl rfl V_o19 _ rfl (by omega) (by omega) dX7_result_259 ?_
                                          refine o_iload_n hx hb dX7_result_260 hl rfl ?_
                                          refine g_iald hC hG (V_r19 (by omega)) _ rfl (by omega) (by omega) dX7_result_261 ?_
                                          exact R_I hC hS hr hlk rfl (Or.inl ⟨(by simp only [cd_result, za1, za2]; exact (cif_t ⟨ix_nI ha1, ix_nI ha2⟩).trans ((cif_t ⟨h57, by first | exact fun z => absurd z hg | exact fun _ => h73⟩).trans (cif_t ⟨h100, h109, h115, fun z => z h130⟩))), (by rw [za1, za2, show vl_result T a1 a2 t g = _ from cif_f (fun z => by first | exact hg z.1 | exact absurd z.2 (Int32.not_lt.mpr h155)), up3_ne (by omega), up3_self]; unfold ftm; rw [zq]), (by rw [za1, za2, show reS T a1 a2 t g = rcS T a1 a2 t from cif_f (fun z => by first | exact hg z.1 | exact absurd z.2 (Int32.not_lt.mpr h155))]; first | (rw [rcS_t zq h199, if_pos (by first | exact Or.inl h210 | exact Or.inr (Int32.not_le.mp h221))]; exact hG) | (rw [rcS_t zq h199, if_neg (fun z => z.elim h210 (fun z => absurd z (Int32.not_lt.mpr h221)))]; rw [up3_same rfl] at hG; exact hG) | (rw [rcS_f zq h199]; rw [up3_same rfl] at hG; exact hG))⟩) (Nat.le_of_ble_eq_true rfl) (Nat.le_of_ble_eq_true rfl) dX7_result_262
                                        · exact absurd h239 (by decide)
                                      · skip
                                        refine o_aload_n hx hb dX7_result_202 hl rfl ?_
                                        refine g_get hC hG us_X7 rfl 11 (by decide) fl_X7_47 V_model rfl dX7_result_203 ?_
                                        refine o_iload hx hb dX7_result_206 hl rfl ?_
                                        refine g_iald hC hG V_m11 q hkq (by omega) (by omega) dX7_result_208 ?_
                                        refine lv_iconst (v := (-1)) hx hb dX7_result_209 (by decide) ?_
                                        refine lv_icmp_eq (tgt := 224) hx hb dX7_result_210 (by decide) (fun h210 => ?_) (fun h210 => ?_)
                                        · skip
                                          refine lv_iconst (v := 1) hx hb dX7_result_224 (by decide) ?_
                                          refine lv_goto (tgt := 229) hx hb dX7_result_225 (by decide) ?_
                                          refine o_istore hx hb dX7_result_229 hl (by decide) rfl (fun ls hl => ?_)
                                          refine o_aload_n hx hb dX7_result_231 hl rfl ?_
                                          refine g_get hC hG us_X7 rfl 11 (by decide) fl_X7_47 V_model rfl dX7_result_232 ?_
                                          refine o_iload hx hb dX7_result_235 hl rfl ?_
                                          refine o_iload hx hb dX7_result_237 hl rfl ?_
                                          refine lv_if_eq (tgt := 246) hx hb dX7_result_239 (by decide) (fun h239 => ?_) (fun h239 => ?_)
                                          · exact absurd h239 (by decide)
                                          · skip
                                            refine o_iload_n hx hb dX7_result_242 hl rfl ?_
                                            refine lv_goto (tgt := 253) hx hb dX7_result_243 (by decide) ?_
                                            refine g_iast hC hG hS V_m11 q hkq (by omega) (by omega) P_m11 dX7_result_253 (fun H locs hG hS => ?_)
                                            refine o_aload_n hx hb dX7_result_254 hl rfl ?_
                                            refine g_get hC hG us_X7 rfl 19 (by decide) fl_X7_73 V_model rfl dX7_result_255 ?_
                                            refine o_iload_n hx hb dX7_result_258 hl rfl ?_
                                            refine g_aald hC hG 7 rfl rfl V_o19 _ rfl (by omega) (by omega) dX7_result_259 ?_
                                            refine o_iload_n hx hb dX7_result_260 hl rfl ?_
                                            refine g_iald hC hG (V_r19 (by omega)) _ rfl (by omega) (by omega) dX7_result_261 ?_
                                            exact R_I hC hS hr hlk rfl (Or.inl ⟨(by simp only [cd_result, za1, za2]; exact (cif_t ⟨ix_nI ha1, ix_nI ha2⟩).trans ((cif_t ⟨h57, by first | exact fun z => absurd z hg | exact fun _ => h73⟩).trans (cif_t ⟨h100, h109, h115, fun z => z h130⟩))), (by rw [za1, za2, show vl_result T a1 a2 t g = _ from cif_f (fun z => by first | exact hg z.1 | exact absurd z.2 (Int32.not_lt.mpr h155)), up3_ne (by omega), up3_self]; unfold ftm; rw [zq]), (by rw [za1, za2, show reS T a1 a2 t g = rcS T a1 a2 t from cif_f (fun z => by first | exact hg z.1 | exact absurd z.2 (Int32.not_lt.mpr h155))]; first | (rw [rcS_t zq h199, if_pos (by first | exact Or.inl h210 | exact Or.inr (Int32.not_le.mp h221))]; exact hG) | (rw [rcS_t zq h199, if_neg (fun z => z.elim h210 (fun z => absurd z (Int32.not_lt.mpr h221)))]; rw [up3_same rfl] at hG; exact hG) | (rw [rcS_f zq h199]; rw [up3_same rfl] at hG; exact hG))⟩) (Nat.le_of_ble_eq_true rfl) (Nat.le_of_ble_eq_true rfl) dX7_result_262
                                        · skip
                                          refine o_iload_n hx hb dX7_result_213 hl rfl ?_
                                          refine o_aload_n hx hb dX7_result_214 hl rfl ?_
                                          refine g_get hC hG us_X7 rfl 11 (by decide) fl_X7_47 V_model rfl dX7_result_215 ?_
                                          refine o_iload hx hb dX7_result_218 hl rfl ?_
                                          refine g_iald hC hG V_m11 q hkq (by omega) (by omega) dX7_result_220 ?_
                                          refine lv_icmp_ge (tgt := 228) hx hb dX7_result_221 (by decide) (fun h221 => ?_) (fun h221 => ?_)
                                          · skip
                                            refine lv_iconst (v := 0) hx hb dX7_result_228 (by decide) ?_
                                            refine o_istore hx hb dX7_result_229 hl (by decide) rfl (fun ls hl => ?_)
                                            refine o_aload_n hx hb dX7_result_231 hl rfl ?_
                                            refine g_get hC hG us_X7 rfl 11 (by decide) fl_X7_47 V_model rfl dX7_result_232 ?_
                                            refine o_iload hx hb dX7_result_235 hl rfl ?_
                                            refine o_iload hx hb dX7_result_237 hl rfl ?_
                                            refine lv_if_eq (tgt := 246) hx hb dX7_result_239 (by decide) (fun h239 => ?_) (fun h239 => ?_)
                                            · skip
                                              refine o_aload_n hx hb dX7_result_246 hl rfl ?_
                                              refine g_get hC hG us_X7 rfl 11 (by decide) fl_X7_47 V_model rfl dX7_result_247 ?_
                                              refine o_iload hx hb dX7_result_250 hl rfl ?_
                                              refine g_iald hC hG V_m11 q hkq (by omega) (by omega) dX7_result_252 ?_
                                              refine g_iast hC hG hS V_m11 q hkq (by omega) (by omega) P_m11 dX7_result_253 (fun H locs hG hS => ?_)
                                              refine o_aload_n hx hb dX7_result_254 hl rfl ?_
                                              refine g_get hC hG us_X7 rfl 19 (by decide) fl_X7_73 V_model rfl dX7_result_255 ?_
                                              refine o_iload_n hx hb dX7_result_258 hl rfl ?_
                                              refine g_aald hC hG 7 rfl rfl V_o19 _ rfl (by omega) (by omega) dX7_result_259 ?_
                                              refine o_iload_n hx hb dX7_result_260 hl rfl ?_
                                              refine g_iald hC hG (V_r19 (by omega)) _ rfl (by omega) (by omega) dX7_result_261 ?_
                                              exact R_I hC hS hr hlk rfl (Or.inl ⟨(by simp only [cd_result, za1, za2]; exact (cif_t ⟨ix_nI ha1, ix_nI ha2⟩).trans ((cif_t ⟨h57, by first | exact fun z => absurd z hg | exact fun _ => h73⟩).trans (cif_t ⟨h100, h109, h115, fun z => z h130⟩))), (by rw [za1, za2, show vl_result T a1 a2 t g = _ from cif_f (fun z => by first | exact hg z.1 | exact absurd z.2 (Int32.not_lt.mpr h155)), up3_ne (by omega), up3_self]; unfold ftm; rw [zq]), (by rw [za1, za2, show reS T a1 a2 t g = rcS T a1 a2 t from cif_f (fun z => by first | exact hg z.1 | exact absurd z.2 (Int32.not_lt.mpr h155))]; first | (rw [rcS_t zq h199, if_pos (by first | exact Or.inl h210 | exact Or.inr (Int32.not_le.mp h221))]; exact hG) | (rw [rcS_t zq h199, if_neg (fun z => z.elim h210 (fun z => absurd z (Int32.not_lt.mpr h221)))]; rw [up3_same rfl] at hG; exact hG) | (rw [rcS_f zq h199]; rw [up3_same rfl] at hG; exact hG))⟩) (Nat.le_of_ble_eq_true rfl) (Nat.le_of_ble_eq_true rfl) dX7_result_262
                                            · exact absurd h239 (by decide)
                                          · skip
                                            refine lv_iconst (v := 1) hx hb dX7_result_224 (by decide) ?_
                                            refine lv_goto (tgt := 229) hx hb dX7_result_225 (by decide) ?_
                                            refine o_istore hx hb dX7_result_229 hl (by decide) rfl (fun ls hl => ?_)
                                            refine o_aload_n hx hb dX7_result_231 hl rfl ?_
                                            refine g_get hC hG us_X7 rfl 11 (by decide) fl_X7_47 V_model rfl dX7_result_232 ?_
                                            refine o_iload hx hb dX7_result_235 hl rfl ?_
                                            refine o_iload hx hb dX7_result_237 hl rfl ?_
                                            refine lv_if_eq (tgt := 246) hx hb dX7_result_239 (by decide) (fun h239 => ?_) (fun h239 => ?_)
                                            · exact absurd h239 (by decide)
                                            · skip
                                              refine o_iload_n hx hb dX7_result_242 hl rfl ?_
                                              refine lv_goto (tgt := 253) hx hb dX7_result_243 (by decide) ?_
                                              refine g_iast hC hG hS V_m11 q hkq (by omega) (by omega) P_m11 dX7_result_253 (fun H locs hG hS => ?_)
                                              refine o_aload_n hx hb dX7_result_254 hl rfl ?_
                                              refine g_get hC hG us_X7 rfl 19 (by decide) fl_X7_73 V_model rfl dX7_result_255 ?_
                                              refine o_iload_n hx hb dX7_result_258 hl rfl ?_
                                              refine g_aald hC hG 7 rfl rfl V_o19 _ rfl (by omega) (by omega) dX7_result_259 ?_
                                              refine o_iload_n hx hb dX7_result_260 hl rfl ?_
                                              refine g_iald hC hG (V_r19 (by omega)) _ rfl (by omega) (by omega) dX7_result_261 ?_
                                              exact R_I hC hS hr hlk rfl (Or.inl ⟨(by simp only [cd_result, za1, za2]; exact (cif_t ⟨ix_nI ha1, ix_nI ha2⟩).trans ((cif_t ⟨h57, by first | exact fun z => absurd z hg | exact fun _ => h73⟩).trans (cif_t ⟨h100, h109, h115, fun z => z h130⟩))), (by rw [za1, za2, show vl_result T a1 a2 t g = _ from cif_f (fun z => by first | exact hg z.1 | exact absurd z.2 (Int32.not_lt.mpr h155)), up3_ne (by omega), up3_self]; unfold ftm; rw [zq]), (by rw [za1, za2, show reS T a1 a2 t g = rcS T a1 a2 t from cif_f (fun z => by first | exact hg z.1 | exact absurd z.2 (Int32.not_lt.mpr h155))]; first | (rw [rcS_t zq h199, if_pos (by first | exact Or.inl h210 | exact Or.inr (Int32.not_le.mp h221))]; exact hG) | (rw [rcS_t zq h199, if_neg (fun z => z.elim h210 (fun z => absurd z (Int32.not_lt.mpr h221)))]; rw [up3_same rfl] at hG; exact hG) | (rw [rcS_f zq h199]; rw [up3_same rfl] at hG; exact hG))⟩) (Nat.le_of_ble_eq_true rfl) (Nat.le_of_ble_eq_true rfl) dX7_result_262
                                    · exact absurd h149 (by decide)
                                  · exact absurd h142 (by decide)
                              · skip
                                refine lv_iconst (v := 1) hx hb dX7_result_133 (by decide) ?_
                                refine lv_goto (tgt := 138) hx hb dX7_result_134 (by decide) ?_
                                refine lv_iconst (v := 3) hx hb dX7_result_138 (by decide) ?_
                                refine k_X7_isThrown hC hS hG (by first | exact Or.inl rfl | exact Or.inr rfl) ml_X7_94 ⟨Nat.le_of_ble_eq_true rfl, Nat.le_of_ble_eq_true rfl⟩ hl.1 (Nat.le_of_ble_eq_true rfl) dX7_result_139 ⟨Nat.le_of_ble_eq_true rfl, Nat.le_of_ble_eq_true rfl⟩ (fun h139_0 H locs hG hS => ?_) (fun h139_0 H locs hG hS => ?_)
                                · skip
                                  refine lv_if_eq (tgt := 147) hx hb dX7_result_142 (by decide) (fun h142 => ?_) (fun h142 => ?_)
                                  · exact absurd h142 (by decide)
                                  · skip
                                    refine lv_iconst (v := 0) hx hb dX7_result_145 (by decide) ?_
                                    exact R_I hC hS hr hlk rfl (Or.inr ⟨3, (by simp only [cd_result, za1, za2]; exact (cif_t ⟨ix_nI ha1, ix_nI ha2⟩).trans ((cif_t ⟨h57, by first | exact fun z => absurd z hg | exact fun _ => h73⟩).trans (cif_f (fun z => by first | exact z.1 h100 | exact h109 z.2.1 | exact h115 z.2.2.1 | exact z.2.2.2 h130)))), (by decide), hG⟩) (Nat.le_of_ble_eq_true rfl) (Nat.le_of_ble_eq_true rfl) dX7_result_146
                                · skip
                                  exact absurd h139_0 (by decide)
                          · skip
                            refine lv_if_eq (tgt := 133) hx hb dX7_result_118 (by decide) (fun h118 => ?_) (fun h118 => ?_)
                            · skip
                              refine lv_iconst (v := 1) hx hb dX7_result_133 (by decide) ?_
                              refine lv_goto (tgt := 138) hx hb dX7_result_134 (by decide) ?_
                              refine lv_iconst (v := 3) hx hb dX7_result_138 (by decide) ?_
                              refine k_X7_isThrown hC hS hG (by first | exact Or.inl rfl | exact Or.inr rfl) ml_X7_94 ⟨Nat.le_of_ble_eq_true rfl, Nat.le_of_ble_eq_true rfl⟩ hl.1 (Nat.le_of_ble_eq_true rfl) dX7_result_139 ⟨Nat.le_of_ble_eq_true rfl, Nat.le_of_ble_eq_true rfl⟩ (fun h139_0 H locs hG hS => ?_) (fun h139_0 H locs hG hS => ?_)
                              · skip
                                refine lv_if_eq (tgt := 147) hx hb dX7_result_142 (by decide) (fun h142 => ?_) (fun h142 => ?_)
                                · exact absurd h142 (by decide)
                                · skip
                                  refine lv_iconst (v := 0) hx hb dX7_result_145 (by decide) ?_
                                  exact R_I hC hS hr hlk rfl (Or.inr ⟨3, (by simp only [cd_result, za1, za2]; exact (cif_t ⟨ix_nI ha1, ix_nI ha2⟩).trans ((cif_t ⟨h57, by first | exact fun z => absurd z hg | exact fun _ => h73⟩).trans (cif_f (fun z => by first | exact z.1 h100 | exact h109 z.2.1 | exact h115 z.2.2.1 | exact z.2.2.2 h130)))), (by decide), hG⟩) (Nat.le_of_ble_eq_true rfl) (Nat.le_of_ble_eq_true rfl) dX7_result_146
                              · skip
                                exact absurd h139_0 (by decide)
                            · exact absurd h118 (by decide)
                    · exact absurd h88 (by decide)
                · exact absurd h65 (by decide)
            · skip
              refine lv_if_eq (tgt := 79) hx hb dX7_result_60 (by decide) (fun h60 => ?_) (fun h60 => ?_)
              · skip
                refine lv_iconst (v := 1) hx hb dX7_result_79 (by decide) ?_
                refine lv_goto (tgt := 84) hx hb dX7_result_80 (by decide) ?_
                refine lv_iconst (v := 2) hx hb dX7_result_84 (by decide) ?_
                refine k_X7_isThrown hC hS hG (by first | exact Or.inl rfl | exact Or.inr rfl) ml_X7_94 ⟨Nat.le_of_ble_eq_true rfl, Nat.le_of_ble_eq_true rfl⟩ hl.1 (Nat.le_of_ble_eq_true rfl) dX7_result_85 ⟨Nat.le_of_ble_eq_true rfl, Nat.le_of_ble_eq_true rfl⟩ (fun h85_0 H locs hG hS => ?_) (fun h85_0 H locs hG hS => ?_)
                · skip
                  refine lv_if_eq (tgt := 93) hx hb dX7_result_88 (by decide) (fun h88 => ?_) (fun h88 => ?_)
                  · exact absurd h88 (by decide)
                  · skip
                    refine lv_iconst (v := 0) hx hb dX7_result_91 (by decide) ?_
                    exact R_I hC hS hr hlk rfl (Or.inr ⟨2, (by simp only [cd_result, za1, za2]; exact (cif_t ⟨ix_nI ha1, ix_nI ha2⟩).trans (cif_f (fun z => by first | exact h57 z.1 | exact h73 (z.2 hg)))), (by decide), hG⟩) (Nat.le_of_ble_eq_true rfl) (Nat.le_of_ble_eq_true rfl) dX7_result_92
                · skip
                  exact absurd h85_0 (by decide)
              · exact absurd h60 (by decide)
          · skip
            have hg : gdP T a1 a2 := ⟨h29, by rw [hkq, show ci (nI q) = q from nI_clamp (by omega)]; exact h42⟩
            refine lv_iconst (v := 1) hx hb dX7_result_45 (by decide) ?_
            refine lv_goto (tgt := 50) hx hb dX7_result_46 (by decide) ?_
            refine o_istore hx hb dX7_result_50 hl (by decide) rfl (fun ls hl => ?_)
            refine o_aload_n hx hb dX7_result_52 hl rfl ?_
            refine o_iload_n hx hb dX7_result_53 hl rfl ?_
            refine lv_iconst (v := 1) hx hb dX7_result_54 (by decide) ?_
            refine lv_ldc hx hb hC.o (hC.t _ ct_X7_158) dX7_result_55 ?_
            refine k_X7_isIn hC hS hG trivial ml_X7_83 ⟨Nat.le_of_ble_eq_true rfl, Nat.le_of_ble_eq_true rfl⟩ hl.1 (Nat.le_of_ble_eq_true rfl) dX7_result_57 ⟨Nat.le_of_ble_eq_true rfl, Nat.le_of_ble_eq_true rfl⟩ (fun h57 => ?_) (fun h57 => ?_)
            · skip
              refine lv_if_eq (tgt := 79) hx hb dX7_result_60 (by decide) (fun h60 => ?_) (fun h60 => ?_)
              · exact absurd h60 (by decide)
              · skip
                refine o_iload hx hb dX7_result_63 hl rfl ?_
                refine lv_if_eq (tgt := 83) hx hb dX7_result_65 (by decide) (fun h65 => ?_) (fun h65 => ?_)
                · exact absurd h65 (by decide)
                · skip
                  refine o_iload hx hb dX7_result_68 hl rfl ?_
                  refine lv_iconst (v := 1) hx hb dX7_result_70 (by decide) ?_
                  refine lv_ldc hx hb hC.o (hC.t _ ct_X7_158) dX7_result_71 ?_
                  refine k_X7_isIn hC hS hG trivial ml_X7_83 ⟨Nat.le_of_ble_eq_true rfl, Nat.le_of_ble_eq_true rfl⟩ hl.1 (Nat.le_of_ble_eq_true rfl) dX7_result_73 ⟨Nat.le_of_ble_eq_true rfl, Nat.le_of_ble_eq_true rfl⟩ (fun h73 => ?_) (fun h73 => ?_)
                  · skip
                    refine lv_if_ne (tgt := 83) hx hb dX7_result_76 (by decide) (fun h76 => ?_) (fun h76 => ?_)
                    · skip
                      refine lv_iconst (v := 0) hx hb dX7_result_83 (by decide) ?_
                      refine lv_iconst (v := 2) hx hb dX7_result_84 (by decide) ?_
                      refine k_X7_isThrown hC hS hG (by first | exact Or.inl rfl | exact Or.inr rfl) ml_X7_94 ⟨Nat.le_of_ble_eq_true rfl, Nat.le_of_ble_eq_true rfl⟩ hl.1 (Nat.le_of_ble_eq_true rfl) dX7_result_85 ⟨Nat.le_of_ble_eq_true rfl, Nat.le_of_ble_eq_true rfl⟩ (fun h85_0 H locs hG hS => ?_) (fun h85_0 H locs hG hS => ?_)
                      · skip
                        exact absurd h85_0 (by decide)
                      · skip
                        refine lv_if_eq (tgt := 93) hx hb dX7_result_88 (by decide) (fun h88 => ?_) (fun h88 => ?_)
                        · skip
                          refine o_aload_n hx hb dX7_result_93 hl rfl ?_
                          refine o_aload_n hx hb dX7_result_94 hl rfl ?_
                          refine g_get hC hG us_X7 rfl 15 (by decide) fl_X7_59 V_model rfl dX7_result_95 ?_
                          refine o_iload_n hx hb dX7_result_98 hl rfl ?_
                          refine g_zald hC hG V_m15 _ rfl (by omega) (by omega) dX7_result_99 ?_
                          refine lv_if_eq (tgt := 133) hx hb dX7_result_100 (by decide) (fun h100 => ?_) (fun h100 => ?_)
                          · skip
                            refine lv_iconst (v := 1) hx hb dX7_result_133 (by decide) ?_
                            refine lv_goto (tgt := 138) hx hb dX7_result_134 (by decide) ?_
                            refine lv_iconst (v := 3) hx hb dX7_result_138 (by decide) ?_
                            refine k_X7_isThrown hC hS hG (by first | exact Or.inl rfl | exact Or.inr rfl) ml_X7_94 ⟨Nat.le_of_ble_eq_true rfl, Nat.le_of_ble_eq_true rfl⟩ hl.1 (Nat.le_of_ble_eq_true rfl) dX7_result_139 ⟨Nat.le_of_ble_eq_true rfl, Nat.le_of_ble_eq_true rfl⟩ (fun h139_0 H locs hG hS => ?_) (fun h139_0 H locs hG hS => ?_)
                            · skip
                              refine lv_if_eq (tgt := 147) hx hb dX7_result_142 (by decide) (fun h142 => ?_) (fun h142 => ?_)
                              · exact absurd h142 (by decide)
                              · skip
                                refine lv_iconst (v := 0) hx hb dX7_result_145 (by decide) ?_
                                exact R_I hC hS hr hlk rfl (Or.inr ⟨3, (by simp only [cd_result, za1, za2]; exact (cif_t ⟨ix_nI ha1, ix_nI ha2⟩).trans ((cif_t ⟨h57, by first | exact fun z => absurd z hg | exact fun _ => h73⟩).trans (cif_f (fun z => by first | exact z.1 h100 | exact h109 z.2.1 | exact h115 z.2.2.1 | exact z.2.2.2 h130)))), (by decide), hG⟩) (Nat.le_of_ble_eq_true rfl) (Nat.le_of_ble_eq_true rfl) dX7_result_146
                            · skip
                              exact absurd h139_0 (by decide)
                          · skip
                            refine o_aload_n hx hb dX7_result_103 hl rfl ?_
                            refine g_get hC hG us_X7 rfl 16 (by decide) fl_X7_62 V_model rfl dX7_result_104 ?_
                            refine o_iload_n hx hb dX7_result_107 hl rfl ?_
                            refine g_zald hC hG V_m16 _ rfl (by omega) (by omega) dX7_result_108 ?_
                            refine lv_if_ne (tgt := 133) hx hb dX7_result_109 (by decide) (fun h109 => ?_) (fun h109 => ?_)
                            · skip
                              refine lv_iconst (v := 1) hx hb dX7_result_133 (by decide) ?_
                              refine lv_goto (tgt := 138) hx hb dX7_result_134 (by decide) ?_
                              refine lv_iconst (v := 3) hx hb dX7_result_138 (by decide) ?_
                              refine k_X7_isThrown hC hS hG (by first | exact Or.inl rfl | exact Or.inr rfl) ml_X7_94 ⟨Nat.le_of_ble_eq_true rfl, Nat.le_of_ble_eq_true rfl⟩ hl.1 (Nat.le_of_ble_eq_true rfl) dX7_result_139 ⟨Nat.le_of_ble_eq_true rfl, Nat.le_of_ble_eq_true rfl⟩ (fun h139_0 H locs hG hS => ?_) (fun h139_0 H locs hG hS => ?_)
                              · skip
                                refine lv_if_eq (tgt := 147) hx hb dX7_result_142 (by decide) (fun h142 => ?_) (fun h142 => ?_)
                                · exact absurd h142 (by decide)
                                · skip
                                  refine lv_iconst (v := 0) hx hb dX7_result_145 (by decide) ?_
                                  exact R_I hC hS hr hlk rfl (Or.inr ⟨3, (by simp only [cd_result, za1, za2]; exact (cif_t ⟨ix_nI ha1, ix_nI ha2⟩).trans ((cif_t ⟨h57, by first | exact fun z => absurd z hg | exact fun _ => h73⟩).trans (cif_f (fun z => by first | exact z.1 h100 | exact h109 z.2.1 | exact h115 z.2.2.1 | exact z.2.2.2 h130)))), (by decide), hG⟩) (Nat.le_of_ble_eq_true rfl) (Nat.le_of_ble_eq_true rfl) dX7_result_146
                              · skip
                                exact absurd h139_0 (by decide)
                            · skip
                              refine o_aload_n hx hb dX7_result_112 hl rfl ?_
                              refine o_iload_n hx hb dX7_result_113 hl rfl ?_
                              refine o_iload_n hx hb dX7_result_114 hl rfl ?_
                              refine k_X7_isStanding hC hS hG ⟨by omega, by omega⟩ ml_X7_149 ⟨Nat.le_of_ble_eq_true rfl, Nat.le_of_ble_eq_true rfl⟩ hl.1 (Nat.le_of_ble_eq_true rfl) dX7_result_115 ⟨Nat.le_of_ble_eq_true rfl, Nat.le_of_ble_eq_true rfl⟩ (fun h115 => ?_) (fun h115 => ?_)
                              · skip
                                obtain ⟨-, -, q, hq, hkq⟩ := ent_lt hW h115.1
                                refine lv_if_eq (tgt := 133) hx hb dX7_result_118 (by decide) (fun h118 => ?_) (fun h118 => ?_)
                                · exact absurd h118 (by decide)
                                · skip
                                  refine o_aload_n hx hb dX7_result_121 hl rfl ?_
                                  refine g_get hC hG us_X7 rfl 19 (by decide) fl_X7_73 V_model rfl dX7_result_122 ?_
                                  refine o_iload_n hx hb dX7_result_125 hl rfl ?_
                                  refine g_aald hC hG 7 rfl rfl V_o19 _ rfl (by omega) (by omega) dX7_result_126 ?_
                                  refine o_iload_n hx hb dX7_result_127 hl rfl ?_
                                  refine g_iald hC hG (V_r19 (by omega)) _ rfl (by omega) (by omega) dX7_result_128 ?_
                                  refine lv_iconst (v := (-1)) hx hb dX7_result_129 (by decide) ?_
                                  refine lv_icmp_eq (tgt := 137) hx hb dX7_result_130 (by decide) (fun h130 => ?_) (fun h130 => ?_)
                                  · skip
                                    refine lv_iconst (v := 0) hx hb dX7_result_137 (by decide) ?_
                                    refine lv_iconst (v := 3) hx hb dX7_result_138 (by decide) ?_
                                    refine k_X7_isThrown hC hS hG (by first | exact Or.inl rfl | exact Or.inr rfl) ml_X7_94 ⟨Nat.le_of_ble_eq_true rfl, Nat.le_of_ble_eq_true rfl⟩ hl.1 (Nat.le_of_ble_eq_true rfl) dX7_result_139 ⟨Nat.le_of_ble_eq_true rfl, Nat.le_of_ble_eq_true rfl⟩ (fun h139_0 H locs hG hS => ?_) (fun h139_0 H locs hG hS => ?_)
                                    · skip
                                      exact absurd h139_0 (by decide)
                                    · skip
                                      refine lv_if_eq (tgt := 147) hx hb dX7_result_142 (by decide) (fun h142 => ?_) (fun h142 => ?_)
                                      · skip
                                        refine o_iload hx hb dX7_result_147 hl rfl ?_
                                        refine lv_if_eq (tgt := 169) hx hb dX7_result_149 (by decide) (fun h149 => ?_) (fun h149 => ?_)
                                        · exact absurd h149 (by decide)
                                        · skip
                                          refine o_iload hx hb dX7_result_152 hl rfl ?_
                                          refine o_iload_n hx hb dX7_result_154 hl rfl ?_
                                          refine lv_icmp_ge (tgt := 169) hx hb dX7_result_155 (by decide) (fun h155 => ?_) (fun h155 => ?_)
                                          · skip
                                            have zq : ci (T 20 a1 a2) = q := by rw [hkq]; exact nI_clamp (by omega)
                                            refine o_aload_n hx hb dX7_result_169 hl rfl ?_
                                            refine g_get hC hG us_X7 rfl 19 (by decide) fl_X7_73 V_model rfl dX7_result_170 ?_
                                            refine o_iload_n hx hb dX7_result_173 hl rfl ?_
                                            refine g_aald hC hG 7 rfl rfl V_o19 _ rfl (by omega) (by omega) dX7_result_174 ?_
                                            refine o_iload_n hx hb dX7_result_175 hl rfl ?_
                                            refine o_iload_n hx hb dX7_result_176 hl rfl ?_
                                            refine o_aload_n hx hb dX7_result_177 hl rfl ?_
                                            refine g_get hC hG us_X7 rfl 14 (by decide) fl_X7_56 V_model rfl dX7_result_178 ?_
                                            refine o_iload_n hx hb dX7_result_181 hl rfl ?_
                                            refine g_aald hC hG 7 rfl rfl V_o14 _ rfl (by omega) (by omega) dX7_result_182 ?_
                                            refine o_iload hx hb dX7_result_183 hl rfl ?_
                                            refine g_iald hC hG (V_r14 (by omega)) q hkq (by omega) (by omega) dX7_result_185 ?_
                                            refine lv_imul hx hb dX7_result_186 ?_
                                            refine lv_bipush (v := 100) hx hb dX7_result_187 (by decide) ?_
                                            refine lv_idiv hx hb dX7_result_189 (by decide) ?_
                                            refine g_iast hC hG hS (V_r19 (by omega)) _ rfl (by omega) (by omega) (P_r19 (by omega)) dX7_result_190 (fun H locs hG hS => ?_)
                                            refine o_aload_n hx hb dX7_result_191 hl rfl ?_
                                            refine g_get hC hG us_X7 rfl 5 (by decide) fl_X7_28 V_model rfl dX7_result_192 ?_
                                            refine o_iload_n hx hb dX7_result_195 hl rfl ?_
                                            refine g_cald hC hG V_m5 _ rfl (by omega) (by omega) dX7_result_196 ?_
                                            refine lv_bipush (v := 99) hx hb dX7_result_197 (by decide) ?_
                                            refine lv_icmp_ne (tgt := 228) hx hb dX7_result_199 (by decide) (fun h199 => ?_) (fun h199 => ?_)
                                            · skip
                                              refine lv_iconst (v := 0) hx hb dX7_result_228 (by decide) ?_
                                              refine o_istore hx hb dX7_result_229 hl (by decide) rfl (fun ls hl => ?_)
                                              refine o_aload_n hx hb dX7_result_231 hl rfl ?_
                                              refine g_get hC hG us_X7 rfl 11 (by decide) fl_X7_47 V_model rfl dX7_result_232 ?_
                                              refine o_iload hx hb dX7_result_235 hl rfl ?_
                                              refine o_iload hx hb dX7_result_237 hl rfl ?_
                                              refine lv_if_eq (tgt := 246) hx hb dX7_result_239 (by decide) (fun h239 => ?_) (fun h239 => ?_)
                                              · skip
                                                refine o_aload_n hx hb dX7_result_246 hl rfl ?_
                                                refine g_get hC hG us_X7 rfl 11 (by decide) fl_X7_47 V_model rfl dX7_result_247 ?_
                                                refine o_iload hx hb dX7_result_250 hl rfl ?_
                                                refine g_iald hC hG V_m11 q hkq (by omega) (by omega) dX7_result_252 ?_
                                                refine g_iast hC hG hS V_m11 q hkq (by omega) (by omega) P_m11 dX7_result_253 (fun H locs hG hS => ?_)
                                                refine o_aload_n hx hb dX7_result_254 hl rfl ?_
                                                refine g_get hC hG us_X7 rfl 19 (by decide) fl_X7_73 V_model rfl dX7_result_255 ?_
                                                refine o_iload_n hx hb dX7_result_258 hl rfl ?_
                                                refine g_aald hC hG 7 rfl rfl V_o19 _ rfl (by omega) (by omega) dX7_result_259 ?_
                                                refine o_iload_n hx hb dX7_result_260 hl rfl ?_
                                                refine g_iald hC hG (V_r19 (by omega)) _ rfl (by omega) (by omega) dX7_result_261 ?_
                                                exact R_I hC hS hr hlk rfl (Or.inl ⟨(by simp only [cd_result, za1, za2]; exact (cif_t ⟨ix_nI ha1, ix_nI ha2⟩).trans ((cif_t ⟨h57, by first | exact fun z => absurd z hg | exact fun _ => h73⟩).trans (cif_t ⟨h100, h109, h115, fun z => z h130⟩))), (by rw [za1, za2, show vl_result T a1 a2 t g = _ from cif_f (fun z => by first | exact hg z.1 | exact absurd z.2 (Int32.not_lt.mpr h155)), up3_ne (by omega), up3_self]; unfold ftm; rw [zq]), (by rw [za1, za2, show reS T a1 a2 t g = rcS T a1 a2 t from cif_f (fun z => by first | exact hg z.1 | exact absurd z.2 (Int32.not_lt.mpr h155))]; first | (rw [rcS_t zq h199, if_pos (by first | exact Or.inl h210 | exact Or.inr (Int32.not_le.mp h221))]; exact hG) | (rw [rcS_t zq h199, if_neg (fun z => z.elim h210 (fun z => absurd z (Int32.not_lt.mpr h221)))]; rw [up3_same rfl] at hG; exact hG) | (rw [rcS_f zq h199]; rw [up3_same rfl] at hG; exact hG))⟩) (Nat.le_of_ble_eq_true rfl) (Nat.le_of_ble_eq_true rfl) dX7_result_262
                                              · exact absurd h239 (by decide)
                                            · skip
                                              refine o_aload_n hx hb dX7_result_202 hl rfl ?_
                                              refine g_get hC hG us_X7 rfl 11 (by decide) fl_X7_47 V_model rfl dX7_result_203 ?_
                                              refine o_iload hx hb dX7_result_206 hl rfl ?_
                                              refine g_iald hC hG V_m11 q hkq (by omega) (by omega) dX7_result_208 ?_
                                              refine lv_iconst (v := (-1)) hx hb dX7_result_209 (by decide) ?_
                                              refine lv_icmp_eq (tgt := 224) hx hb dX7_result_210 (by decide) (fun h210 => ?_) (fun h210 => ?_)
                                              · skip
                                                refine lv_iconst (v := 1) hx hb dX7_result_224 (by decide) ?_
                                                refine lv_goto (tgt := 229) hx hb dX7_result_225 (by decide) ?_
                                                refine o_istore hx hb dX7_result_229 hl (by decide) rfl (fun ls hl => ?_)
                                                refine o_aload_n hx hb dX7_result_231 hl rfl ?_
                                                refine g_get hC hG us_X7 rfl 11 (by decide) fl_X7_47 V_model rfl dX7_result_232 ?_
                                                refine o_iload hx hb dX7_result_235 hl rfl ?_
                                                refine o_iload hx hb dX7_result_237 hl rfl ?_
                                                refine lv_if_eq (tgt := 246) hx hb dX7_result_239 (by decide) (fun h239 => ?_) (fun h239 => ?_)
                                                · exact absurd h239 (by decide)
                                                · skip
                                                  refine o_iload_n hx hb dX7_result_242 hl rfl ?_
                                                  refine lv_goto (tgt := 253) hx hb dX7_result_243 (by decide) ?_
                                                  refine g_iast hC hG hS V_m11 q hkq (by omega) (by omega) P_m11 dX7_result_253 (fun H locs hG hS => ?_)
                                                  refine o_aload_n hx hb dX7_result_254 hl rfl ?_
                                                  refine g_get hC hG us_X7 rfl 19 (by decide) fl_X7_73 V_model rfl dX7_result_255 ?_
                                                  refine o_iload_n hx hb dX7_result_258 hl rfl ?_
                                                  refine g_aald hC hG 7 rfl rfl V_o19 _ rfl (by omega) (by omega) dX7_result_259 ?_
                                                  refine o_iload_n hx hb dX7_result_260 hl rfl ?_
                                                  refine g_iald hC hG (V_r19 (by omega)) _ rfl (by omega) (by omega) dX7_result_261 ?_
                                                  exact R_I hC hS hr hlk rfl (Or.inl ⟨(by simp only [cd_result, za1, za2]; exact (cif_t ⟨ix_nI ha1, ix_nI ha2⟩).trans ((cif_t ⟨h57, by first | exact fun z => absurd z hg | exact fun _ => h73⟩).trans (cif_t ⟨h100, h109, h115, fun z => z h130⟩))), (by rw [za1, za2, show vl_result T a1 a2 t g = _ from cif_f (fun z => by first | exact hg z.1 | exact absurd z.2 (Int32.not_lt.mpr h155)), up3_ne (by omega), up3_self]; unfold ftm; rw [zq]), (by rw [za1, za2, show reS T a1 a2 t g = rcS T a1 a2 t from cif_f (fun z => by first | exact hg z.1 | exact absurd z.2 (Int32.not_lt.mpr h155))]; first | (rw [rcS_t zq h199, if_pos (by first | exact Or.inl h210 | exact Or.inr (Int32.not_le.mp h221))]; exact hG) | (rw [rcS_t zq h199, if_neg (fun z => z.elim h210 (fun z => absurd z (Int32.not_lt.mpr h221)))]; rw [up3_same rfl] at hG; exact hG) | (rw [rcS_f zq h199]; rw [up3_same rfl] at hG; exact hG))⟩) (Nat.le_of_ble_eq_true rfl) (Nat.le_of_ble_eq_true rfl) dX7_result_262
                                              · skip
                                                refine o_iload_n hx hb dX7_result_213 hl rfl ?_
                                                refine o_aload_n hx hb dX7_result_214 hl rfl ?_
                                                refine g_get hC hG us_X7 rfl 11 (by decide) fl_X7_47 V_model rfl dX7_result_215 ?_
                                                refine o_iload hx hb dX7_result_218 hl rfl ?_
                                                refine g_iald hC hG V_m11 q hkq (by omega) (by omega) dX7_result_220 ?_
                                                refine lv_icmp_ge (tgt := 228) hx hb dX7_result_221 (by decide) (fun h221 => ?_) (fun h221 => ?_)
                                                · skip
                                                  refine lv_iconst (v := 0) hx hb dX7_result_228 (by decide) ?_
                                                  refine o_istore hx hb dX7_result_229 hl (by decide) rfl (fun ls hl => ?_)
                                                  refine o_aload_n hx hb dX7_result_231 hl rfl ?_
                                                  refine g_get hC hG us_X7 rfl 11 (by decide) fl_X7_47 V_model rfl dX7_result_232 ?_
                                                  refine o_iload hx hb dX7_result_235 hl rfl ?_
                                                  refine o_iload hx hb dX7_result_237 hl rfl ?_
                                                  refine lv_if_eq (tgt := 246) hx hb dX7_result_239 (by decide) (fun h239 => ?_) (fun h239 => ?_)
                                                  · skip
                                                    refine o_aload_n hx hb dX7_result_246 hl rfl ?_
                                                    refine g_get hC hG us_X7 rfl 11 (by decide) fl_X7_47 V_model rfl dX7_result_247 ?_
                                                    refine o_iload hx hb dX7_result_250 hl rfl ?_
                                                    refine g_iald hC hG V_m11 q hkq (by omega) (by omega) dX7_result_252 ?_
                                                    refine g_iast hC hG hS V_m11 q hkq (by omega) (by omega) P_m11 dX7_result_253 (fun H locs hG hS => ?_)
                                                    refine o_aload_n hx hb dX7_result_254 hl rfl ?_
                                                    refine g_get hC hG us_X7 rfl 19 (by decide) fl_X7_73 V_model rfl dX7_result_255 ?_
                                                    refine o_iload_n hx hb dX7_result_258 hl rfl ?_
                                                    refine g_aald hC hG 7 rfl rfl V_o19 _ rfl (by omega) (by omega) dX7_result_259 ?_
                                                    refine o_iload_n hx hb dX7_result_260 hl rfl ?_
                                                    refine g_iald hC hG (V_r19 (by omega)) _ rfl (by omega) (by omega) dX7_result_261 ?_
                                                    exact R_I hC hS hr hlk rfl (Or.inl ⟨(by simp only [cd_result, za1, za2]; exact (cif_t ⟨ix_nI ha1, ix_nI ha2⟩).trans ((cif_t ⟨h57, by first | exact fun z => absurd z hg | exact fun _ => h73⟩).trans (cif_t ⟨h100, h109, h115, fun z => z h130⟩))), (by rw [za1, za2, show vl_result T a1 a2 t g = _ from cif_f (fun z => by first | exact hg z.1 | exact absurd z.2 (Int32.not_lt.mpr h155)), up3_ne (by omega), up3_self]; unfold ftm; rw [zq]), (by rw [za1, za2, show reS T a1 a2 t g = rcS T a1 a2 t from cif_f (fun z => by first | exact hg z.1 | exact absurd z.2 (Int32.not_lt.mpr h155))]; first | (rw [rcS_t zq h199, if_pos (by first | exact Or.inl h210 | exact Or.inr (Int32.not_le.mp h221))]; exact hG) | (rw [rcS_t zq h199, if_neg (fun z => z.elim h210 (fun z => absurd z (Int32.not_lt.mpr h221)))]; rw [up3_same rfl] at hG; exact hG) | (rw [rcS_f zq h199]; rw [up3_same rfl] at hG; exact hG))⟩) (Nat.le_of_ble_eq_true rfl) (Nat.le_of_ble_eq_true rfl) dX7_result_262
                                                  · exact absurd h239 (by decide)
                                                · skip
                                                  refine lv_iconst (v := 1) hx hb dX7_result_224 (by decide) ?_
                                                  refine lv_goto (tgt := 229) hx hb dX7_result_225 (by decide) ?_
                                                  refine o_istore hx hb dX7_result_229 hl (by decide) rfl (fun ls hl => ?_)
                                                  refine o_aload_n hx hb dX7_result_231 hl rfl ?_
                                                  refine g_get hC hG us_X7 rfl 11 (by decide) fl_X7_47 V_model rfl dX7_result_232 ?_
                                                  refine o_iload hx hb dX7_result_235 hl rfl ?_
                                                  refine o_iload hx hb dX7_result_237 hl rfl ?_
                                                  refine lv_if_eq (tgt := 246) hx hb dX7_result_239 (by decide) (fun h239 => ?_) (fun h239 => ?_)
                                                  · exact absurd h239 (by decide)
                                                  · skip
                                                    refine o_iload_n hx hb dX7_result_242 hl rfl ?_
                                                    refine lv_goto (tgt := 253) hx hb dX7_result_243 (by decide) ?_
                                                    refine g_iast hC hG hS V_m11 q hkq (by omega) (by omega) P_m11 dX7_result_253 (fun H locs hG hS => ?_)
                                                    refine o_aload_n hx hb dX7_result_254 hl rfl ?_
                                                    refine g_get hC hG us_X7 rfl 19 (by decide) fl_X7_73 V_model rfl dX7_result_255 ?_
                                                    refine o_iload_n hx hb dX7_result_258 hl rfl ?_
                                                    refine g_aald hC hG 7 rfl rfl V_o19 _ rfl (by omega) (by omega) dX7_result_259 ?_
                                                    refine o_iload_n hx hb dX7_result_260 hl rfl ?_
                                                    refine g_iald hC hG (V_r19 (by omega)) _ rfl (by omega) (by omega) dX7_result_261 ?_
                                                    exact R_I hC hS hr hlk rfl (Or.inl ⟨(by simp only [cd_result, za1, za2]; exact (cif_t ⟨ix_nI ha1, ix_nI ha2⟩).trans ((cif_t ⟨h57, by first | exact fun z => absurd z hg | exact fun _ => h73⟩).trans (cif_t ⟨h100, h109, h115, fun z => z h130⟩))), (by rw [za1, za2, show vl_result T a1 a2 t g = _ from cif_f (fun z => by first | exact hg z.1 | exact absurd z.2 (Int32.not_lt.mpr h155)), up3_ne (by omega), up3_self]; unfold ftm; rw [zq]), (by rw [za1, za2, show reS T a1 a2 t g = rcS T a1 a2 t from cif_f (fun z => by first | exact hg z.1 | exact absurd z.2 (Int32.not_lt.mpr h155))]; first | (rw [rcS_t zq h199, if_pos (by first | exact Or.inl h210 | exact Or.inr (Int32.not_le.mp h221))]; exact hG) | (rw [rcS_t zq h199, if_neg (fun z => z.elim h210 (fun z => absurd z (Int32.not_lt.mpr h221)))]; rw [up3_same rfl] at hG; exact hG) | (rw [rcS_f zq h199]; rw [up3_same rfl] at hG; exact hG))⟩) (Nat.le_of_ble_eq_true rfl) (Nat.le_of_ble_eq_true rfl) dX7_result_262
                                          · skip
                                            refine o_aload_n hx hb dX7_result_158 hl rfl ?_
                                            refine g_get hC hG us_X7 rfl 18 (by decide) fl_X7_70 V_model rfl dX7_result_159 ?_
                                            refine o_iload_n hx hb dX7_result_162 hl rfl ?_
                                            refine g_aald hC hG 8 rfl rfl V_o18 _ rfl (by omega) (by omega) dX7_result_163 ?_
                                            refine o_iload_n hx hb dX7_result_164 hl rfl ?_
                                            refine lv_iconst (v := 1) hx hb dX7_result_165 (by decide) ?_
                                            refine g_zast hC hG hS (V_r18 (by omega)) _ rfl (by omega) (by omega) (Or.inr rfl) (P_r18 (by omega)) dX7_result_166 (fun H locs hG hS => ?_)
                                            refine lv_iconst (v := (-1)) hx hb dX7_result_167 (by decide) ?_
                                            exact R_I hC hS hr hlk rfl (Or.inl ⟨(by simp only [cd_result, za1, za2]; exact (cif_t ⟨ix_nI ha1, ix_nI ha2⟩).trans ((cif_t ⟨h57, by first | exact fun z => absurd z hg | exact fun _ => h73⟩).trans (cif_t ⟨h100, h109, h115, fun z => z h130⟩))), (by rw [za1, za2]; exact (cif_t ⟨hg, Int32.not_le.mp h155⟩).symm), (by rw [za1, za2, show reS T a1 a2 t g = fallS T a1 a2 from cif_t ⟨hg, Int32.not_le.mp h155⟩]; unfold fallS; rw [up3_same (f := up3 T 21 a1 a2 1) (by rw [up3_ne (by omega)]; exact h130)]; exact hG)⟩) (Nat.le_of_ble_eq_true rfl) (Nat.le_of_ble_eq_true rfl) dX7_result_168
                                      · exact absurd h142 (by decide)
                                  · skip
                                    refine lv_iconst (v := 1) hx hb dX7_result_133 (by decide) ?_
                                    refine lv_goto (tgt := 138) hx hb dX7_result_134 (by decide) ?_
                                    refine lv_iconst (v := 3) hx hb dX7_result_138 (by decide) ?_
                                    refine k_X7_isThrown hC hS hG (by first | exact Or.inl rfl | exact Or.inr rfl) ml_X7_94 ⟨Nat.le_of_ble_eq_true rfl, Nat.le_of_ble_eq_true rfl⟩ hl.1 (Nat.le_of_ble_eq_true rfl) dX7_result_139 ⟨Nat.le_of_ble_eq_true rfl, Nat.le_of_ble_eq_true rfl⟩ (fun h139_0 H locs hG hS => ?_) (fun h139_0 H locs hG hS => ?_)
                                    · skip
                                      refine lv_if_eq (tgt := 147) hx hb dX7_result_142 (by decide) (fun h142 => ?_) (fun h142 => ?_)
                                      · exact absurd h142 (by decide)
                                      · skip
                                        refine lv_iconst (v := 0) hx hb dX7_result_145 (by decide) ?_
                                        exact R_I hC hS hr hlk rfl (Or.inr ⟨3, (by simp only [cd_result, za1, za2]; exact (cif_t ⟨ix_nI ha1, ix_nI ha2⟩).trans ((cif_t ⟨h57, by first | exact fun z => absurd z hg | exact fun _ => h73⟩).trans (cif_f (fun z => by first | exact z.1 h100 | exact h109 z.2.1 | exact h115 z.2.2.1 | exact z.2.2.2 h130)))), (by decide), hG⟩) (Nat.le_of_ble_eq_true rfl) (Nat.le_of_ble_eq_true rfl) dX7_result_146
                                    · skip
                                      exact absurd h139_0 (by decide)
                              · skip
                                refine lv_if_eq (tgt := 133) hx hb dX7_result_118 (by decide) (fun h118 => ?_) (fun h118 => ?_)
                                · skip
                                  refine lv_iconst (v := 1) hx hb dX7_result_133 (by decide) ?_
                                  refine lv_goto (tgt := 138) hx hb dX7_result_134 (by decide) ?_
                                  refine lv_iconst (v := 3) hx hb dX7_result_138 (by decide) ?_
                                  refine k_X7_isThrown hC hS hG (by first | exact Or.inl rfl | exact Or.inr rfl) ml_X7_94 ⟨Nat.le_of_ble_eq_true rfl, Nat.le_of_ble_eq_true rfl⟩ hl.1 (Nat.le_of_ble_eq_true rfl) dX7_result_139 ⟨Nat.le_of_ble_eq_true rfl, Nat.le_of_ble_eq_true rfl⟩ (fun h139_0 H locs hG hS => ?_) (fun h139_0 H locs hG hS => ?_)
                                  · skip
                                    refine lv_if_eq (tgt := 147) hx hb dX7_result_142 (by decide) (fun h142 => ?_) (fun h142 => ?_)
                                    · exact absurd h142 (by decide)
                                    · skip
                                      refine lv_iconst (v := 0) hx hb dX7_result_145 (by decide) ?_
                                      exact R_I hC hS hr hlk rfl (Or.inr ⟨3, (by simp only [cd_result, za1, za2]; exact (cif_t ⟨ix_nI ha1, ix_nI ha2⟩).trans ((cif_t ⟨h57, by first | exact fun z => absurd z hg | exact fun _ => h73⟩).trans (cif_f (fun z => by first | exact z.1 h100 | exact h109 z.2.1 | exact h115 z.2.2.1 | exact z.2.2.2 h130)))), (by decide), hG⟩) (Nat.le_of_ble_eq_true rfl) (Nat.le_of_ble_eq_true rfl) dX7_result_146
                                  · skip
                                    exact absurd h139_0 (by decide)
                                · exact absurd h118 (by decide)
                        · exact absurd h88 (by decide)
                    · exact absurd h76 (by decide)
                  · skip
                    refine lv_if_ne (tgt := 83) hx hb dX7_result_76 (by decide) (fun h76 => ?_) (fun h76 => ?_)
                    · exact absurd h76 (by decide)
                    · skip
                      refine lv_iconst (v := 1) hx hb dX7_result_79 (by decide) ?_
                      refine lv_goto (tgt := 84) hx hb dX7_result_80 (by decide) ?_
                      refine lv_iconst (v := 2) hx hb dX7_result_84 (by decide) ?_
                      refine k_X7_isThrown hC hS hG (by first | exact Or.inl rfl | exact Or.inr rfl) ml_X7_94 ⟨Nat.le_of_ble_eq_true rfl, Nat.le_of_ble_eq_true rfl⟩ hl.1 (Nat.le_of_ble_eq_true rfl) dX7_result_85 ⟨Nat.le_of_ble_eq_true rfl, Nat.le_of_ble_eq_true rfl⟩ (fun h85_0 H locs hG hS => ?_) (fun h85_0 H locs hG hS => ?_)
                      · skip
                        refine lv_if_eq (tgt := 93) hx hb dX7_result_88 (by decide) (fun h88 => ?_) (fun h88 => ?_)
                        · exact absurd h88 (by decide)
                        · skip
                          refine lv_iconst (v := 0) hx hb dX7_result_91 (by decide) ?_
                          exact R_I hC hS hr hlk rfl (Or.inr ⟨2, (by simp only [cd_result, za1, za2]; exact (cif_t ⟨ix_nI ha1, ix_nI ha2⟩).trans (cif_f (fun z => by first | exact h57 z.1 | exact h73 (z.2 hg)))), (by decide), hG⟩) (Nat.le_of_ble_eq_true rfl) (Nat.le_of_ble_eq_true rfl) dX7_result_92
                      · skip
                        exact absurd h85_0 (by decide)
            · skip
              refine lv_if_eq (tgt := 79) hx hb dX7_result_60 (by decide) (fun h60 => ?_) (fun h60 => ?_)
              · skip
                refine lv_iconst (v := 1) hx hb dX7_result_79 (by decide) ?_
                refine lv_goto (tgt := 84) hx hb dX7_result_80 (by decide) ?_
                refine lv_iconst (v := 2) hx hb dX7_result_84 (by decide) ?_
                refine k_X7_isThrown hC hS hG (by first | exact Or.inl rfl | exact Or.inr rfl) ml_X7_94 ⟨Nat.le_of_ble_eq_true rfl, Nat.le_of_ble_eq_true rfl⟩ hl.1 (Nat.le_of_ble_eq_true rfl) dX7_result_85 ⟨Nat.le_of_ble_eq_true rfl, Nat.le_of_ble_eq_true rfl⟩ (fun h85_0 H locs hG hS => ?_) (fun h85_0 H locs hG hS => ?_)
                · skip
                  refine lv_if_eq (tgt := 93) hx hb dX7_result_88 (by decide) (fun h88 => ?_) (fun h88 => ?_)
                  · exact absurd h88 (by decide)
                  · skip
                    refine lv_iconst (v := 0) hx hb dX7_result_91 (by decide) ?_
                    exact R_I hC hS hr hlk rfl (Or.inr ⟨2, (by simp only [cd_result, za1, za2]; exact (cif_t ⟨ix_nI ha1, ix_nI ha2⟩).trans (cif_f (fun z => by first | exact h57 z.1 | exact h73 (z.2 hg)))), (by decide), hG⟩) (Nat.le_of_ble_eq_true rfl) (Nat.le_of_ble_eq_true rfl) dX7_result_92
                · skip
                  exact absurd h85_0 (by decide)
              · exact absurd h60 (by decide)
      · exact absurd h11 (by decide)
theorem k_X7_result {p : Program} {l : Launch} {e : Env} {R : Room} {s : State} {m : MethodId} {args : Array Value} {below : List Frame} {meth : Method} {c : Code} {H : Heap} {locs : List Loc} {cells slots : Nat} {Q : State → Prop} {cc : ByteArray} {pc nL : Nat} {ls : Array Slot} {rest : List Value} {own : String} {D : va_G} {cy : Nat → ClassId} {sa : Nat → Nat} {de B : Nat} {ad : Ad} {S : St} {n : Nat → Nat} {T : St} {k : Nat → Nat} {th : Int32} {X : Rl} {x y t g : Int32}  (hC : Cx p m c cc nL s args own D cy sa de B) (hS : va_S (AB B) s.heap H locs) (hG : GW D B ad (Vw cy de ad S n T k th X) H) (h0 : Inv T k)  {idx : Nat} (wl : Cond.methodLink own idx yX7_result ∈ G0) (hR : 3 + 1 ≤ R.frames ∧ 8 + (8 + 11) + 65 ≤ R.locals) (hsz : ls.size = nL) (hst : (rest.map fun v => v.category).sum ≤ 8) (hdg : decode cc pc = .ok (.invokevirtual idx, 3)) (hcs : cells + 0 ≤ R.cells ∧ slots + 0 ≤ R.slots) (k0 : (cd_result T k x y t g = 0) → ∀ (H1 : Heap) (locs1 : List Loc), GW D B ad (Vw cy de ad S n (reS T (ci x) (ci y) t g) (k) 0 X) H1 → va_S (AB B) s.heap H1 locs1 → W p l e R s m args below meth c H1 locs1 cells slots Q (F0 m (pc + 3) ls (.int (vl_result T (ci x) (ci y) t g) :: rest))) (k1 : ∀ (r9 : Int32), ∀ (t9 : Nat), (cd_result T k x y t g = t9) → (¬ t9 = 0) → ∀ (H1 : Heap) (locs1 : List Loc), GW D B ad (Vw cy de ad S n T k (nI t9) X) H1 → va_S (AB B) s.heap H1 locs1 → W p l e R s m args below meth c H1 locs1 cells slots Q (F0 m (pc + 3) ls (.int r9 :: rest))) : W p l e R s m args below meth c H locs cells slots Q (F0 m pc ls (.int g :: .int t :: .int y :: .int x :: .ref (ad 13 0 0) :: rest)) :=
  va_calli (rV hC hS hG h0 (As := [.int x, .int y, .int t, .int g]) (c_X7_result l) ⟨rfl, rfl⟩ wl im_X7_result sl_X7_X7_result in_X7 cd_X7_result (n := 4) (by decide +kernel) hR (recv hC hG (q := (RX7, TX7, 26)) rfl V_model) rfl hsz hst rfl hdg hcs) hS (fun _ _ h => h) (fun _ h => h) (fun r u t H1 locs1 ht _ hr hB _ _ hS1 => by
      subst hr
      have hB9 := hB; try dsimp only at hB9
      rw [ht] at hB9
      rcases hB9 with ⟨q0, rfl, hG1⟩ | ⟨t9, q0, q1, hG1⟩
      · exact k0 q0 _ _ hG1 hS1
      · exact k1 r t9 q0 q1 _ _ hG1 hS1)
set_option maxHeartbeats 4000000 in
set_option maxRecDepth 100000 in
theorem c_X7_fell (l : Launch) {D : va_G} {cy : Nat → ClassId} {sa : Nat → Nat} {de B : Nat} {ad : Ad} {S : St} {n : Nat → Nat} {T : St} {k : Nat → Nat} {th : Int32} {X : Rl} {x y : Int32}  : Met l yX7_fell (Cond.code yX7_fell cX7_fell 3 (Option.some Jvm.ClassFile.FieldType.boolean) :: G0) ({ frames := 4, cells := 0, slots := 0, locals := 87 } : Room) (va_Pc [.ref (ad 13 0 0), .int x, .int y] (PW D cy sa de B ad (Vw cy de ad S n T k th X) (Inv T k))) (oI B (fun r H => (cd_ent T k x y = 0 ∧ r = (T 21 (ci x) (ci y)) ∧ GW D B ad (Vw cy de ad S n (T) (k) 0 X) H) ∨ (∃ (t9 : Nat), cd_ent T k x y = t9 ∧ ¬ t9 = 0 ∧ GW D B ad (Vw cy de ad S n T k (nI t9) X) H))) 0 0 (AB B) := by
  refine E_met (own := RX7) rfl rfl (Nat.le_of_ble_eq_true rfl) ?_
  intro p e s m below meth c hC hr hlk hnm hG h0 ls hl
  have hx := hC.x
  have hb := hC.b
  have hS : va_S (AB B) s.heap s.heap [] := va_S.rf
  have hl : lo ls 3 [some (.ref (ad 13 0 0)), some (.int x), some (.int y)] := lo_of hl
  have hI := h0
  obtain ⟨hCI, hD0, hD1, hD2, hB01, hF30, hK8, hMK, hU1, hU2, hS10, hEO, hCF, hFT, hME, hYR, hEK, hLA⟩ := h0
  obtain ⟨hW, hNE, hCH, hBL⟩ := hCI
  have hW9 := hW
  obtain ⟨hB0, hB1, hB2, hB3, hB4, hB5, hB6, hB7, hKI, hEI, hKY⟩ := hW9
  have hMB : MB k := ⟨hB0, hB1, hB2, hB3⟩
  have hKYm : KYm T k := hKY
  refine o_aload_n hx hb dX7_fell_0 hl rfl ?_
  refine o_iload_n hx hb dX7_fell_1 hl rfl ?_
  refine o_iload_n hx hb dX7_fell_2 hl rfl ?_
  refine k_X7_isNoEntry hC hS hG hMB ml_X7_159 ⟨Nat.le_of_ble_eq_true rfl, Nat.le_of_ble_eq_true rfl⟩ hl.1 (Nat.le_of_ble_eq_true rfl) dX7_fell_3 ⟨Nat.le_of_ble_eq_true rfl, Nat.le_of_ble_eq_true rfl⟩ (fun h3_0 H locs hG hS => ?_) (fun e3 a3 h3_0 h3_1 h3_2 h3_3 h3_4 H locs hG hS => ?_) (fun e3 a3 h3_0 h3_1 h3_2 h3_3 h3_4 H locs hG hS => ?_)
  · skip
    refine lv_if_ne (tgt := 24) hx hb dX7_fell_6 (by decide) (fun h6 => ?_) (fun h6 => ?_)
    · skip
      refine lv_iconst (v := 0) hx hb dX7_fell_24 (by decide) ?_
      exact R_I hC hS hr hlk rfl (by first | exact Or.inr ⟨1, (by simp only [cd_ent]; exact cif_f h3_0), (by decide), hG⟩ | exact Or.inr ⟨2, (by simp only [cd_ent, ze3, za3]; exact (cif_t ⟨ix_nI h3_0, ix_nI h3_2⟩).trans (cif_f (fun z => z h3_4))), (by decide), hG⟩ | exact Or.inl ⟨(by simp only [cd_ent, ze3, za3]; exact (cif_t ⟨ix_nI h3_0, ix_nI h3_2⟩).trans (cif_t h3_4)), (by rw [ze3, za3]; first | exact h17.symm | exact ((hBL e3 a3).resolve_left h17).symm), (by exact hG)⟩) (Nat.le_of_ble_eq_true rfl) (Nat.le_of_ble_eq_true rfl) dX7_fell_25
    · exact absurd h6 (by decide)
  · skip
    subst h3_1
    subst h3_3
    have ze3 : ci (nI e3) = e3 := nI_clamp (by omega)
    have za3 : ci (nI a3) = a3 := nI_clamp (by omega)
    refine lv_if_ne (tgt := 24) hx hb dX7_fell_6 (by decide) (fun h6 => ?_) (fun h6 => ?_)
    · skip
      refine lv_iconst (v := 0) hx hb dX7_fell_24 (by decide) ?_
      exact R_I hC hS hr hlk rfl (by first | exact Or.inr ⟨1, (by simp only [cd_ent]; exact cif_f h3_0), (by decide), hG⟩ | exact Or.inr ⟨2, (by simp only [cd_ent, ze3, za3]; exact (cif_t ⟨ix_nI h3_0, ix_nI h3_2⟩).trans (cif_f (fun z => z h3_4))), (by decide), hG⟩ | exact Or.inl ⟨(by simp only [cd_ent, ze3, za3]; exact (cif_t ⟨ix_nI h3_0, ix_nI h3_2⟩).trans (cif_t h3_4)), (by rw [ze3, za3]; first | exact h17.symm | exact ((hBL e3 a3).resolve_left h17).symm), (by exact hG)⟩) (Nat.le_of_ble_eq_true rfl) (Nat.le_of_ble_eq_true rfl) dX7_fell_25
    · exact absurd h6 (by decide)
  · skip
    subst h3_1
    subst h3_3
    have ze3 : ci (nI e3) = e3 := nI_clamp (by omega)
    have za3 : ci (nI a3) = a3 := nI_clamp (by omega)
    refine lv_if_ne (tgt := 24) hx hb dX7_fell_6 (by decide) (fun h6 => ?_) (fun h6 => ?_)
    · exact absurd h6 (by decide)
    · skip
      refine o_aload_n hx hb dX7_fell_9 hl rfl ?_
      refine g_get hC hG us_X7 rfl 18 (by decide) fl_X7_70 V_model rfl dX7_fell_10 ?_
      refine o_iload_n hx hb dX7_fell_13 hl rfl ?_
      refine g_aald hC hG 8 rfl rfl V_o18 _ rfl (by omega) (by omega) dX7_fell_14 ?_
      refine o_iload_n hx hb dX7_fell_15 hl rfl ?_
      refine g_zald hC hG (V_r18 (by omega)) _ rfl (by omega) (by omega) dX7_fell_16 ?_
      refine lv_if_eq (tgt := 24) hx hb dX7_fell_17 (by decide) (fun h17 => ?_) (fun h17 => ?_)
      · skip
        refine lv_iconst (v := 0) hx hb dX7_fell_24 (by decide) ?_
        exact R_I hC hS hr hlk rfl (by first | exact Or.inr ⟨1, (by simp only [cd_ent]; exact cif_f h3_0), (by decide), hG⟩ | exact Or.inr ⟨2, (by simp only [cd_ent, ze3, za3]; exact (cif_t ⟨ix_nI h3_0, ix_nI h3_2⟩).trans (cif_f (fun z => z h3_4))), (by decide), hG⟩ | exact Or.inl ⟨(by simp only [cd_ent, ze3, za3]; exact (cif_t ⟨ix_nI h3_0, ix_nI h3_2⟩).trans (cif_t h3_4)), (by rw [ze3, za3]; first | exact h17.symm | exact ((hBL e3 a3).resolve_left h17).symm), (by exact hG)⟩) (Nat.le_of_ble_eq_true rfl) (Nat.le_of_ble_eq_true rfl) dX7_fell_25
      · skip
        refine lv_iconst (v := 1) hx hb dX7_fell_20 (by decide) ?_
        refine lv_goto (tgt := 25) hx hb dX7_fell_21 (by decide) ?_
        exact R_I hC hS hr hlk rfl (by first | exact Or.inr ⟨1, (by simp only [cd_ent]; exact cif_f h3_0), (by decide), hG⟩ | exact Or.inr ⟨2, (by simp only [cd_ent, ze3, za3]; exact (cif_t ⟨ix_nI h3_0, ix_nI h3_2⟩).trans (cif_f (fun z => z h3_4))), (by decide), hG⟩ | exact Or.inl ⟨(by simp only [cd_ent, ze3, za3]; exact (cif_t ⟨ix_nI h3_0, ix_nI h3_2⟩).trans (cif_t h3_4)), (by rw [ze3, za3]; first | exact h17.symm | exact ((hBL e3 a3).resolve_left h17).symm), (by exact hG)⟩) (Nat.le_of_ble_eq_true rfl) (Nat.le_of_ble_eq_true rfl) dX7_fell_25
theorem k_X7_fell {p : Program} {l : Launch} {e : Env} {R : Room} {s : State} {m : MethodId} {args : Array Value} {below : List Frame} {meth : Method} {c : Code} {H : Heap} {locs : List Loc} {cells slots : Nat} {Q : State → Prop} {cc : ByteArray} {pc nL : Nat} {ls : Array Slot} {rest : List Value} {own : String} {D : va_G} {cy : Nat → ClassId} {sa : Nat → Nat} {de B : Nat} {ad : Ad} {S : St} {n : Nat → Nat} {T : St} {k : Nat → Nat} {th : Int32} {X : Rl} {x y : Int32}  (hC : Cx p m c cc nL s args own D cy sa de B) (hS : va_S (AB B) s.heap H locs) (hG : GW D B ad (Vw cy de ad S n T k th X) H) (h0 : Inv T k)  {idx : Nat} (wl : Cond.methodLink own idx yX7_fell ∈ G0) (hR : 4 + 1 ≤ R.frames ∧ 8 + (3 + 11) + 87 ≤ R.locals) (hsz : ls.size = nL) (hst : (rest.map fun v => v.category).sum ≤ 8) (hdg : decode cc pc = .ok (.invokevirtual idx, 3)) (hcs : cells + 0 ≤ R.cells ∧ slots + 0 ≤ R.slots) (k0 : (cd_ent T k x y = 0) → ∀ (H1 : Heap) (locs1 : List Loc), GW D B ad (Vw cy de ad S n (T) (k) 0 X) H1 → va_S (AB B) s.heap H1 locs1 → W p l e R s m args below meth c H1 locs1 cells slots Q (F0 m (pc + 3) ls (.int (T 21 (ci x) (ci y)) :: rest))) (k1 : ∀ (r9 : Int32), ∀ (t9 : Nat), (cd_ent T k x y = t9) → (¬ t9 = 0) → ∀ (H1 : Heap) (locs1 : List Loc), GW D B ad (Vw cy de ad S n T k (nI t9) X) H1 → va_S (AB B) s.heap H1 locs1 → W p l e R s m args below meth c H1 locs1 cells slots Q (F0 m (pc + 3) ls (.int r9 :: rest))) : W p l e R s m args below meth c H locs cells slots Q (F0 m pc ls (.int y :: .int x :: .ref (ad 13 0 0) :: rest)) :=
  va_calli (rV hC hS hG h0 (As := [.int x, .int y]) (c_X7_fell l) ⟨rfl, rfl⟩ wl im_X7_fell sl_X7_X7_fell in_X7 cd_X7_fell (n := 2) (by decide +kernel) hR (recv hC hG (q := (RX7, TX7, 26)) rfl V_model) rfl hsz hst rfl hdg hcs) hS (fun _ _ h => h) (fun _ h => h) (fun r u t H1 locs1 ht _ hr hB _ _ hS1 => by
      subst hr
      have hB9 := hB; try dsimp only at hB9
      rw [ht] at hB9
      rcases hB9 with ⟨q0, rfl, hG1⟩ | ⟨t9, q0, q1, hG1⟩
      · exact k0 q0 _ _ hG1 hS1
      · exact k1 r t9 q0 q1 _ _ hG1 hS1)
set_option maxHeartbeats 4000000 in
set_option maxRecDepth 100000 in
theorem c_X7_inClass (l : Launch) {D : va_G} {cy : Nat → ClassId} {sa : Nat → Nat} {de B : Nat} {ad : Ad} {S : St} {n : Nat → Nat} {T : St} {k : Nat → Nat} {th : Int32} {X : Rl} {x y : Int32}  : Met l yX7_inClass (Cond.code yX7_inClass cX7_inClass 3 (Option.some Jvm.ClassFile.FieldType.int) :: G0) ({ frames := 4, cells := 0, slots := 0, locals := 87 } : Room) (va_Pc [.ref (ad 13 0 0), .int x, .int y] (PW D cy sa de B ad (Vw cy de ad S n T k th X) (Inv T k))) (oI B (fun r H => (cd_ent T k x y = 0 ∧ r = (T 20 (ci x) (ci y)) ∧ GW D B ad (Vw cy de ad S n (T) (k) 0 X) H) ∨ (∃ (t9 : Nat), cd_ent T k x y = t9 ∧ ¬ t9 = 0 ∧ GW D B ad (Vw cy de ad S n T k (nI t9) X) H))) 0 0 (AB B) := by
  refine E_met (own := RX7) rfl rfl (Nat.le_of_ble_eq_true rfl) ?_
  intro p e s m below meth c hC hr hlk hnm hG h0 ls hl
  have hx := hC.x
  have hb := hC.b
  have hS : va_S (AB B) s.heap s.heap [] := va_S.rf
  have hl : lo ls 3 [some (.ref (ad 13 0 0)), some (.int x), some (.int y)] := lo_of hl
  have hI := h0
  obtain ⟨hCI, hD0, hD1, hD2, hB01, hF30, hK8, hMK, hU1, hU2, hS10, hEO, hCF, hFT, hME, hYR, hEK, hLA⟩ := h0
  obtain ⟨hW, hNE, hCH, hBL⟩ := hCI
  have hW9 := hW
  obtain ⟨hB0, hB1, hB2, hB3, hB4, hB5, hB6, hB7, hKI, hEI, hKY⟩ := hW9
  have hMB : MB k := ⟨hB0, hB1, hB2, hB3⟩
  have hKYm : KYm T k := hKY
  refine o_aload_n hx hb dX7_inClass_0 hl rfl ?_
  refine o_iload_n hx hb dX7_inClass_1 hl rfl ?_
  refine o_iload_n hx hb dX7_inClass_2 hl rfl ?_
  refine k_X7_isNoEntry hC hS hG hMB ml_X7_159 ⟨Nat.le_of_ble_eq_true rfl, Nat.le_of_ble_eq_true rfl⟩ hl.1 (Nat.le_of_ble_eq_true rfl) dX7_inClass_3 ⟨Nat.le_of_ble_eq_true rfl, Nat.le_of_ble_eq_true rfl⟩ (fun h3_0 H locs hG hS => ?_) (fun e3 a3 h3_0 h3_1 h3_2 h3_3 h3_4 H locs hG hS => ?_) (fun e3 a3 h3_0 h3_1 h3_2 h3_3 h3_4 H locs hG hS => ?_)
  · skip
    refine lv_if_eq (tgt := 13) hx hb dX7_inClass_6 (by decide) (fun h6 => ?_) (fun h6 => ?_)
    · exact absurd h6 (by decide)
    · skip
      refine lv_iconst (v := 0) hx hb dX7_inClass_9 (by decide) ?_
      refine lv_goto (tgt := 21) hx hb dX7_inClass_10 (by decide) ?_
      exact R_I hC hS hr hlk rfl (by first | exact Or.inr ⟨1, (by simp only [cd_ent]; exact cif_f h3_0), (by decide), hG⟩ | exact Or.inr ⟨2, (by simp only [cd_ent, ze3, za3]; exact (cif_t ⟨ix_nI h3_0, ix_nI h3_2⟩).trans (cif_f (fun z => z h3_4))), (by decide), hG⟩ | exact Or.inl ⟨(by simp only [cd_ent, ze3, za3]; exact (cif_t ⟨ix_nI h3_0, ix_nI h3_2⟩).trans (cif_t h3_4)), (by rw [ze3, za3]), (by exact hG)⟩) (Nat.le_of_ble_eq_true rfl) (Nat.le_of_ble_eq_true rfl) dX7_inClass_21
  · skip
    subst h3_1
    subst h3_3
    have ze3 : ci (nI e3) = e3 := nI_clamp (by omega)
    have za3 : ci (nI a3) = a3 := nI_clamp (by omega)
    refine lv_if_eq (tgt := 13) hx hb dX7_inClass_6 (by decide) (fun h6 => ?_) (fun h6 => ?_)
    · exact absurd h6 (by decide)
    · skip
      refine lv_iconst (v := 0) hx hb dX7_inClass_9 (by decide) ?_
      refine lv_goto (tgt := 21) hx hb dX7_inClass_10 (by decide) ?_
      exact R_I hC hS hr hlk rfl (by first | exact Or.inr ⟨1, (by simp only [cd_ent]; exact cif_f h3_0), (by decide), hG⟩ | exact Or.inr ⟨2, (by simp only [cd_ent, ze3, za3]; exact (cif_t ⟨ix_nI h3_0, ix_nI h3_2⟩).trans (cif_f (fun z => z h3_4))), (by decide), hG⟩ | exact Or.inl ⟨(by simp only [cd_ent, ze3, za3]; exact (cif_t ⟨ix_nI h3_0, ix_nI h3_2⟩).trans (cif_t h3_4)), (by rw [ze3, za3]), (by exact hG)⟩) (Nat.le_of_ble_eq_true rfl) (Nat.le_of_ble_eq_true rfl) dX7_inClass_21
  · skip
    subst h3_1
    subst h3_3
    have ze3 : ci (nI e3) = e3 := nI_clamp (by omega)
    have za3 : ci (nI a3) = a3 := nI_clamp (by omega)
    refine lv_if_eq (tgt := 13) hx hb dX7_inClass_6 (by decide) (fun h6 => ?_) (fun h6 => ?_)
    · skip
      refine o_aload_n hx hb dX7_inClass_13 hl rfl ?_
      refine g_get hC hG us_X7 rfl 17 (by decide) fl_X7_65 V_model rfl dX7_inClass_14 ?_
      refine o_iload_n hx hb dX7_inClass_17 hl rfl ?_
      refine g_aald hC hG 7 rfl rfl V_o17 _ rfl (by omega) (by omega) dX7_inClass_18 ?_
      refine o_iload_n hx hb dX7_inClass_19 hl rfl ?_
      refine g_iald hC hG (V_r17 (by omega)) _ rfl (by omega) (by omega) dX7_inClass_20 ?_
      exact R_I hC hS hr hlk rfl (by first | exact Or.inr ⟨1, (by simp only [cd_ent]; exact cif_f h3_0), (by decide), hG⟩ | exact Or.inr ⟨2, (by simp only [cd_ent, ze3, za3]; exact (cif_t ⟨ix_nI h3_0, ix_nI h3_2⟩).trans (cif_f (fun z => z h3_4))), (by decide), hG⟩ | exact Or.inl ⟨(by simp only [cd_ent, ze3, za3]; exact (cif_t ⟨ix_nI h3_0, ix_nI h3_2⟩).trans (cif_t h3_4)), (by rw [ze3, za3]), (by exact hG)⟩) (Nat.le_of_ble_eq_true rfl) (Nat.le_of_ble_eq_true rfl) dX7_inClass_21
    · exact absurd h6 (by decide)
theorem k_X7_inClass {p : Program} {l : Launch} {e : Env} {R : Room} {s : State} {m : MethodId} {args : Array Value} {below : List Frame} {meth : Method} {c : Code} {H : Heap} {locs : List Loc} {cells slots : Nat} {Q : State → Prop} {cc : ByteArray} {pc nL : Nat} {ls : Array Slot} {rest : List Value} {own : String} {D : va_G} {cy : Nat → ClassId} {sa : Nat → Nat} {de B : Nat} {ad : Ad} {S : St} {n : Nat → Nat} {T : St} {k : Nat → Nat} {th : Int32} {X : Rl} {x y : Int32}  (hC : Cx p m c cc nL s args own D cy sa de B) (hS : va_S (AB B) s.heap H locs) (hG : GW D B ad (Vw cy de ad S n T k th X) H) (h0 : Inv T k)  {idx : Nat} (wl : Cond.methodLink own idx yX7_inClass ∈ G0) (hR : 4 + 1 ≤ R.frames ∧ 8 + (3 + 11) + 87 ≤ R.locals) (hsz : ls.size = nL) (hst : (rest.map fun v => v.category).sum ≤ 8) (hdg : decode cc pc = .ok (.invokevirtual idx, 3)) (hcs : cells + 0 ≤ R.cells ∧ slots + 0 ≤ R.slots) (k0 : (cd_ent T k x y = 0) → ∀ (H1 : Heap) (locs1 : List Loc), GW D B ad (Vw cy de ad S n (T) (k) 0 X) H1 → va_S (AB B) s.heap H1 locs1 → W p l e R s m args below meth c H1 locs1 cells slots Q (F0 m (pc + 3) ls (.int (T 20 (ci x) (ci y)) :: rest))) (k1 : ∀ (r9 : Int32), ∀ (t9 : Nat), (cd_ent T k x y = t9) → (¬ t9 = 0) → ∀ (H1 : Heap) (locs1 : List Loc), GW D B ad (Vw cy de ad S n T k (nI t9) X) H1 → va_S (AB B) s.heap H1 locs1 → W p l e R s m args below meth c H1 locs1 cells slots Q (F0 m (pc + 3) ls (.int r9 :: rest))) : W p l e R s m args below meth c H locs cells slots Q (F0 m pc ls (.int y :: .int x :: .ref (ad 13 0 0) :: rest)) :=
  va_calli (rV hC hS hG h0 (As := [.int x, .int y]) (c_X7_inClass l) ⟨rfl, rfl⟩ wl im_X7_inClass sl_X7_X7_inClass in_X7 cd_X7_inClass (n := 2) (by decide +kernel) hR (recv hC hG (q := (RX7, TX7, 26)) rfl V_model) rfl hsz hst rfl hdg hcs) hS (fun _ _ h => h) (fun _ h => h) (fun r u t H1 locs1 ht _ hr hB _ _ hS1 => by
      subst hr
      have hB9 := hB; try dsimp only at hB9
      rw [ht] at hB9
      rcases hB9 with ⟨q0, rfl, hG1⟩ | ⟨t9, q0, q1, hG1⟩
      · exact k0 q0 _ _ hG1 hS1
      · exact k1 r t9 q0 q1 _ _ hG1 hS1)
set_option maxHeartbeats 4000000 in
set_option maxRecDepth 100000 in
theorem c_X7_time (l : Launch) {D : va_G} {cy : Nat → ClassId} {sa : Nat → Nat} {de B : Nat} {ad : Ad} {S : St} {n : Nat → Nat} {T : St} {k : Nat → Nat} {th : Int32} {X : Rl} {x y : Int32}  : Met l yX7_time (Cond.code yX7_time cX7_time 3 (Option.some Jvm.ClassFile.FieldType.int) :: G0) ({ frames := 4, cells := 0, slots := 0, locals := 87 } : Room) (va_Pc [.ref (ad 13 0 0), .int x, .int y] (PW D cy sa de B ad (Vw cy de ad S n T k th X) (Inv T k))) (oI B (fun r H => (cd_time T k x y = 0 ∧ r = (T 22 (ci x) (ci y)) ∧ GW D B ad (Vw cy de ad S n (T) (k) 0 X) H) ∨ (∃ (t9 : Nat), cd_time T k x y = t9 ∧ ¬ t9 = 0 ∧ GW D B ad (Vw cy de ad S n T k (nI t9) X) H))) 0 0 (AB B) := by
  refine E_met (own := RX7) rfl rfl (Nat.le_of_ble_eq_true rfl) ?_
  intro p e s m below meth c hC hr hlk hnm hG h0 ls hl
  have hx := hC.x
  have hb := hC.b
  have hS : va_S (AB B) s.heap s.heap [] := va_S.rf
  have hl : lo ls 3 [some (.ref (ad 13 0 0)), some (.int x), some (.int y)] := lo_of hl
  have hI := h0
  obtain ⟨hCI, hD0, hD1, hD2, hB01, hF30, hK8, hMK, hU1, hU2, hS10, hEO, hCF, hFT, hME, hYR, hEK, hLA⟩ := h0
  obtain ⟨hW, hNE, hCH, hBL⟩ := hCI
  have hW9 := hW
  obtain ⟨hB0, hB1, hB2, hB3, hB4, hB5, hB6, hB7, hKI, hEI, hKY⟩ := hW9
  have hMB : MB k := ⟨hB0, hB1, hB2, hB3⟩
  have hKYm : KYm T k := hKY
  refine o_aload_n hx hb dX7_time_0 hl rfl ?_
  refine o_iload_n hx hb dX7_time_1 hl rfl ?_
  refine o_iload_n hx hb dX7_time_2 hl rfl ?_
  refine k_X7_isNoEntry hC hS hG hMB ml_X7_159 ⟨Nat.le_of_ble_eq_true rfl, Nat.le_of_ble_eq_true rfl⟩ hl.1 (Nat.le_of_ble_eq_true rfl) dX7_time_3 ⟨Nat.le_of_ble_eq_true rfl, Nat.le_of_ble_eq_true rfl⟩ (fun h3_0 H locs hG hS => ?_) (fun e3 a3 h3_0 h3_1 h3_2 h3_3 h3_4 H locs hG hS => ?_) (fun e3 a3 h3_0 h3_1 h3_2 h3_3 h3_4 H locs hG hS => ?_)
  · skip
    refine lv_if_ne (tgt := 34) hx hb dX7_time_6 (by decide) (fun h6 => ?_) (fun h6 => ?_)
    · skip
      refine lv_iconst (v := 0) hx hb dX7_time_34 (by decide) ?_
      refine lv_goto (tgt := 46) hx hb dX7_time_35 (by decide) ?_
      exact R_I hC hS hr hlk rfl (by first | exact Or.inr ⟨1, (by simp only [cd_time]; exact cif_f h3_0), (by decide), hG⟩ | exact Or.inr ⟨2, (by simp only [cd_time, ze3, za3]; exact (cif_t ⟨ix_nI h3_0, ix_nI h3_2⟩).trans (cif_f (fun z => z h19))), (by decide), hG⟩ | exact Or.inr ⟨2, (by simp only [cd_time, ze3, za3]; exact (cif_t ⟨ix_nI h3_0, ix_nI h3_2⟩).trans (cif_f (fun z => z (hNE _ _ h3_4).1))), (by decide), hG⟩ | exact Or.inl ⟨(by simp only [cd_time, ze3, za3]; exact (cif_t ⟨ix_nI h3_0, ix_nI h3_2⟩).trans (cif_t h19)), (by rw [ze3, za3]), (by exact hG)⟩) (Nat.le_of_ble_eq_true rfl) (Nat.le_of_ble_eq_true rfl) dX7_time_46
    · exact absurd h6 (by decide)
  · skip
    subst h3_1
    subst h3_3
    have ze3 : ci (nI e3) = e3 := nI_clamp (by omega)
    have za3 : ci (nI a3) = a3 := nI_clamp (by omega)
    refine lv_if_ne (tgt := 34) hx hb dX7_time_6 (by decide) (fun h6 => ?_) (fun h6 => ?_)
    · skip
      refine lv_iconst (v := 0) hx hb dX7_time_34 (by decide) ?_
      refine lv_goto (tgt := 46) hx hb dX7_time_35 (by decide) ?_
      exact R_I hC hS hr hlk rfl (by first | exact Or.inr ⟨1, (by simp only [cd_time]; exact cif_f h3_0), (by decide), hG⟩ | exact Or.inr ⟨2, (by simp only [cd_time, ze3, za3]; exact (cif_t ⟨ix_nI h3_0, ix_nI h3_2⟩).trans (cif_f (fun z => z h19))), (by decide), hG⟩ | exact Or.inr ⟨2, (by simp only [cd_time, ze3, za3]; exact (cif_t ⟨ix_nI h3_0, ix_nI h3_2⟩).trans (cif_f (fun z => z (hNE _ _ h3_4).1))), (by decide), hG⟩ | exact Or.inl ⟨(by simp only [cd_time, ze3, za3]; exact (cif_t ⟨ix_nI h3_0, ix_nI h3_2⟩).trans (cif_t h19)), (by rw [ze3, za3]), (by exact hG)⟩) (Nat.le_of_ble_eq_true rfl) (Nat.le_of_ble_eq_true rfl) dX7_time_46
    · exact absurd h6 (by decide)
  · skip
    subst h3_1
    subst h3_3
    have ze3 : ci (nI e3) = e3 := nI_clamp (by omega)
    have za3 : ci (nI a3) = a3 := nI_clamp (by omega)
    refine lv_if_ne (tgt := 34) hx hb dX7_time_6 (by decide) (fun h6 => ?_) (fun h6 => ?_)
    · exact absurd h6 (by decide)
    · skip
      refine o_aload_n hx hb dX7_time_9 hl rfl ?_
      refine o_aload_n hx hb dX7_time_10 hl rfl ?_
      refine g_get hC hG us_X7 rfl 19 (by decide) fl_X7_73 V_model rfl dX7_time_11 ?_
      refine o_iload_n hx hb dX7_time_14 hl rfl ?_
      refine g_aald hC hG 7 rfl rfl V_o19 _ rfl (by omega) (by omega) dX7_time_15 ?_
      refine o_iload_n hx hb dX7_time_16 hl rfl ?_
      refine g_iald hC hG (V_r19 (by omega)) _ rfl (by omega) (by omega) dX7_time_17 ?_
      refine lv_iconst (v := (-1)) hx hb dX7_time_18 (by decide) ?_
      refine lv_icmp_ne (tgt := 26) hx hb dX7_time_19 (by decide) (fun h19 => ?_) (fun h19 => ?_)
      · skip
        refine lv_iconst (v := 0) hx hb dX7_time_26 (by decide) ?_
        refine lv_iconst (v := 2) hx hb dX7_time_27 (by decide) ?_
        refine k_X7_isThrown hC hS hG (by first | exact Or.inl rfl | exact Or.inr rfl) ml_X7_94 ⟨Nat.le_of_ble_eq_true rfl, Nat.le_of_ble_eq_true rfl⟩ hl.1 (Nat.le_of_ble_eq_true rfl) dX7_time_28 ⟨Nat.le_of_ble_eq_true rfl, Nat.le_of_ble_eq_true rfl⟩ (fun h28_0 H locs hG hS => ?_) (fun h28_0 H locs hG hS => ?_)
        · skip
          exact absurd h28_0 (by decide)
        · skip
          refine lv_if_eq (tgt := 38) hx hb dX7_time_31 (by decide) (fun h31 => ?_) (fun h31 => ?_)
          · skip
            refine o_aload_n hx hb dX7_time_38 hl rfl ?_
            refine g_get hC hG us_X7 rfl 19 (by decide) fl_X7_73 V_model rfl dX7_time_39 ?_
            refine o_iload_n hx hb dX7_time_42 hl rfl ?_
            refine g_aald hC hG 7 rfl rfl V_o19 _ rfl (by omega) (by omega) dX7_time_43 ?_
            refine o_iload_n hx hb dX7_time_44 hl rfl ?_
            refine g_iald hC hG (V_r19 (by omega)) _ rfl (by omega) (by omega) dX7_time_45 ?_
            exact R_I hC hS hr hlk rfl (by first | exact Or.inr ⟨1, (by simp only [cd_time]; exact cif_f h3_0), (by decide), hG⟩ | exact Or.inr ⟨2, (by simp only [cd_time, ze3, za3]; exact (cif_t ⟨ix_nI h3_0, ix_nI h3_2⟩).trans (cif_f (fun z => z h19))), (by decide), hG⟩ | exact Or.inr ⟨2, (by simp only [cd_time, ze3, za3]; exact (cif_t ⟨ix_nI h3_0, ix_nI h3_2⟩).trans (cif_f (fun z => z (hNE _ _ h3_4).1))), (by decide), hG⟩ | exact Or.inl ⟨(by simp only [cd_time, ze3, za3]; exact (cif_t ⟨ix_nI h3_0, ix_nI h3_2⟩).trans (cif_t h19)), (by rw [ze3, za3]), (by exact hG)⟩) (Nat.le_of_ble_eq_true rfl) (Nat.le_of_ble_eq_true rfl) dX7_time_46
          · exact absurd h31 (by decide)
      · skip
        refine lv_iconst (v := 1) hx hb dX7_time_22 (by decide) ?_
        refine lv_goto (tgt := 27) hx hb dX7_time_23 (by decide) ?_
        refine lv_iconst (v := 2) hx hb dX7_time_27 (by decide) ?_
        refine k_X7_isThrown hC hS hG (by first | exact Or.inl rfl | exact Or.inr rfl) ml_X7_94 ⟨Nat.le_of_ble_eq_true rfl, Nat.le_of_ble_eq_true rfl⟩ hl.1 (Nat.le_of_ble_eq_true rfl) dX7_time_28 ⟨Nat.le_of_ble_eq_true rfl, Nat.le_of_ble_eq_true rfl⟩ (fun h28_0 H locs hG hS => ?_) (fun h28_0 H locs hG hS => ?_)
        · skip
          refine lv_if_eq (tgt := 38) hx hb dX7_time_31 (by decide) (fun h31 => ?_) (fun h31 => ?_)
          · exact absurd h31 (by decide)
          · skip
            refine lv_iconst (v := 0) hx hb dX7_time_34 (by decide) ?_
            refine lv_goto (tgt := 46) hx hb dX7_time_35 (by decide) ?_
            exact R_I hC hS hr hlk rfl (by first | exact Or.inr ⟨1, (by simp only [cd_time]; exact cif_f h3_0), (by decide), hG⟩ | exact Or.inr ⟨2, (by simp only [cd_time, ze3, za3]; exact (cif_t ⟨ix_nI h3_0, ix_nI h3_2⟩).trans (cif_f (fun z => z h19))), (by decide), hG⟩ | exact Or.inr ⟨2, (by simp only [cd_time, ze3, za3]; exact (cif_t ⟨ix_nI h3_0, ix_nI h3_2⟩).trans (cif_f (fun z => z (hNE _ _ h3_4).1))), (by decide), hG⟩ | exact Or.inl ⟨(by simp only [cd_time, ze3, za3]; exact (cif_t ⟨ix_nI h3_0, ix_nI h3_2⟩).trans (cif_t h19)), (by rw [ze3, za3]), (by exact hG)⟩) (Nat.le_of_ble_eq_true rfl) (Nat.le_of_ble_eq_true rfl) dX7_time_46
        · skip
          exact absurd h28_0 (by decide)
theorem k_X7_time {p : Program} {l : Launch} {e : Env} {R : Room} {s : State} {m : MethodId} {args : Array Value} {below : List Frame} {meth : Method} {c : Code} {H : Heap} {locs : List Loc} {cells slots : Nat} {Q : State → Prop} {cc : ByteArray} {pc nL : Nat} {ls : Array Slot} {rest : List Value} {own : String} {D : va_G} {cy : Nat → ClassId} {sa : Nat → Nat} {de B : Nat} {ad : Ad} {S : St} {n : Nat → Nat} {T : St} {k : Nat → Nat} {th : Int32} {X : Rl} {x y : Int32}  (hC : Cx p m c cc nL s args own D cy sa de B) (hS : va_S (AB B) s.heap H locs) (hG : GW D B ad (Vw cy de ad S n T k th X) H) (h0 : Inv T k)  {idx : Nat} (wl : Cond.methodLink own idx yX7_time ∈ G0) (hR : 4 + 1 ≤ R.frames ∧ 8 + (3 + 11) + 87 ≤ R.locals) (hsz : ls.size = nL) (hst : (rest.map fun v => v.category).sum ≤ 8) (hdg : decode cc pc = .ok (.invokevirtual idx, 3)) (hcs : cells + 0 ≤ R.cells ∧ slots + 0 ≤ R.slots) (k0 : (cd_time T k x y = 0) → ∀ (H1 : Heap) (locs1 : List Loc), GW D B ad (Vw cy de ad S n (T) (k) 0 X) H1 → va_S (AB B) s.heap H1 locs1 → W p l e R s m args below meth c H1 locs1 cells slots Q (F0 m (pc + 3) ls (.int (T 22 (ci x) (ci y)) :: rest))) (k1 : ∀ (r9 : Int32), ∀ (t9 : Nat), (cd_time T k x y = t9) → (¬ t9 = 0) → ∀ (H1 : Heap) (locs1 : List Loc), GW D B ad (Vw cy de ad S n T k (nI t9) X) H1 → va_S (AB B) s.heap H1 locs1 → W p l e R s m args below meth c H1 locs1 cells slots Q (F0 m (pc + 3) ls (.int r9 :: rest))) : W p l e R s m args below meth c H locs cells slots Q (F0 m pc ls (.int y :: .int x :: .ref (ad 13 0 0) :: rest)) :=
  va_calli (rV hC hS hG h0 (As := [.int x, .int y]) (c_X7_time l) ⟨rfl, rfl⟩ wl im_X7_time sl_X7_X7_time in_X7 cd_X7_time (n := 2) (by decide +kernel) hR (recv hC hG (q := (RX7, TX7, 26)) rfl V_model) rfl hsz hst rfl hdg hcs) hS (fun _ _ h => h) (fun _ h => h) (fun r u t H1 locs1 ht _ hr hB _ _ hS1 => by
      subst hr
      have hB9 := hB; try dsimp only at hB9
      rw [ht] at hB9
      rcases hB9 with ⟨q0, rfl, hG1⟩ | ⟨t9, q0, q1, hG1⟩
      · exact k0 q0 _ _ hG1 hS1
      · exact k1 r t9 q0 q1 _ _ hG1 hS1)
set_option maxHeartbeats 4000000 in
set_option maxRecDepth 100000 in
theorem c_X7_place (l : Launch) {D : va_G} {cy : Nat → ClassId} {sa : Nat → Nat} {de B : Nat} {ad : Ad} {S : St} {n : Nat → Nat} {T : St} {k : Nat → Nat} {th : Int32} {X : Rl} {x y : Int32}  : Met l yX7_place (Cond.code yX7_place cX7_place 3 (Option.some Jvm.ClassFile.FieldType.int) :: G0) ({ frames := 4, cells := 0, slots := 0, locals := 87 } : Room) (va_Pc [.ref (ad 13 0 0), .int x, .int y] (PW D cy sa de B ad (Vw cy de ad S n T k th X) (Inv T k))) (oI B (fun r H => (cd_time T k x y = 0 ∧ r = (cnt (fasP T (ci x) (ci y)) 16 + 1) ∧ GW D B ad (Vw cy de ad S n (T) (k) 0 X) H) ∨ (∃ (t9 : Nat), cd_time T k x y = t9 ∧ ¬ t9 = 0 ∧ GW D B ad (Vw cy de ad S n T k (nI t9) X) H))) 0 0 (AB B) := by
  refine E_met (own := RX7) rfl rfl (Nat.le_of_ble_eq_true rfl) ?_
  intro p e s m below meth c hC hr hlk hnm hG h0 ls hl
  have hx := hC.x
  have hb := hC.b
  have hS : va_S (AB B) s.heap s.heap [] := va_S.rf
  have hl : lo ls 3 [some (.ref (ad 13 0 0)), some (.int x), some (.int y)] := lo_of hl
  have hI := h0
  obtain ⟨hCI, hD0, hD1, hD2, hB01, hF30, hK8, hMK, hU1, hU2, hS10, hEO, hCF, hFT, hME, hYR, hEK, hLA⟩ := h0
  obtain ⟨hW, hNE, hCH, hBL⟩ := hCI
  have hW9 := hW
  obtain ⟨hB0, hB1, hB2, hB3, hB4, hB5, hB6, hB7, hKI, hEI, hKY⟩ := hW9
  have hMB : MB k := ⟨hB0, hB1, hB2, hB3⟩
  have hKYm : KYm T k := hKY
  refine o_aload_n hx hb dX7_place_0 hl rfl ?_
  refine o_iload_n hx hb dX7_place_1 hl rfl ?_
  refine o_iload_n hx hb dX7_place_2 hl rfl ?_
  refine k_X7_isNoEntry hC hS hG hMB ml_X7_159 ⟨Nat.le_of_ble_eq_true rfl, Nat.le_of_ble_eq_true rfl⟩ hl.1 (Nat.le_of_ble_eq_true rfl) dX7_place_3 ⟨Nat.le_of_ble_eq_true rfl, Nat.le_of_ble_eq_true rfl⟩ (fun h3_0 H locs hG hS => ?_) (fun e3 a3 h3_0 h3_1 h3_2 h3_3 h3_4 H locs hG hS => ?_) (fun e3 a3 h3_0 h3_1 h3_2 h3_3 h3_4 H locs hG hS => ?_)
  · skip
    refine lv_if_ne (tgt := 34) hx hb dX7_place_6 (by decide) (fun h6 => ?_) (fun h6 => ?_)
    · skip
      refine lv_iconst (v := 0) hx hb dX7_place_34 (by decide) ?_
      refine lv_goto (tgt := 47) hx hb dX7_place_35 (by decide) ?_
      exact R_I hC hS hr hlk rfl (by first | exact Or.inr ⟨1, (by simp only [cd_time]; exact cif_f h3_0), (by decide), hG⟩ | exact Or.inr ⟨2, (by simp only [cd_time, ze3, za3]; exact (cif_t ⟨ix_nI h3_0, ix_nI h3_2⟩).trans (cif_f (fun z => z h19))), (by decide), hG⟩ | exact Or.inr ⟨2, (by simp only [cd_time, ze3, za3]; exact (cif_t ⟨ix_nI h3_0, ix_nI h3_2⟩).trans (cif_f (fun z => z (hNE _ _ h3_4).1))), (by decide), hG⟩ | exact Or.inl ⟨(by simp only [cd_time, ze3, za3]; exact (cif_t ⟨ix_nI h3_0, ix_nI h3_2⟩).trans (cif_t h19)), (by rw [ze3, za3, fas_ao hW hNE]; exact Int32.add_comm _ _), (by exact hG)⟩) (Nat.le_of_ble_eq_true rfl) (Nat.le_of_ble_eq_true rfl) dX7_place_47
    · exact absurd h6 (by decide)
  · skip
    subst h3_1
    subst h3_3
    have ze3 : ci (nI e3) = e3 := nI_clamp (by omega)
    have za3 : ci (nI a3) = a3 := nI_clamp (by omega)
    refine lv_if_ne (tgt := 34) hx hb dX7_place_6 (by decide) (fun h6 => ?_) (fun h6 => ?_)
    · skip
      refine lv_iconst (v := 0) hx hb dX7_place_34 (by decide) ?_
      refine lv_goto (tgt := 47) hx hb dX7_place_35 (by decide) ?_
      exact R_I hC hS hr hlk rfl (by first | exact Or.inr ⟨1, (by simp only [cd_time]; exact cif_f h3_0), (by decide), hG⟩ | exact Or.inr ⟨2, (by simp only [cd_time, ze3, za3]; exact (cif_t ⟨ix_nI h3_0, ix_nI h3_2⟩).trans (cif_f (fun z => z h19))), (by decide), hG⟩ | exact Or.inr ⟨2, (by simp only [cd_time, ze3, za3]; exact (cif_t ⟨ix_nI h3_0, ix_nI h3_2⟩).trans (cif_f (fun z => z (hNE _ _ h3_4).1))), (by decide), hG⟩ | exact Or.inl ⟨(by simp only [cd_time, ze3, za3]; exact (cif_t ⟨ix_nI h3_0, ix_nI h3_2⟩).trans (cif_t h19)), (by rw [ze3, za3, fas_ao hW hNE]; exact Int32.add_comm _ _), (by exact hG)⟩) (Nat.le_of_ble_eq_true rfl) (Nat.le_of_ble_eq_true rfl) dX7_place_47
    · exact absurd h6 (by decide)
  · skip
    subst h3_1
    subst h3_3
    have ze3 : ci (nI e3) = e3 := nI_clamp (by omega)
    have za3 : ci (nI a3) = a3 := nI_clamp (by omega)
    refine lv_if_ne (tgt := 34) hx hb dX7_place_6 (by decide) (fun h6 => ?_) (fun h6 => ?_)
    · exact absurd h6 (by decide)
    · skip
      refine o_aload_n hx hb dX7_place_9 hl rfl ?_
      refine o_aload_n hx hb dX7_place_10 hl rfl ?_
      refine g_get hC hG us_X7 rfl 19 (by decide) fl_X7_73 V_model rfl dX7_place_11 ?_
      refine o_iload_n hx hb dX7_place_14 hl rfl ?_
      refine g_aald hC hG 7 rfl rfl V_o19 _ rfl (by omega) (by omega) dX7_place_15 ?_
      refine o_iload_n hx hb dX7_place_16 hl rfl ?_
      refine g_iald hC hG (V_r19 (by omega)) _ rfl (by omega) (by omega) dX7_place_17 ?_
      refine lv_iconst (v := (-1)) hx hb dX7_place_18 (by decide) ?_
      refine lv_icmp_ne (tgt := 26) hx hb dX7_place_19 (by decide) (fun h19 => ?_) (fun h19 => ?_)
      · skip
        refine lv_iconst (v := 0) hx hb dX7_place_26 (by decide) ?_
        refine lv_iconst (v := 2) hx hb dX7_place_27 (by decide) ?_
        refine k_X7_isThrown hC hS hG (by first | exact Or.inl rfl | exact Or.inr rfl) ml_X7_94 ⟨Nat.le_of_ble_eq_true rfl, Nat.le_of_ble_eq_true rfl⟩ hl.1 (Nat.le_of_ble_eq_true rfl) dX7_place_28 ⟨Nat.le_of_ble_eq_true rfl, Nat.le_of_ble_eq_true rfl⟩ (fun h28_0 H locs hG hS => ?_) (fun h28_0 H locs hG hS => ?_)
        · skip
          exact absurd h28_0 (by decide)
        · skip
          refine lv_if_eq (tgt := 38) hx hb dX7_place_31 (by decide) (fun h31 => ?_) (fun h31 => ?_)
          · skip
            refine lv_iconst (v := 1) hx hb dX7_place_38 (by decide) ?_
            refine o_aload_n hx hb dX7_place_39 hl rfl ?_
            refine o_iload_n hx hb dX7_place_40 hl rfl ?_
            refine o_iload_n hx hb dX7_place_41 hl rfl ?_
            refine lv_iconst (v := 0) hx hb dX7_place_42 (by decide) ?_
            refine k_X7_aheadOf hC hS hG ⟨by omega, by omega, hMB, Or.inl rfl⟩ ml_X7_165 ⟨Nat.le_of_ble_eq_true rfl, Nat.le_of_ble_eq_true rfl⟩ hl.1 (Nat.le_of_ble_eq_true rfl) dX7_place_43 ⟨Nat.le_of_ble_eq_true rfl, Nat.le_of_ble_eq_true rfl⟩ ?_
            refine lv_iadd hx hb dX7_place_46 ?_
            exact R_I hC hS hr hlk rfl (by first | exact Or.inr ⟨1, (by simp only [cd_time]; exact cif_f h3_0), (by decide), hG⟩ | exact Or.inr ⟨2, (by simp only [cd_time, ze3, za3]; exact (cif_t ⟨ix_nI h3_0, ix_nI h3_2⟩).trans (cif_f (fun z => z h19))), (by decide), hG⟩ | exact Or.inr ⟨2, (by simp only [cd_time, ze3, za3]; exact (cif_t ⟨ix_nI h3_0, ix_nI h3_2⟩).trans (cif_f (fun z => z (hNE _ _ h3_4).1))), (by decide), hG⟩ | exact Or.inl ⟨(by simp only [cd_time, ze3, za3]; exact (cif_t ⟨ix_nI h3_0, ix_nI h3_2⟩).trans (cif_t h19)), (by rw [ze3, za3, fas_ao hW hNE]; exact Int32.add_comm _ _), (by exact hG)⟩) (Nat.le_of_ble_eq_true rfl) (Nat.le_of_ble_eq_true rfl) dX7_place_47
          · exact absurd h31 (by decide)
      · skip
        refine lv_iconst (v := 1) hx hb dX7_place_22 (by decide) ?_
        refine lv_goto (tgt := 27) hx hb dX7_place_23 (by decide) ?_
        refine lv_iconst (v := 2) hx hb dX7_place_27 (by decide) ?_
        refine k_X7_isThrown hC hS hG (by first | exact Or.inl rfl | exact Or.inr rfl) ml_X7_94 ⟨Nat.le_of_ble_eq_true rfl, Nat.le_of_ble_eq_true rfl⟩ hl.1 (Nat.le_of_ble_eq_true rfl) dX7_place_28 ⟨Nat.le_of_ble_eq_true rfl, Nat.le_of_ble_eq_true rfl⟩ (fun h28_0 H locs hG hS => ?_) (fun h28_0 H locs hG hS => ?_)
        · skip
          refine lv_if_eq (tgt := 38) hx hb dX7_place_31 (by decide) (fun h31 => ?_) (fun h31 => ?_)
          · exact absurd h31 (by decide)
          · skip
            refine lv_iconst (v := 0) hx hb dX7_place_34 (by decide) ?_
            refine lv_goto (tgt := 47) hx hb dX7_place_35 (by decide) ?_
            exact R_I hC hS hr hlk rfl (by first | exact Or.inr ⟨1, (by simp only [cd_time]; exact cif_f h3_0), (by decide), hG⟩ | exact Or.inr ⟨2, (by simp only [cd_time, ze3, za3]; exact (cif_t ⟨ix_nI h3_0, ix_nI h3_2⟩).trans (cif_f (fun z => z h19))), (by decide), hG⟩ | exact Or.inr ⟨2, (by simp only [cd_time, ze3, za3]; exact (cif_t ⟨ix_nI h3_0, ix_nI h3_2⟩).trans (cif_f (fun z => z (hNE _ _ h3_4).1))), (by decide), hG⟩ | exact Or.inl ⟨(by simp only [cd_time, ze3, za3]; exact (cif_t ⟨ix_nI h3_0, ix_nI h3_2⟩).trans (cif_t h19)), (by rw [ze3, za3, fas_ao hW hNE]; exact Int32.add_comm _ _), (by exact hG)⟩) (Nat.le_of_ble_eq_true rfl) (Nat.le_of_ble_eq_true rfl) dX7_place_47
        · skip
          exact absurd h28_0 (by decide)
theorem k_X7_place {p : Program} {l : Launch} {e : Env} {R : Room} {s : State} {m : MethodId} {args : Array Value} {below : List Frame} {meth : Method} {c : Code} {H : Heap} {locs : List Loc} {cells slots : Nat} {Q : State → Prop} {cc : ByteArray} {pc nL : Nat} {ls : Array Slot} {rest : List Value} {own : String} {D : va_G} {cy : Nat → ClassId} {sa : Nat → Nat} {de B : Nat} {ad : Ad} {S : St} {n : Nat → Nat} {T : St} {k : Nat → Nat} {th : Int32} {X : Rl} {x y : Int32}  (hC : Cx p m c cc nL s args own D cy sa de B) (hS : va_S (AB B) s.heap H locs) (hG : GW D B ad (Vw cy de ad S n T k th X) H) (h0 : Inv T k)  {idx : Nat} (wl : Cond.methodLink own idx yX7_place ∈ G0) (hR : 4 + 1 ≤ R.frames ∧ 8 + (3 + 11) + 87 ≤ R.locals) (hsz : ls.size = nL) (hst : (rest.map fun v => v.category).sum ≤ 8) (hdg : decode cc pc = .ok (.invokevirtual idx, 3)) (hcs : cells + 0 ≤ R.cells ∧ slots + 0 ≤ R.slots) (k0 : (cd_time T k x y = 0) → ∀ (H1 : Heap) (locs1 : List Loc), GW D B ad (Vw cy de ad S n (T) (k) 0 X) H1 → va_S (AB B) s.heap H1 locs1 → W p l e R s m args below meth c H1 locs1 cells slots Q (F0 m (pc + 3) ls (.int (cnt (fasP T (ci x) (ci y)) 16 + 1) :: rest))) (k1 : ∀ (r9 : Int32), ∀ (t9 : Nat), (cd_time T k x y = t9) → (¬ t9 = 0) → ∀ (H1 : Heap) (locs1 : List Loc), GW D B ad (Vw cy de ad S n T k (nI t9) X) H1 → va_S (AB B) s.heap H1 locs1 → W p l e R s m args below meth c H1 locs1 cells slots Q (F0 m (pc + 3) ls (.int r9 :: rest))) : W p l e R s m args below meth c H locs cells slots Q (F0 m pc ls (.int y :: .int x :: .ref (ad 13 0 0) :: rest)) :=
  va_calli (rV hC hS hG h0 (As := [.int x, .int y]) (c_X7_place l) ⟨rfl, rfl⟩ wl im_X7_place sl_X7_X7_place in_X7 cd_X7_place (n := 2) (by decide +kernel) hR (recv hC hG (q := (RX7, TX7, 26)) rfl V_model) rfl hsz hst rfl hdg hcs) hS (fun _ _ h => h) (fun _ h => h) (fun r u t H1 locs1 ht _ hr hB _ _ hS1 => by
      subst hr
      have hB9 := hB; try dsimp only at hB9
      rw [ht] at hB9
      rcases hB9 with ⟨q0, rfl, hG1⟩ | ⟨t9, q0, q1, hG1⟩
      · exact k0 q0 _ _ hG1 hS1
      · exact k1 r t9 q0 q1 _ _ hG1 hS1)
set_option maxHeartbeats 4000000 in
set_option maxRecDepth 100000 in
theorem c_X7_close (l : Launch) {D : va_G} {cy : Nat → ClassId} {sa : Nat → Nat} {de B : Nat} {ad : Ad} {S : St} {n : Nat → Nat} {T : St} {k : Nat → Nat} {th : Int32} {X : Rl} {x : Int32}  : Met l yX7_close (Cond.code yX7_close cX7_close 2 (Option.some Jvm.ClassFile.FieldType.int) :: G0) ({ frames := 2, cells := 0, slots := 0, locals := 43 } : Room) (va_Pc [.ref (ad 13 0 0), .int x] (PW D cy sa de B ad (Vw cy de ad S n T k th X) (Inv T k))) (oI B (fun r H => (cd_close T k x = 0 ∧ r = (cnt (timeP T (ci x)) 16) ∧ GW D B ad (Vw cy de ad S n (up3 T 19 (ci x) 0 1) (k) 0 X) H) ∨ (∃ (t9 : Nat), cd_close T k x = t9 ∧ ¬ t9 = 0 ∧ GW D B ad (Vw cy de ad S n T k (nI t9) X) H))) 0 0 (AB B) := by
  refine E_met (own := RX7) rfl rfl (Nat.le_of_ble_eq_true rfl) ?_
  intro p e s m below meth c hC hr hlk hnm hG h0 ls hl
  have hx := hC.x
  have hb := hC.b
  have hS : va_S (AB B) s.heap s.heap [] := va_S.rf
  have hl : lo ls 2 [some (.ref (ad 13 0 0)), some (.int x)] := lo_of hl
  have hI := h0
  obtain ⟨hCI, hD0, hD1, hD2, hB01, hF30, hK8, hMK, hU1, hU2, hS10, hEO, hCF, hFT, hME, hYR, hEK, hLA⟩ := h0
  obtain ⟨hW, hNE, hCH, hBL⟩ := hCI
  have hW9 := hW
  obtain ⟨hB0, hB1, hB2, hB3, hB4, hB5, hB6, hB7, hKI, hEI, hKY⟩ := hW9
  have hMB : MB k := ⟨hB0, hB1, hB2, hB3⟩
  have hKYm : KYm T k := hKY
  refine o_aload_n hx hb dX7_close_0 hl rfl ?_
  refine o_aload_n hx hb dX7_close_1 hl rfl ?_
  refine o_iload_n hx hb dX7_close_2 hl rfl ?_
  refine k_X7_isNoEvent hC hS hG hMB ml_X7_139 ⟨Nat.le_of_ble_eq_true rfl, Nat.le_of_ble_eq_true rfl⟩ hl.1 (Nat.le_of_ble_eq_true rfl) dX7_close_3 ⟨Nat.le_of_ble_eq_true rfl, Nat.le_of_ble_eq_true rfl⟩ (fun h3 => ?_) (fun h3 => ?_)
  · skip
    refine lv_iconst (v := 1) hx hb dX7_close_6 (by decide) ?_
    refine k_X7_isThrown hC hS hG (by first | exact Or.inl rfl | exact Or.inr rfl) ml_X7_94 ⟨Nat.le_of_ble_eq_true rfl, Nat.le_of_ble_eq_true rfl⟩ hl.1 (Nat.le_of_ble_eq_true rfl) dX7_close_7 ⟨Nat.le_of_ble_eq_true rfl, Nat.le_of_ble_eq_true rfl⟩ (fun h7_0 H locs hG hS => ?_) (fun h7_0 H locs hG hS => ?_)
    · skip
      refine lv_if_ne (tgt := 44) hx hb dX7_close_10 (by decide) (fun h10 => ?_) (fun h10 => ?_)
      · skip
        refine lv_iconst (v := 0) hx hb dX7_close_44 (by decide) ?_
        exact R_I hC hS hr hlk rfl (by first | exact Or.inr ⟨1, (by simp only [cd_close]; exact cif_f h3), (by decide), hG⟩ | exact Or.inr ⟨2, (by simp only [cd_close, za3]; exact (cif_t (ix_nI ha3)).trans (cif_f (fun z => by first | exact z.1 h20 | exact h29 z.2))), (by decide), hG⟩) (Nat.le_of_ble_eq_true rfl) (Nat.le_of_ble_eq_true rfl) dX7_close_45
      · exact absurd h10 (by decide)
    · skip
      exact absurd h7_0 (by decide)
  · skip
    refine lv_iconst (v := 1) hx hb dX7_close_6 (by decide) ?_
    refine k_X7_isThrown hC hS hG (by first | exact Or.inl rfl | exact Or.inr rfl) ml_X7_94 ⟨Nat.le_of_ble_eq_true rfl, Nat.le_of_ble_eq_true rfl⟩ hl.1 (Nat.le_of_ble_eq_true rfl) dX7_close_7 ⟨Nat.le_of_ble_eq_true rfl, Nat.le_of_ble_eq_true rfl⟩ (fun h7_0 H locs hG hS => ?_) (fun h7_0 H locs hG hS => ?_)
    · skip
      exact absurd h7_0 (by decide)
    · skip
      refine lv_if_ne (tgt := 44) hx hb dX7_close_10 (by decide) (fun h10 => ?_) (fun h10 => ?_)
      · exact absurd h10 (by decide)
      · skip
        obtain ⟨a3, ha3, hxa3⟩ := Classical.not_not.mp h3
        subst hxa3
        have za3 : ci (nI a3) = a3 := nI_clamp (by omega)
        refine o_aload_n hx hb dX7_close_13 hl rfl ?_
        refine o_aload_n hx hb dX7_close_14 hl rfl ?_
        refine g_get hC hG us_X7 rfl 15 (by decide) fl_X7_59 V_model rfl dX7_close_15 ?_
        refine o_iload_n hx hb dX7_close_18 hl rfl ?_
        refine g_zald hC hG V_m15 _ rfl (by omega) (by omega) dX7_close_19 ?_
        refine lv_if_eq (tgt := 32) hx hb dX7_close_20 (by decide) (fun h20 => ?_) (fun h20 => ?_)
        · skip
          refine lv_iconst (v := 1) hx hb dX7_close_32 (by decide) ?_
          refine lv_goto (tgt := 37) hx hb dX7_close_33 (by decide) ?_
          refine lv_iconst (v := 2) hx hb dX7_close_37 (by decide) ?_
          refine k_X7_isThrown hC hS hG (by first | exact Or.inl rfl | exact Or.inr rfl) ml_X7_94 ⟨Nat.le_of_ble_eq_true rfl, Nat.le_of_ble_eq_true rfl⟩ hl.1 (Nat.le_of_ble_eq_true rfl) dX7_close_38 ⟨Nat.le_of_ble_eq_true rfl, Nat.le_of_ble_eq_true rfl⟩ (fun h38_0 H locs hG hS => ?_) (fun h38_0 H locs hG hS => ?_)
          · skip
            refine lv_if_eq (tgt := 46) hx hb dX7_close_41 (by decide) (fun h41 => ?_) (fun h41 => ?_)
            · exact absurd h41 (by decide)
            · skip
              refine lv_iconst (v := 0) hx hb dX7_close_44 (by decide) ?_
              exact R_I hC hS hr hlk rfl (by first | exact Or.inr ⟨1, (by simp only [cd_close]; exact cif_f h3), (by decide), hG⟩ | exact Or.inr ⟨2, (by simp only [cd_close, za3]; exact (cif_t (ix_nI ha3)).trans (cif_f (fun z => by first | exact z.1 h20 | exact h29 z.2))), (by decide), hG⟩) (Nat.le_of_ble_eq_true rfl) (Nat.le_of_ble_eq_true rfl) dX7_close_45
          · skip
            exact absurd h38_0 (by decide)
        · skip
          refine o_aload_n hx hb dX7_close_23 hl rfl ?_
          refine g_get hC hG us_X7 rfl 16 (by decide) fl_X7_62 V_model rfl dX7_close_24 ?_
          refine o_iload_n hx hb dX7_close_27 hl rfl ?_
          refine g_zald hC hG V_m16 _ rfl (by omega) (by omega) dX7_close_28 ?_
          refine lv_if_eq (tgt := 36) hx hb dX7_close_29 (by decide) (fun h29 => ?_) (fun h29 => ?_)
          · skip
            refine lv_iconst (v := 0) hx hb dX7_close_36 (by decide) ?_
            refine lv_iconst (v := 2) hx hb dX7_close_37 (by decide) ?_
            refine k_X7_isThrown hC hS hG (by first | exact Or.inl rfl | exact Or.inr rfl) ml_X7_94 ⟨Nat.le_of_ble_eq_true rfl, Nat.le_of_ble_eq_true rfl⟩ hl.1 (Nat.le_of_ble_eq_true rfl) dX7_close_38 ⟨Nat.le_of_ble_eq_true rfl, Nat.le_of_ble_eq_true rfl⟩ (fun h38_0 H locs hG hS => ?_) (fun h38_0 H locs hG hS => ?_)
            · skip
              exact absurd h38_0 (by decide)
            · skip
              refine lv_if_eq (tgt := 46) hx hb dX7_close_41 (by decide) (fun h41 => ?_) (fun h41 => ?_)
              · skip
                refine o_aload_n hx hb dX7_close_46 hl rfl ?_
                refine g_get hC hG us_X7 rfl 16 (by decide) fl_X7_62 V_model rfl dX7_close_47 ?_
                refine o_iload_n hx hb dX7_close_50 hl rfl ?_
                refine lv_iconst (v := 1) hx hb dX7_close_51 (by decide) ?_
                refine g_zast hC hG hS V_m16 _ rfl (by omega) (by omega) (Or.inr rfl) P_m16 dX7_close_52 (fun H locs hG hS => ?_)
                refine o_aload_n hx hb dX7_close_53 hl rfl ?_
                refine o_iload_n hx hb dX7_close_54 hl rfl ?_
                refine k_X7_results hC hS hG (by omega) ml_X7_162 ⟨Nat.le_of_ble_eq_true rfl, Nat.le_of_ble_eq_true rfl⟩ hl.1 (Nat.le_of_ble_eq_true rfl) dX7_close_55 ⟨Nat.le_of_ble_eq_true rfl, Nat.le_of_ble_eq_true rfl⟩ ?_
                exact R_I hC hS hr hlk rfl (Or.inl ⟨(by simp only [cd_close, za3]; exact (cif_t (ix_nI ha3)).trans (cif_t ⟨h20, h29⟩)), (by rw [za3]; rfl), (by rw [za3]; exact hG)⟩) (Nat.le_of_ble_eq_true rfl) (Nat.le_of_ble_eq_true rfl) dX7_close_58
              · exact absurd h41 (by decide)
          · skip
            refine lv_iconst (v := 1) hx hb dX7_close_32 (by decide) ?_
            refine lv_goto (tgt := 37) hx hb dX7_close_33 (by decide) ?_
            refine lv_iconst (v := 2) hx hb dX7_close_37 (by decide) ?_
            refine k_X7_isThrown hC hS hG (by first | exact Or.inl rfl | exact Or.inr rfl) ml_X7_94 ⟨Nat.le_of_ble_eq_true rfl, Nat.le_of_ble_eq_true rfl⟩ hl.1 (Nat.le_of_ble_eq_true rfl) dX7_close_38 ⟨Nat.le_of_ble_eq_true rfl, Nat.le_of_ble_eq_true rfl⟩ (fun h38_0 H locs hG hS => ?_) (fun h38_0 H locs hG hS => ?_)
            · skip
              refine lv_if_eq (tgt := 46) hx hb dX7_close_41 (by decide) (fun h41 => ?_) (fun h41 => ?_)
              · exact absurd h41 (by decide)
              · skip
                refine lv_iconst (v := 0) hx hb dX7_close_44 (by decide) ?_
                exact R_I hC hS hr hlk rfl (by first | exact Or.inr ⟨1, (by simp only [cd_close]; exact cif_f h3), (by decide), hG⟩ | exact Or.inr ⟨2, (by simp only [cd_close, za3]; exact (cif_t (ix_nI ha3)).trans (cif_f (fun z => by first | exact z.1 h20 | exact h29 z.2))), (by decide), hG⟩) (Nat.le_of_ble_eq_true rfl) (Nat.le_of_ble_eq_true rfl) dX7_close_45
            · skip
              exact absurd h38_0 (by decide)
theorem k_X7_close {p : Program} {l : Launch} {e : Env} {R : Room} {s : State} {m : MethodId} {args : Array Value} {below : List Frame} {meth : Method} {c : Code} {H : Heap} {locs : List Loc} {cells slots : Nat} {Q : State → Prop} {cc : ByteArray} {pc nL : Nat} {ls : Array Slot} {rest : List Value} {own : String} {D : va_G} {cy : Nat → ClassId} {sa : Nat → Nat} {de B : Nat} {ad : Ad} {S : St} {n : Nat → Nat} {T : St} {k : Nat → Nat} {th : Int32} {X : Rl} {x : Int32}  (hC : Cx p m c cc nL s args own D cy sa de B) (hS : va_S (AB B) s.heap H locs) (hG : GW D B ad (Vw cy de ad S n T k th X) H) (h0 : Inv T k)  {idx : Nat} (wl : Cond.methodLink own idx yX7_close ∈ G0) (hR : 2 + 1 ≤ R.frames ∧ 8 + (2 + 11) + 43 ≤ R.locals) (hsz : ls.size = nL) (hst : (rest.map fun v => v.category).sum ≤ 8) (hdg : decode cc pc = .ok (.invokevirtual idx, 3)) (hcs : cells + 0 ≤ R.cells ∧ slots + 0 ≤ R.slots) (k0 : (cd_close T k x = 0) → ∀ (H1 : Heap) (locs1 : List Loc), GW D B ad (Vw cy de ad S n (up3 T 19 (ci x) 0 1) (k) 0 X) H1 → va_S (AB B) s.heap H1 locs1 → W p l e R s m args below meth c H1 locs1 cells slots Q (F0 m (pc + 3) ls (.int (cnt (timeP T (ci x)) 16) :: rest))) (k1 : ∀ (r9 : Int32), ∀ (t9 : Nat), (cd_close T k x = t9) → (¬ t9 = 0) → ∀ (H1 : Heap) (locs1 : List Loc), GW D B ad (Vw cy de ad S n T k (nI t9) X) H1 → va_S (AB B) s.heap H1 locs1 → W p l e R s m args below meth c H1 locs1 cells slots Q (F0 m (pc + 3) ls (.int r9 :: rest))) : W p l e R s m args below meth c H locs cells slots Q (F0 m pc ls (.int x :: .ref (ad 13 0 0) :: rest)) :=
  va_calli (rV hC hS hG h0 (As := [.int x]) (c_X7_close l) ⟨rfl, rfl⟩ wl im_X7_close sl_X7_X7_close in_X7 cd_X7_close (n := 1) (by decide +kernel) hR (recv hC hG (q := (RX7, TX7, 26)) rfl V_model) rfl hsz hst rfl hdg hcs) hS (fun _ _ h => h) (fun _ h => h) (fun r u t H1 locs1 ht _ hr hB _ _ hS1 => by
      subst hr
      have hB9 := hB; try dsimp only at hB9
      rw [ht] at hB9
      rcases hB9 with ⟨q0, rfl, hG1⟩ | ⟨t9, q0, q1, hG1⟩
      · exact k0 q0 _ _ hG1 hS1
      · exact k1 r t9 q0 q1 _ _ hG1 hS1)
set_option maxHeartbeats 4000000 in
set_option maxRecDepth 100000 in
theorem c_X7_record (l : Launch) {D : va_G} {cy : Nat → ClassId} {sa : Nat → Nat} {de B : Nat} {ad : Ad} {S : St} {n : Nat → Nat} {T : St} {k : Nat → Nat} {th : Int32} {X : Rl} {x : Int32}  : Met l yX7_record (Cond.code yX7_record cX7_record 2 (Option.some Jvm.ClassFile.FieldType.int) :: G0) ({ frames := 2, cells := 0, slots := 0, locals := 43 } : Room) (va_Pc [.ref (ad 13 0 0), .int x] (PW D cy sa de B ad (Vw cy de ad S n T k th X) (Inv T k))) (oI B (fun r H => (cd_record T k x = 0 ∧ r = (T 14 (ci x) 0) ∧ GW D B ad (Vw cy de ad S n (T) (k) 0 X) H) ∨ (∃ (t9 : Nat), cd_record T k x = t9 ∧ ¬ t9 = 0 ∧ GW D B ad (Vw cy de ad S n T k (nI t9) X) H))) 0 0 (AB B) := by
  refine E_met (own := RX7) rfl rfl (Nat.le_of_ble_eq_true rfl) ?_
  intro p e s m below meth c hC hr hlk hnm hG h0 ls hl
  have hx := hC.x
  have hb := hC.b
  have hS : va_S (AB B) s.heap s.heap [] := va_S.rf
  have hl : lo ls 2 [some (.ref (ad 13 0 0)), some (.int x)] := lo_of hl
  have hI := h0
  obtain ⟨hCI, hD0, hD1, hD2, hB01, hF30, hK8, hMK, hU1, hU2, hS10, hEO, hCF, hFT, hME, hYR, hEK, hLA⟩ := h0
  obtain ⟨hW, hNE, hCH, hBL⟩ := hCI
  have hW9 := hW
  obtain ⟨hB0, hB1, hB2, hB3, hB4, hB5, hB6, hB7, hKI, hEI, hKY⟩ := hW9
  have hMB : MB k := ⟨hB0, hB1, hB2, hB3⟩
  have hKYm : KYm T k := hKY
  refine o_aload_n hx hb dX7_record_0 hl rfl ?_
  refine o_aload_n hx hb dX7_record_1 hl rfl ?_
  refine o_iload_n hx hb dX7_record_2 hl rfl ?_
  refine k_X7_isNoKind hC hS hG hMB ml_X7_136 ⟨Nat.le_of_ble_eq_true rfl, Nat.le_of_ble_eq_true rfl⟩ hl.1 (Nat.le_of_ble_eq_true rfl) dX7_record_3 ⟨Nat.le_of_ble_eq_true rfl, Nat.le_of_ble_eq_true rfl⟩ (fun h3 => ?_) (fun h3 => ?_)
  · skip
    refine lv_iconst (v := 1) hx hb dX7_record_6 (by decide) ?_
    refine k_X7_isThrown hC hS hG (by first | exact Or.inl rfl | exact Or.inr rfl) ml_X7_94 ⟨Nat.le_of_ble_eq_true rfl, Nat.le_of_ble_eq_true rfl⟩ hl.1 (Nat.le_of_ble_eq_true rfl) dX7_record_7 ⟨Nat.le_of_ble_eq_true rfl, Nat.le_of_ble_eq_true rfl⟩ (fun h7_0 H locs hG hS => ?_) (fun h7_0 H locs hG hS => ?_)
    · skip
      refine lv_if_ne (tgt := 36) hx hb dX7_record_10 (by decide) (fun h10 => ?_) (fun h10 => ?_)
      · skip
        refine lv_iconst (v := 0) hx hb dX7_record_36 (by decide) ?_
        refine lv_goto (tgt := 46) hx hb dX7_record_37 (by decide) ?_
        exact R_I hC hS hr hlk rfl (by first | exact Or.inr ⟨1, (by simp only [cd_record]; exact cif_f h3), (by decide), hG⟩ | exact Or.inr ⟨2, (by simp only [cd_record, za3]; exact (cif_t (ix_nI ha3)).trans (cif_t h21)), (by decide), hG⟩ | exact Or.inl ⟨(by simp only [cd_record, za3]; exact (cif_t (ix_nI ha3)).trans (cif_f h21)), (by rw [za3]), (by exact hG)⟩) (Nat.le_of_ble_eq_true rfl) (Nat.le_of_ble_eq_true rfl) dX7_record_46
      · exact absurd h10 (by decide)
    · skip
      exact absurd h7_0 (by decide)
  · skip
    refine lv_iconst (v := 1) hx hb dX7_record_6 (by decide) ?_
    refine k_X7_isThrown hC hS hG (by first | exact Or.inl rfl | exact Or.inr rfl) ml_X7_94 ⟨Nat.le_of_ble_eq_true rfl, Nat.le_of_ble_eq_true rfl⟩ hl.1 (Nat.le_of_ble_eq_true rfl) dX7_record_7 ⟨Nat.le_of_ble_eq_true rfl, Nat.le_of_ble_eq_true rfl⟩ (fun h7_0 H locs hG hS => ?_) (fun h7_0 H locs hG hS => ?_)
    · skip
      exact absurd h7_0 (by decide)
    · skip
      refine lv_if_ne (tgt := 36) hx hb dX7_record_10 (by decide) (fun h10 => ?_) (fun h10 => ?_)
      · exact absurd h10 (by decide)
      · skip
        obtain ⟨a3, ha3, hxa3⟩ := Classical.not_not.mp h3
        subst hxa3
        have za3 : ci (nI a3) = a3 := nI_clamp (by omega)
        refine o_aload_n hx hb dX7_record_13 hl rfl ?_
        refine o_aload_n hx hb dX7_record_14 hl rfl ?_
        refine g_get hC hG us_X7 rfl 11 (by decide) fl_X7_47 V_model rfl dX7_record_15 ?_
        refine o_iload_n hx hb dX7_record_18 hl rfl ?_
        refine g_iald hC hG V_m11 _ rfl (by omega) (by omega) dX7_record_19 ?_
        refine lv_iconst (v := (-1)) hx hb dX7_record_20 (by decide) ?_
        refine lv_icmp_ne (tgt := 28) hx hb dX7_record_21 (by decide) (fun h21 => ?_) (fun h21 => ?_)
        · skip
          refine lv_iconst (v := 0) hx hb dX7_record_28 (by decide) ?_
          refine lv_iconst (v := 2) hx hb dX7_record_29 (by decide) ?_
          refine k_X7_isThrown hC hS hG (by first | exact Or.inl rfl | exact Or.inr rfl) ml_X7_94 ⟨Nat.le_of_ble_eq_true rfl, Nat.le_of_ble_eq_true rfl⟩ hl.1 (Nat.le_of_ble_eq_true rfl) dX7_record_30 ⟨Nat.le_of_ble_eq_true rfl, Nat.le_of_ble_eq_true rfl⟩ (fun h30_0 H locs hG hS => ?_) (fun h30_0 H locs hG hS => ?_)
          · skip
            exact absurd h30_0 (by decide)
          · skip
            refine lv_if_eq (tgt := 40) hx hb dX7_record_33 (by decide) (fun h33 => ?_) (fun h33 => ?_)
            · skip
              refine o_aload_n hx hb dX7_record_40 hl rfl ?_
              refine g_get hC hG us_X7 rfl 11 (by decide) fl_X7_47 V_model rfl dX7_record_41 ?_
              refine o_iload_n hx hb dX7_record_44 hl rfl ?_
              refine g_iald hC hG V_m11 _ rfl (by omega) (by omega) dX7_record_45 ?_
              exact R_I hC hS hr hlk rfl (by first | exact Or.inr ⟨1, (by simp only [cd_record]; exact cif_f h3), (by decide), hG⟩ | exact Or.inr ⟨2, (by simp only [cd_record, za3]; exact (cif_t (ix_nI ha3)).trans (cif_t h21)), (by decide), hG⟩ | exact Or.inl ⟨(by simp only [cd_record, za3]; exact (cif_t (ix_nI ha3)).trans (cif_f h21)), (by rw [za3]), (by exact hG)⟩) (Nat.le_of_ble_eq_true rfl) (Nat.le_of_ble_eq_true rfl) dX7_record_46
            · exact absurd h33 (by decide)
        · skip
          refine lv_iconst (v := 1) hx hb dX7_record_24 (by decide) ?_
          refine lv_goto (tgt := 29) hx hb dX7_record_25 (by decide) ?_
          refine lv_iconst (v := 2) hx hb dX7_record_29 (by decide) ?_
          refine k_X7_isThrown hC hS hG (by first | exact Or.inl rfl | exact Or.inr rfl) ml_X7_94 ⟨Nat.le_of_ble_eq_true rfl, Nat.le_of_ble_eq_true rfl⟩ hl.1 (Nat.le_of_ble_eq_true rfl) dX7_record_30 ⟨Nat.le_of_ble_eq_true rfl, Nat.le_of_ble_eq_true rfl⟩ (fun h30_0 H locs hG hS => ?_) (fun h30_0 H locs hG hS => ?_)
          · skip
            refine lv_if_eq (tgt := 40) hx hb dX7_record_33 (by decide) (fun h33 => ?_) (fun h33 => ?_)
            · exact absurd h33 (by decide)
            · skip
              refine lv_iconst (v := 0) hx hb dX7_record_36 (by decide) ?_
              refine lv_goto (tgt := 46) hx hb dX7_record_37 (by decide) ?_
              exact R_I hC hS hr hlk rfl (by first | exact Or.inr ⟨1, (by simp only [cd_record]; exact cif_f h3), (by decide), hG⟩ | exact Or.inr ⟨2, (by simp only [cd_record, za3]; exact (cif_t (ix_nI ha3)).trans (cif_t h21)), (by decide), hG⟩ | exact Or.inl ⟨(by simp only [cd_record, za3]; exact (cif_t (ix_nI ha3)).trans (cif_f h21)), (by rw [za3]), (by exact hG)⟩) (Nat.le_of_ble_eq_true rfl) (Nat.le_of_ble_eq_true rfl) dX7_record_46
          · skip
            exact absurd h30_0 (by decide)
theorem k_X7_record {p : Program} {l : Launch} {e : Env} {R : Room} {s : State} {m : MethodId} {args : Array Value} {below : List Frame} {meth : Method} {c : Code} {H : Heap} {locs : List Loc} {cells slots : Nat} {Q : State → Prop} {cc : ByteArray} {pc nL : Nat} {ls : Array Slot} {rest : List Value} {own : String} {D : va_G} {cy : Nat → ClassId} {sa : Nat → Nat} {de B : Nat} {ad : Ad} {S : St} {n : Nat → Nat} {T : St} {k : Nat → Nat} {th : Int32} {X : Rl} {x : Int32}  (hC : Cx p m c cc nL s args own D cy sa de B) (hS : va_S (AB B) s.heap H locs) (hG : GW D B ad (Vw cy de ad S n T k th X) H) (h0 : Inv T k)  {idx : Nat} (wl : Cond.methodLink own idx yX7_record ∈ G0) (hR : 2 + 1 ≤ R.frames ∧ 8 + (2 + 11) + 43 ≤ R.locals) (hsz : ls.size = nL) (hst : (rest.map fun v => v.category).sum ≤ 8) (hdg : decode cc pc = .ok (.invokevirtual idx, 3)) (hcs : cells + 0 ≤ R.cells ∧ slots + 0 ≤ R.slots) (k0 : (cd_record T k x = 0) → ∀ (H1 : Heap) (locs1 : List Loc), GW D B ad (Vw cy de ad S n (T) (k) 0 X) H1 → va_S (AB B) s.heap H1 locs1 → W p l e R s m args below meth c H1 locs1 cells slots Q (F0 m (pc + 3) ls (.int (T 14 (ci x) 0) :: rest))) (k1 : ∀ (r9 : Int32), ∀ (t9 : Nat), (cd_record T k x = t9) → (¬ t9 = 0) → ∀ (H1 : Heap) (locs1 : List Loc), GW D B ad (Vw cy de ad S n T k (nI t9) X) H1 → va_S (AB B) s.heap H1 locs1 → W p l e R s m args below meth c H1 locs1 cells slots Q (F0 m (pc + 3) ls (.int r9 :: rest))) : W p l e R s m args below meth c H locs cells slots Q (F0 m pc ls (.int x :: .ref (ad 13 0 0) :: rest)) :=
  va_calli (rV hC hS hG h0 (As := [.int x]) (c_X7_record l) ⟨rfl, rfl⟩ wl im_X7_record sl_X7_X7_record in_X7 cd_X7_record (n := 1) (by decide +kernel) hR (recv hC hG (q := (RX7, TX7, 26)) rfl V_model) rfl hsz hst rfl hdg hcs) hS (fun _ _ h => h) (fun _ h => h) (fun r u t H1 locs1 ht _ hr hB _ _ hS1 => by
      subst hr
      have hB9 := hB; try dsimp only at hB9
      rw [ht] at hB9
      rcases hB9 with ⟨q0, rfl, hG1⟩ | ⟨t9, q0, q1, hG1⟩
      · exact k0 q0 _ _ hG1 hS1
      · exact k1 r t9 q0 q1 _ _ hG1 hS1)
set_option maxHeartbeats 4000000 in
set_option maxRecDepth 100000 in
theorem c_X7_onFloor (l : Launch) {D : va_G} {cy : Nat → ClassId} {sa : Nat → Nat} {de B : Nat} {ad : Ad} {S : St} {n : Nat → Nat} {T : St} {k : Nat → Nat} {th : Int32} {X : Rl} {x : Int32}  : Met l yX7_onFloor (Cond.code yX7_onFloor cX7_onFloor 2 (Option.some Jvm.ClassFile.FieldType.int) :: G0) ({ frames := 2, cells := 0, slots := 0, locals := 42 } : Room) (va_Pc [.ref (ad 13 0 0), .int x] (PW D cy sa de B ad (Vw cy de ad S n T k th X) (Inv T k))) (oI B (fun r H => (cd_money x = 0 ∧ r = (biF T x (k 0)) ∧ GW D B ad (Vw cy de ad S n (T) (k) 0 X) H) ∨ (∃ (t9 : Nat), cd_money x = t9 ∧ ¬ t9 = 0 ∧ GW D B ad (Vw cy de ad S n T k (nI t9) X) H))) 0 0 (AB B) := by
  refine E_met (own := RX7) rfl rfl (Nat.le_of_ble_eq_true rfl) ?_
  intro p e s m below meth c hC hr hlk hnm hG h0 ls hl
  have hx := hC.x
  have hb := hC.b
  have hS : va_S (AB B) s.heap s.heap [] := va_S.rf
  have hl : lo ls 2 [some (.ref (ad 13 0 0)), some (.int x)] := lo_of hl
  have hI := h0
  obtain ⟨hCI, hD0, hD1, hD2, hB01, hF30, hK8, hMK, hU1, hU2, hS10, hEO, hCF, hFT, hME, hYR, hEK, hLA⟩ := h0
  obtain ⟨hW, hNE, hCH, hBL⟩ := hCI
  have hW9 := hW
  obtain ⟨hB0, hB1, hB2, hB3, hB4, hB5, hB6, hB7, hKI, hEI, hKY⟩ := hW9
  have hMB : MB k := ⟨hB0, hB1, hB2, hB3⟩
  have hKYm : KYm T k := hKY
  refine o_aload_n hx hb dX7_onFloor_0 hl rfl ?_
  refine o_iload_n hx hb dX7_onFloor_1 hl rfl ?_
  refine k_X7_isNoLand hC hS hG trivial ml_X7_90 ⟨Nat.le_of_ble_eq_true rfl, Nat.le_of_ble_eq_true rfl⟩ hl.1 (Nat.le_of_ble_eq_true rfl) dX7_onFloor_2 ⟨Nat.le_of_ble_eq_true rfl, Nat.le_of_ble_eq_true rfl⟩ (fun h2 => ?_) (fun h2 => ?_)
  · skip
    refine lv_iconst (v := 1) hx hb dX7_onFloor_5 (by decide) ?_
    refine k_X7_isThrown hC hS hG (by first | exact Or.inl rfl | exact Or.inr rfl) ml_X7_94 ⟨Nat.le_of_ble_eq_true rfl, Nat.le_of_ble_eq_true rfl⟩ hl.1 (Nat.le_of_ble_eq_true rfl) dX7_onFloor_6 ⟨Nat.le_of_ble_eq_true rfl, Nat.le_of_ble_eq_true rfl⟩ (fun h6_0 H locs hG hS => ?_) (fun h6_0 H locs hG hS => ?_)
    · skip
      refine lv_if_eq (tgt := 16) hx hb dX7_onFloor_9 (by decide) (fun h9 => ?_) (fun h9 => ?_)
      · exact absurd h9 (by decide)
      · skip
        refine lv_iconst (v := 0) hx hb dX7_onFloor_12 (by decide) ?_
        refine lv_goto (tgt := 21) hx hb dX7_onFloor_13 (by decide) ?_
        exact R_I hC hS hr hlk rfl (by first | exact Or.inr ⟨1, (by simp only [cd_money]; exact cif_f h2), (by decide), hG⟩ | exact Or.inl ⟨(by simp only [cd_money]; exact cif_t (Classical.not_not.mp h2)), (by rfl), (by exact hG)⟩) (Nat.le_of_ble_eq_true rfl) (Nat.le_of_ble_eq_true rfl) dX7_onFloor_21
    · skip
      exact absurd h6_0 (by decide)
  · skip
    refine lv_iconst (v := 1) hx hb dX7_onFloor_5 (by decide) ?_
    refine k_X7_isThrown hC hS hG (by first | exact Or.inl rfl | exact Or.inr rfl) ml_X7_94 ⟨Nat.le_of_ble_eq_true rfl, Nat.le_of_ble_eq_true rfl⟩ hl.1 (Nat.le_of_ble_eq_true rfl) dX7_onFloor_6 ⟨Nat.le_of_ble_eq_true rfl, Nat.le_of_ble_eq_true rfl⟩ (fun h6_0 H locs hG hS => ?_) (fun h6_0 H locs hG hS => ?_)
    · skip
      exact absurd h6_0 (by decide)
    · skip
      refine lv_if_eq (tgt := 16) hx hb dX7_onFloor_9 (by decide) (fun h9 => ?_) (fun h9 => ?_)
      · skip
        refine o_aload_n hx hb dX7_onFloor_16 hl rfl ?_
        refine o_iload_n hx hb dX7_onFloor_17 hl rfl ?_
        refine k_X7_floorOf hC hS hG hMB ml_X7_181 ⟨Nat.le_of_ble_eq_true rfl, Nat.le_of_ble_eq_true rfl⟩ hl.1 (Nat.le_of_ble_eq_true rfl) dX7_onFloor_18 ⟨Nat.le_of_ble_eq_true rfl, Nat.le_of_ble_eq_true rfl⟩ ?_
        exact R_I hC hS hr hlk rfl (by first | exact Or.inr ⟨1, (by simp only [cd_money]; exact cif_f h2), (by decide), hG⟩ | exact Or.inl ⟨(by simp only [cd_money]; exact cif_t (Classical.not_not.mp h2)), (by rfl), (by exact hG)⟩) (Nat.le_of_ble_eq_true rfl) (Nat.le_of_ble_eq_true rfl) dX7_onFloor_21
      · exact absurd h9 (by decide)
theorem k_X7_onFloor {p : Program} {l : Launch} {e : Env} {R : Room} {s : State} {m : MethodId} {args : Array Value} {below : List Frame} {meth : Method} {c : Code} {H : Heap} {locs : List Loc} {cells slots : Nat} {Q : State → Prop} {cc : ByteArray} {pc nL : Nat} {ls : Array Slot} {rest : List Value} {own : String} {D : va_G} {cy : Nat → ClassId} {sa : Nat → Nat} {de B : Nat} {ad : Ad} {S : St} {n : Nat → Nat} {T : St} {k : Nat → Nat} {th : Int32} {X : Rl} {x : Int32}  (hC : Cx p m c cc nL s args own D cy sa de B) (hS : va_S (AB B) s.heap H locs) (hG : GW D B ad (Vw cy de ad S n T k th X) H) (h0 : Inv T k)  {idx : Nat} (wl : Cond.methodLink own idx yX7_onFloor ∈ G0) (hR : 2 + 1 ≤ R.frames ∧ 8 + (2 + 11) + 42 ≤ R.locals) (hsz : ls.size = nL) (hst : (rest.map fun v => v.category).sum ≤ 8) (hdg : decode cc pc = .ok (.invokevirtual idx, 3)) (hcs : cells + 0 ≤ R.cells ∧ slots + 0 ≤ R.slots) (k0 : (cd_money x = 0) → ∀ (H1 : Heap) (locs1 : List Loc), GW D B ad (Vw cy de ad S n (T) (k) 0 X) H1 → va_S (AB B) s.heap H1 locs1 → W p l e R s m args below meth c H1 locs1 cells slots Q (F0 m (pc + 3) ls (.int (biF T x (k 0)) :: rest))) (k1 : ∀ (r9 : Int32), ∀ (t9 : Nat), (cd_money x = t9) → (¬ t9 = 0) → ∀ (H1 : Heap) (locs1 : List Loc), GW D B ad (Vw cy de ad S n T k (nI t9) X) H1 → va_S (AB B) s.heap H1 locs1 → W p l e R s m args below meth c H1 locs1 cells slots Q (F0 m (pc + 3) ls (.int r9 :: rest))) : W p l e R s m args below meth c H locs cells slots Q (F0 m pc ls (.int x :: .ref (ad 13 0 0) :: rest)) :=
  va_calli (rV hC hS hG h0 (As := [.int x]) (c_X7_onFloor l) ⟨rfl, rfl⟩ wl im_X7_onFloor sl_X7_X7_onFloor in_X7 cd_X7_onFloor (n := 1) (by decide +kernel) hR (recv hC hG (q := (RX7, TX7, 26)) rfl V_model) rfl hsz hst rfl hdg hcs) hS (fun _ _ h => h) (fun _ h => h) (fun r u t H1 locs1 ht _ hr hB _ _ hS1 => by
      subst hr
      have hB9 := hB; try dsimp only at hB9
      rw [ht] at hB9
      rcases hB9 with ⟨q0, rfl, hG1⟩ | ⟨t9, q0, q1, hG1⟩
      · exact k0 q0 _ _ hG1 hS1
      · exact k1 r t9 q0 q1 _ _ hG1 hS1)
set_option maxHeartbeats 4000000 in
set_option maxRecDepth 100000 in
theorem c_X7_points (l : Launch) {D : va_G} {cy : Nat → ClassId} {sa : Nat → Nat} {de B : Nat} {ad : Ad} {S : St} {n : Nat → Nat} {T : St} {k : Nat → Nat} {th : Int32} {X : Rl} {x : Int32}  : Met l yX7_points (Cond.code yX7_points cX7_points 2 (Option.some Jvm.ClassFile.FieldType.int) :: G0) ({ frames := 2, cells := 0, slots := 0, locals := 42 } : Room) (va_Pc [.ref (ad 13 0 0), .int x] (PW D cy sa de B ad (Vw cy de ad S n T k th X) (Inv T k))) (oI B (fun r H => (cd_money x = 0 ∧ r = (ptF T (biF T x (k 0)) (k 0)) ∧ GW D B ad (Vw cy de ad S n (T) (k) 0 X) H) ∨ (∃ (t9 : Nat), cd_money x = t9 ∧ ¬ t9 = 0 ∧ GW D B ad (Vw cy de ad S n T k (nI t9) X) H))) 0 0 (AB B) := by
  refine E_met (own := RX7) rfl rfl (Nat.le_of_ble_eq_true rfl) ?_
  intro p e s m below meth c hC hr hlk hnm hG h0 ls hl
  have hx := hC.x
  have hb := hC.b
  have hS : va_S (AB B) s.heap s.heap [] := va_S.rf
  have hl : lo ls 2 [some (.ref (ad 13 0 0)), some (.int x)] := lo_of hl
  have hI := h0
  obtain ⟨hCI, hD0, hD1, hD2, hB01, hF30, hK8, hMK, hU1, hU2, hS10, hEO, hCF, hFT, hME, hYR, hEK, hLA⟩ := h0
  obtain ⟨hW, hNE, hCH, hBL⟩ := hCI
  have hW9 := hW
  obtain ⟨hB0, hB1, hB2, hB3, hB4, hB5, hB6, hB7, hKI, hEI, hKY⟩ := hW9
  have hMB : MB k := ⟨hB0, hB1, hB2, hB3⟩
  have hKYm : KYm T k := hKY
  refine o_aload_n hx hb dX7_points_0 hl rfl ?_
  refine o_iload_n hx hb dX7_points_1 hl rfl ?_
  refine k_X7_isNoLand hC hS hG trivial ml_X7_90 ⟨Nat.le_of_ble_eq_true rfl, Nat.le_of_ble_eq_true rfl⟩ hl.1 (Nat.le_of_ble_eq_true rfl) dX7_points_2 ⟨Nat.le_of_ble_eq_true rfl, Nat.le_of_ble_eq_true rfl⟩ (fun h2 => ?_) (fun h2 => ?_)
  · skip
    refine lv_iconst (v := 1) hx hb dX7_points_5 (by decide) ?_
    refine k_X7_isThrown hC hS hG (by first | exact Or.inl rfl | exact Or.inr rfl) ml_X7_94 ⟨Nat.le_of_ble_eq_true rfl, Nat.le_of_ble_eq_true rfl⟩ hl.1 (Nat.le_of_ble_eq_true rfl) dX7_points_6 ⟨Nat.le_of_ble_eq_true rfl, Nat.le_of_ble_eq_true rfl⟩ (fun h6_0 H locs hG hS => ?_) (fun h6_0 H locs hG hS => ?_)
    · skip
      refine lv_if_eq (tgt := 16) hx hb dX7_points_9 (by decide) (fun h9 => ?_) (fun h9 => ?_)
      · exact absurd h9 (by decide)
      · skip
        refine lv_iconst (v := 0) hx hb dX7_points_12 (by decide) ?_
        refine lv_goto (tgt := 25) hx hb dX7_points_13 (by decide) ?_
        exact R_I hC hS hr hlk rfl (by first | exact Or.inr ⟨1, (by simp only [cd_money]; exact cif_f h2), (by decide), hG⟩ | exact Or.inl ⟨(by simp only [cd_money]; exact cif_t (Classical.not_not.mp h2)), (by rfl), (by exact hG)⟩) (Nat.le_of_ble_eq_true rfl) (Nat.le_of_ble_eq_true rfl) dX7_points_25
    · skip
      exact absurd h6_0 (by decide)
  · skip
    refine lv_iconst (v := 1) hx hb dX7_points_5 (by decide) ?_
    refine k_X7_isThrown hC hS hG (by first | exact Or.inl rfl | exact Or.inr rfl) ml_X7_94 ⟨Nat.le_of_ble_eq_true rfl, Nat.le_of_ble_eq_true rfl⟩ hl.1 (Nat.le_of_ble_eq_true rfl) dX7_points_6 ⟨Nat.le_of_ble_eq_true rfl, Nat.le_of_ble_eq_true rfl⟩ (fun h6_0 H locs hG hS => ?_) (fun h6_0 H locs hG hS => ?_)
    · skip
      exact absurd h6_0 (by decide)
    · skip
      refine lv_if_eq (tgt := 16) hx hb dX7_points_9 (by decide) (fun h9 => ?_) (fun h9 => ?_)
      · skip
        refine o_aload_n hx hb dX7_points_16 hl rfl ?_
        refine o_aload_n hx hb dX7_points_17 hl rfl ?_
        refine o_iload_n hx hb dX7_points_18 hl rfl ?_
        refine k_X7_floorOf hC hS hG hMB ml_X7_181 ⟨Nat.le_of_ble_eq_true rfl, Nat.le_of_ble_eq_true rfl⟩ hl.1 (Nat.le_of_ble_eq_true rfl) dX7_points_19 ⟨Nat.le_of_ble_eq_true rfl, Nat.le_of_ble_eq_true rfl⟩ ?_
        refine k_X7_pointsOf hC hS hG hMB ml_X7_172 ⟨Nat.le_of_ble_eq_true rfl, Nat.le_of_ble_eq_true rfl⟩ hl.1 (Nat.le_of_ble_eq_true rfl) dX7_points_22 ⟨Nat.le_of_ble_eq_true rfl, Nat.le_of_ble_eq_true rfl⟩ ?_
        exact R_I hC hS hr hlk rfl (by first | exact Or.inr ⟨1, (by simp only [cd_money]; exact cif_f h2), (by decide), hG⟩ | exact Or.inl ⟨(by simp only [cd_money]; exact cif_t (Classical.not_not.mp h2)), (by rfl), (by exact hG)⟩) (Nat.le_of_ble_eq_true rfl) (Nat.le_of_ble_eq_true rfl) dX7_points_25
      · exact absurd h9 (by decide)
theorem k_X7_points {p : Program} {l : Launch} {e : Env} {R : Room} {s : State} {m : MethodId} {args : Array Value} {below : List Frame} {meth : Method} {c : Code} {H : Heap} {locs : List Loc} {cells slots : Nat} {Q : State → Prop} {cc : ByteArray} {pc nL : Nat} {ls : Array Slot} {rest : List Value} {own : String} {D : va_G} {cy : Nat → ClassId} {sa : Nat → Nat} {de B : Nat} {ad : Ad} {S : St} {n : Nat → Nat} {T : St} {k : Nat → Nat} {th : Int32} {X : Rl} {x : Int32}  (hC : Cx p m c cc nL s args own D cy sa de B) (hS : va_S (AB B) s.heap H locs) (hG : GW D B ad (Vw cy de ad S n T k th X) H) (h0 : Inv T k)  {idx : Nat} (wl : Cond.methodLink own idx yX7_points ∈ G0) (hR : 2 + 1 ≤ R.frames ∧ 8 + (2 + 11) + 42 ≤ R.locals) (hsz : ls.size = nL) (hst : (rest.map fun v => v.category).sum ≤ 8) (hdg : decode cc pc = .ok (.invokevirtual idx, 3)) (hcs : cells + 0 ≤ R.cells ∧ slots + 0 ≤ R.slots) (k0 : (cd_money x = 0) → ∀ (H1 : Heap) (locs1 : List Loc), GW D B ad (Vw cy de ad S n (T) (k) 0 X) H1 → va_S (AB B) s.heap H1 locs1 → W p l e R s m args below meth c H1 locs1 cells slots Q (F0 m (pc + 3) ls (.int (ptF T (biF T x (k 0)) (k 0)) :: rest))) (k1 : ∀ (r9 : Int32), ∀ (t9 : Nat), (cd_money x = t9) → (¬ t9 = 0) → ∀ (H1 : Heap) (locs1 : List Loc), GW D B ad (Vw cy de ad S n T k (nI t9) X) H1 → va_S (AB B) s.heap H1 locs1 → W p l e R s m args below meth c H1 locs1 cells slots Q (F0 m (pc + 3) ls (.int r9 :: rest))) : W p l e R s m args below meth c H locs cells slots Q (F0 m pc ls (.int x :: .ref (ad 13 0 0) :: rest)) :=
  va_calli (rV hC hS hG h0 (As := [.int x]) (c_X7_points l) ⟨rfl, rfl⟩ wl im_X7_points sl_X7_X7_points in_X7 cd_X7_points (n := 1) (by decide +kernel) hR (recv hC hG (q := (RX7, TX7, 26)) rfl V_model) rfl hsz hst rfl hdg hcs) hS (fun _ _ h => h) (fun _ h => h) (fun r u t H1 locs1 ht _ hr hB _ _ hS1 => by
      subst hr
      have hB9 := hB; try dsimp only at hB9
      rw [ht] at hB9
      rcases hB9 with ⟨q0, rfl, hG1⟩ | ⟨t9, q0, q1, hG1⟩
      · exact k0 q0 _ _ hG1 hS1
      · exact k1 r t9 q0 q1 _ _ hG1 hS1)
set_option maxHeartbeats 4000000 in
set_option maxRecDepth 100000 in
theorem c_X7_isSound (l : Launch) {D : va_G} {cy : Nat → ClassId} {sa : Nat → Nat} {de B : Nat} {ad : Ad} {S : St} {n : Nat → Nat} {T : St} {k : Nat → Nat} {th : Int32} {X : Rl}   : Met l yX7_isSound (Cond.code yX7_isSound cX7_isSound 1 (Option.some Jvm.ClassFile.FieldType.boolean) :: G0) ({ frames := 0, cells := 0, slots := 0, locals := 0 } : Room) (va_Pc [.ref (ad 13 0 0)] (PW D cy sa de B ad (Vw cy de ad S n T k th X) (True))) (oI B (fun r H => (r = 1 ∧ GW D B ad (Vw cy de ad S n T k 0 X) H))) 0 0 (AB B) := by
  refine E_met (own := RX7) rfl rfl (Nat.le_of_ble_eq_true rfl) ?_
  intro p e s m below meth c hC hr hlk hnm hG h0 ls hl
  have hx := hC.x
  have hb := hC.b
  have hS : va_S (AB B) s.heap s.heap [] := va_S.rf
  have hl : lo ls 1 [some (.ref (ad 13 0 0))] := lo_of hl
  refine o_aload_n hx hb dX7_isSound_0 hl rfl ?_
  refine lv_iconst (v := 0) hx hb dX7_isSound_1 (by decide) ?_
  refine g_put hC hG hS us_X7 tyX7_ok nmX7 rfl 25 (by decide) fl_X7_76 rfl V_model rfl rfl (Nat.le_of_ble_eq_true rfl) P_thrown dX7_isSound_2 (fun H locs hG hS => ?_)
  refine lv_iconst (v := 1) hx hb dX7_isSound_5 (by decide) ?_
  exact R_I hC hS hr hlk rfl (⟨rfl, hG⟩) (Nat.le_of_ble_eq_true rfl) (Nat.le_of_ble_eq_true rfl) dX7_isSound_6
theorem k_X7_isSound {p : Program} {l : Launch} {e : Env} {R : Room} {s : State} {m : MethodId} {args : Array Value} {below : List Frame} {meth : Method} {c : Code} {H : Heap} {locs : List Loc} {cells slots : Nat} {Q : State → Prop} {cc : ByteArray} {pc nL : Nat} {ls : Array Slot} {rest : List Value} {own : String} {D : va_G} {cy : Nat → ClassId} {sa : Nat → Nat} {de B : Nat} {ad : Ad} {S : St} {n : Nat → Nat} {T : St} {k : Nat → Nat} {th : Int32} {X : Rl}   (hC : Cx p m c cc nL s args own D cy sa de B) (hS : va_S (AB B) s.heap H locs) (hG : GW D B ad (Vw cy de ad S n T k th X) H) (h0 : True)  {idx : Nat} (wl : Cond.methodLink own idx yX7_isSound ∈ G0) (hR : 0 + 1 ≤ R.frames ∧ 8 + (1 + 11) + 0 ≤ R.locals) (hsz : ls.size = nL) (hst : (rest.map fun v => v.category).sum ≤ 8) (hdg : decode cc pc = .ok (.invokevirtual idx, 3)) (hcs : cells + 0 ≤ R.cells ∧ slots + 0 ≤ R.slots) (k0 : ∀ (H1 : Heap) (locs1 : List Loc), GW D B ad (Vw cy de ad S n T k 0 X) H1 → va_S (AB B) s.heap H1 locs1 → W p l e R s m args below meth c H1 locs1 cells slots Q (F0 m (pc + 3) ls (.int 1 :: rest))) : W p l e R s m args below meth c H locs cells slots Q (F0 m pc ls (.ref (ad 13 0 0) :: rest)) :=
  va_calli (rV hC hS hG h0 (As := []) (c_X7_isSound l) ⟨rfl, rfl⟩ wl im_X7_isSound sl_X7_X7_isSound in_X7 cd_X7_isSound (n := 0) (by decide +kernel) hR (recv hC hG (q := (RX7, TX7, 26)) rfl V_model) rfl hsz hst rfl hdg hcs) hS (fun _ _ h => h) (fun _ h => h) (fun r u t H1 locs1 ht _ hr hB _ _ hS1 => by
      subst hr
      have hB9 := hB; try dsimp only at hB9
      rw [ht] at hB9
      rcases hB9 with ⟨rfl, hG1⟩
      · exact k0 _ _ hG1 hS1)
