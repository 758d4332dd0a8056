set_option maxHeartbeats 4000000 in
set_option maxRecDepth 100000 in
theorem c_X7_init (l : Launch) {D : va_G} {cy : Nat → ClassId} {sa : Nat → Nat} {de B : Nat} {ad : Ad} {S : St} {n : Nat → Nat} {X : Rl} {b : Nat}  : Met l yX7_init (Cond.code yX7_init cX7_init 3 (Option.none : Option Jvm.ClassFile.FieldType) :: G0) ({ frames := 1, cells := 108, slots := 950, locals := 30 } : Room) (va_Pc [.ref b] (fun U => (PW D cy sa de B ad (up3 (Yw cy de ad S n X) 13 0 0 (some (.inr (8, [.null, .null, .null, .null, .null, .null, .null, .null, .null, .null, .null, .null, .null, .null, .null, .null, .null, .null, .null, .null, .int 0, .int 0, .int 0, .int 0, .int 0, .int 0])))) (ad 13 0 0 = b)) U ∧ va_AR .int U ∧ va_AR .boolean U)) (oV B (fun H => ∃ ad9, (∀ t, t < 13 ∨ 16 ≤ t → ad9 t = ad t) ∧ ad9 13 0 0 = b ∧ GW D B ad9 (Vw cy de ad9 S n (mR 8) (fun _ => 0) 0 X) H)) 108 950 (AB B) := by
  refine E_met2 (own := RX7) rfl rfl (Nat.le_of_ble_eq_true rfl) ?_
  intro p e s m below meth c hC hr hlk hnm hG h0 hAR hBR ls hl
  have hx := hC.x
  have hb := hC.b
  have hS : va_S (AB B) s.heap s.heap [] := va_S.rf
  have hl : lo ls 3 [some (.ref b), none, none] := lo_of hl
  have hAd := h0
  have hG : GW D B ad (mW cy ad (Yw cy de ad S n X) (mO ad 0) 0) s.heap := by rw [← mW_0]; exact hG
  obtain ⟨Y, hYd⟩ : ∃ z, z = Yw cy de ad S n X := ⟨_, rfl⟩
  rw [← hYd] at hG
  have hY14 : ∀ f, Y 14 f 0 = none := fun f => by rw [hYd]; rfl
  have hY15 : ∀ f x, Y 15 f x = none := fun f x => by rw [hYd]; rfl
  have gL : ∀ t, t < 13 ∨ 16 ≤ t → ad t = ad t := fun _ _ => rfl
  refine o_aload_n hx hb dX7_init_0 hl rfl ?_
  refine o_oinit hC ml_X7_1 hl.1 (Nat.le_of_ble_eq_true rfl) (Nat.le_of_ble_eq_true rfl) dX7_init_1 ?_
  refine o_aload_n hx hb dX7_init_4 hl rfl ?_
  refine lv_bipush (v := 16) hx hb dX7_init_5 (by decide) ?_
  refine g_newa hC hG hS (ty := .int) rfl (cA := cy 0) (hC.K.2 0 _ rfl).2 ac_80 (a0 := (16, .inl (fun _ => 0))) rfl (by decide) (by decide) (by decide) (Nat.le_of_ble_eq_true rfl) (Nat.le_of_ble_eq_true rfl) 14 0 0 (mW_14 (hY14 0)) dX7_init_7 (fun q0 H hG hS => ?_)
  have hG : GW D B (up3 ad 14 0 0 q0) (mW cy (up3 ad 14 0 0 q0) Y (mO ad 0) (0 + 1)) H := Eq.mp (congrArg (fun V : Rl => GW D B (up3 ad 14 0 0 q0) V H) (mW_new (q := q0) (e := eI (cy 0) 16 (fun _ => 0)) rfl (fun _ => rfl) (hY15 0))) hG
  obtain ⟨ad_0, had_0⟩ : ∃ z, z = up3 ad 14 0 0 q0 := ⟨_, rfl⟩
  rw [← had_0] at hG
  have q_0 : ad_0 14 0 0 = q0 := by rw [had_0]; exact up3_self
  have b_0 : ad_0 13 0 0 = b := by rw [had_0]; exact (up3_ne (by omega)).trans hAd
  have g_0 : ∀ t, t < 13 ∨ 16 ≤ t → ad_0 t = ad t := fun t ht => by rw [had_0]; exact (up3_c (by omega)).trans (gL t ht)
  have o_0 : mO ad_0 0 = mO ad 0 := mO_ad (fun f hf => by rw [had_0]; exact up3_ne (by omega))
  rw [← o_0] at hG
  refine bn_e q_0 b_0 ?_
  refine g_putF (ci := 8) hC hnm hG hS us_X7 tyX7_ok nmX7 rfl 0 (by decide) fl_X7_9 rfl rfl mW_13 rfl rfl (Nat.le_of_ble_eq_true rfl) mW_put dX7_init_9 (fun H locs hG hS => ?_)
  have hG : GW D B ad_0 (mW cy ad_0 Y (mO ad_0 1) 1) H := hG
  refine o_aload_n hx hb dX7_init_12 hl rfl ?_
  refine lv_bipush (v := 16) hx hb dX7_init_13 (by decide) ?_
  refine lv_iconst (v := 5) hx hb dX7_init_15 (by decide) ?_
  refine g_mnew (j := 1) (N := 16) (K := 5) hC hG hS (ty := .int) cl_X7_13 hAR ac_80 7 0 rfl rfl (fun _ z => nomatch z) (by decide) (by decide) (by decide) (by decide) (by decide) (by decide) (by decide) rfl rfl (Nat.le_of_ble_eq_true rfl) (Nat.le_of_ble_eq_true rfl) (fun _ => rfl) (fun _ => rfl) (hY15 1) (hY14 1) dX7_init_16 (fun q1 H hq hG hS => ?_)
  obtain ⟨ad_1, had_1⟩ : ∃ z, z = adR ad_0 1 q1 := ⟨_, rfl⟩
  rw [← had_1] at hG hq
  have q_1 : ad_1 14 1 0 = q1 := hq.symm
  have b_1 : ad_1 13 0 0 = b := by rw [had_1]; exact (show adR ad_0 1 q1 13 0 0 = ad_0 13 0 0 from by unfold adR; rw [if_neg (by omega), if_neg (by omega)]).trans b_0
  have g_1 : ∀ t, t < 13 ∨ 16 ≤ t → ad_1 t = ad t := fun t ht => by rw [had_1]; exact (show adR ad_0 1 q1 t = ad_0 t from funext fun i => funext fun c => by unfold adR; rw [if_neg (by omega), if_neg (by omega)]).trans (g_0 t ht)
  have o_1 : mO ad_1 1 = mO ad_0 1 := mO_ad (fun f hf => by rw [had_1]; unfold adR; rw [if_neg (by omega), if_neg (by omega)])
  rw [← o_1] at hG
  refine bn_e q_1 b_1 ?_
  refine g_putF (ci := 8) hC hnm hG hS us_X7 tyX7_ok nmX7 rfl 1 (by decide) fl_X7_15 rfl rfl mW_13 rfl rfl (Nat.le_of_ble_eq_true rfl) mW_put dX7_init_20 (fun H locs hG hS => ?_)
  have hG : GW D B ad_1 (mW cy ad_1 Y (mO ad_1 2) 2) H := hG
  refine o_aload_n hx hb dX7_init_23 hl rfl ?_
  refine lv_bipush (v := 16) hx hb dX7_init_24 (by decide) ?_
  refine lv_iconst (v := 5) hx hb dX7_init_26 (by decide) ?_
  refine g_mnew (j := 2) (N := 16) (K := 5) hC hG hS (ty := .int) cl_X7_13 hAR ac_80 7 0 rfl rfl (fun _ z => nomatch z) (by decide) (by decide) (by decide) (by decide) (by decide) (by decide) (by decide) rfl rfl (Nat.le_of_ble_eq_true rfl) (Nat.le_of_ble_eq_true rfl) (fun _ => rfl) (fun _ => rfl) (hY15 2) (hY14 2) dX7_init_27 (fun q2 H hq hG hS => ?_)
  obtain ⟨ad_2, had_2⟩ : ∃ z, z = adR ad_1 2 q2 := ⟨_, rfl⟩
  rw [← had_2] at hG hq
  have q_2 : ad_2 14 2 0 = q2 := hq.symm
  have b_2 : ad_2 13 0 0 = b := by rw [had_2]; exact (show adR ad_1 2 q2 13 0 0 = ad_1 13 0 0 from by unfold adR; rw [if_neg (by omega), if_neg (by omega)]).trans b_1
  have g_2 : ∀ t, t < 13 ∨ 16 ≤ t → ad_2 t = ad t := fun t ht => by rw [had_2]; exact (show adR ad_1 2 q2 t = ad_1 t from funext fun i => funext fun c => by unfold adR; rw [if_neg (by omega), if_neg (by omega)]).trans (g_1 t ht)
  have o_2 : mO ad_2 2 = mO ad_1 2 := mO_ad (fun f hf => by rw [had_2]; unfold adR; rw [if_neg (by omega), if_neg (by omega)])
  rw [← o_2] at hG
  refine bn_e q_2 b_2 ?_
  refine g_putF (ci := 8) hC hnm hG hS us_X7 tyX7_ok nmX7 rfl 2 (by decide) fl_X7_18 rfl rfl mW_13 rfl rfl (Nat.le_of_ble_eq_true rfl) mW_put dX7_init_31 (fun H locs hG hS => ?_)
  have hG : GW D B ad_2 (mW cy ad_2 Y (mO ad_2 3) 3) H := hG
  refine o_aload_n hx hb dX7_init_34 hl rfl ?_
  refine lv_bipush (v := 16) hx hb dX7_init_35 (by decide) ?_
  refine lv_iconst (v := 5) hx hb dX7_init_37 (by decide) ?_
  refine g_mnew (j := 3) (N := 16) (K := 5) hC hG hS (ty := .int) cl_X7_13 hAR ac_80 7 0 rfl rfl (fun _ z => nomatch z) (by decide) (by decide) (by decide) (by decide) (by decide) (by decide) (by decide) rfl rfl (Nat.le_of_ble_eq_true rfl) (Nat.le_of_ble_eq_true rfl) (fun _ => rfl) (fun _ => rfl) (hY15 3) (hY14 3) dX7_init_38 (fun q3 H hq hG hS => ?_)
  obtain ⟨ad_3, had_3⟩ : ∃ z, z = adR ad_2 3 q3 := ⟨_, rfl⟩
  rw [← had_3] at hG hq
  have q_3 : ad_3 14 3 0 = q3 := hq.symm
  have b_3 : ad_3 13 0 0 = b := by rw [had_3]; exact (show adR ad_2 3 q3 13 0 0 = ad_2 13 0 0 from by unfold adR; rw [if_neg (by omega), if_neg (by omega)]).trans b_2
  have g_3 : ∀ t, t < 13 ∨ 16 ≤ t → ad_3 t = ad t := fun t ht => by rw [had_3]; exact (show adR ad_2 3 q3 t = ad_2 t from funext fun i => funext fun c => by unfold adR; rw [if_neg (by omega), if_neg (by omega)]).trans (g_2 t ht)
  have o_3 : mO ad_3 3 = mO ad_2 3 := mO_ad (fun f hf => by rw [had_3]; unfold adR; rw [if_neg (by omega), if_neg (by omega)])
  rw [← o_3] at hG
  refine bn_e q_3 b_3 ?_
  refine g_putF (ci := 8) hC hnm hG hS us_X7 tyX7_ok nmX7 rfl 3 (by decide) fl_X7_21 rfl rfl mW_13 rfl rfl (Nat.le_of_ble_eq_true rfl) mW_put dX7_init_42 (fun H locs hG hS => ?_)
  have hG : GW D B ad_3 (mW cy ad_3 Y (mO ad_3 4) 4) H := hG
  refine o_aload_n hx hb dX7_init_45 hl rfl ?_
  refine lv_bipush (v := 16) hx hb dX7_init_46 (by decide) ?_
  refine g_newa hC hG hS (ty := .boolean) rfl (cA := cy 1) (hC.K.2 1 _ rfl).2 ac_1088 (a0 := (16, .inl (fun _ => 0))) rfl (by decide) (by decide) (by decide) (Nat.le_of_ble_eq_true rfl) (Nat.le_of_ble_eq_true rfl) 14 4 0 (mW_14 (hY14 4)) dX7_init_48 (fun q4 H hG hS => ?_)
  have hG : GW D B (up3 ad_3 14 4 0 q4) (mW cy (up3 ad_3 14 4 0 q4) Y (mO ad_3 4) (4 + 1)) H := Eq.mp (congrArg (fun V : Rl => GW D B (up3 ad_3 14 4 0 q4) V H) (mW_new (q := q4) (e := eI (cy 1) 16 (fun _ => 0)) rfl (fun _ => rfl) (hY15 4))) hG
  obtain ⟨ad_4, had_4⟩ : ∃ z, z = up3 ad_3 14 4 0 q4 := ⟨_, rfl⟩
  rw [← had_4] at hG
  have q_4 : ad_4 14 4 0 = q4 := by rw [had_4]; exact up3_self
  have b_4 : ad_4 13 0 0 = b := by rw [had_4]; exact (up3_ne (by omega)).trans b_3
  have g_4 : ∀ t, t < 13 ∨ 16 ≤ t → ad_4 t = ad t := fun t ht => by rw [had_4]; exact (up3_c (by omega)).trans (g_3 t ht)
  have o_4 : mO ad_4 4 = mO ad_3 4 := mO_ad (fun f hf => by rw [had_4]; exact up3_ne (by omega))
  rw [← o_4] at hG
  refine bn_e q_4 b_4 ?_
  refine g_putF (ci := 8) hC hnm hG hS us_X7 tyX7_ok nmX7 rfl 4 (by decide) fl_X7_24 rfl rfl mW_13 rfl rfl (Nat.le_of_ble_eq_true rfl) mW_put dX7_init_50 (fun H locs hG hS => ?_)
  have hG : GW D B ad_4 (mW cy ad_4 Y (mO ad_4 5) 5) H := hG
  refine o_aload_n hx hb dX7_init_53 hl rfl ?_
  refine lv_bipush (v := 16) hx hb dX7_init_54 (by decide) ?_
  refine g_newa hC hG hS (ty := .char) rfl (cA := cy 2) (hC.K.2 2 _ rfl).2 ac_1089 (a0 := (16, .inl (fun _ => 0))) rfl (by decide) (by decide) (by decide) (Nat.le_of_ble_eq_true rfl) (Nat.le_of_ble_eq_true rfl) 14 5 0 (mW_14 (hY14 5)) dX7_init_56 (fun q5 H hG hS => ?_)
  have hG : GW D B (up3 ad_4 14 5 0 q5) (mW cy (up3 ad_4 14 5 0 q5) Y (mO ad_4 5) (5 + 1)) H := Eq.mp (congrArg (fun V : Rl => GW D B (up3 ad_4 14 5 0 q5) V H) (mW_new (q := q5) (e := eI (cy 2) 16 (fun _ => 0)) rfl (fun _ => rfl) (hY15 5))) hG
  obtain ⟨ad_5, had_5⟩ : ∃ z, z = up3 ad_4 14 5 0 q5 := ⟨_, rfl⟩
  rw [← had_5] at hG
  have q_5 : ad_5 14 5 0 = q5 := by rw [had_5]; exact up3_self
  have b_5 : ad_5 13 0 0 = b := by rw [had_5]; exact (up3_ne (by omega)).trans b_4
  have g_5 : ∀ t, t < 13 ∨ 16 ≤ t → ad_5 t = ad t := fun t ht => by rw [had_5]; exact (up3_c (by omega)).trans (g_4 t ht)
  have o_5 : mO ad_5 5 = mO ad_4 5 := mO_ad (fun f hf => by rw [had_5]; exact up3_ne (by omega))
  rw [← o_5] at hG
  refine bn_e q_5 b_5 ?_
  refine g_putF (ci := 8) hC hnm hG hS us_X7 tyX7_ok nmX7 rfl 5 (by decide) fl_X7_28 rfl rfl mW_13 rfl rfl (Nat.le_of_ble_eq_true rfl) mW_put dX7_init_58 (fun H locs hG hS => ?_)
  have hG : GW D B ad_5 (mW cy ad_5 Y (mO ad_5 6) 6) H := hG
  refine o_aload_n hx hb dX7_init_61 hl rfl ?_
  refine lv_bipush (v := 16) hx hb dX7_init_62 (by decide) ?_
  refine g_newa hC hG hS (ty := .int) rfl (cA := cy 0) (hC.K.2 0 _ rfl).2 ac_80 (a0 := (16, .inl (fun _ => 0))) rfl (by decide) (by decide) (by decide) (Nat.le_of_ble_eq_true rfl) (Nat.le_of_ble_eq_true rfl) 14 6 0 (mW_14 (hY14 6)) dX7_init_64 (fun q6 H hG hS => ?_)
  have hG : GW D B (up3 ad_5 14 6 0 q6) (mW cy (up3 ad_5 14 6 0 q6) Y (mO ad_5 6) (6 + 1)) H := Eq.mp (congrArg (fun V : Rl => GW D B (up3 ad_5 14 6 0 q6) V H) (mW_new (q := q6) (e := eI (cy 0) 16 (fun _ => 0)) rfl (fun _ => rfl) (hY15 6))) hG
  obtain ⟨ad_6, had_6⟩ : ∃ z, z = up3 ad_5 14 6 0 q6 := ⟨_, rfl⟩
  rw [← had_6] at hG
  have q_6 : ad_6 14 6 0 = q6 := by rw [had_6]; exact up3_self
  have b_6 : ad_6 13 0 0 = b := by rw [had_6]; exact (up3_ne (by omega)).trans b_5
  have g_6 : ∀ t, t < 13 ∨ 16 ≤ t → ad_6 t = ad t := fun t ht => by rw [had_6]; exact (up3_c (by omega)).trans (g_5 t ht)
  have o_6 : mO ad_6 6 = mO ad_5 6 := mO_ad (fun f hf => by rw [had_6]; exact up3_ne (by omega))
  rw [← o_6] at hG
  refine bn_e q_6 b_6 ?_
  refine g_putF (ci := 8) hC hnm hG hS us_X7 tyX7_ok nmX7 rfl 6 (by decide) fl_X7_32 rfl rfl mW_13 rfl rfl (Nat.le_of_ble_eq_true rfl) mW_put dX7_init_66 (fun H locs hG hS => ?_)
  have hG : GW D B ad_6 (mW cy ad_6 Y (mO ad_6 7) 7) H := hG
  refine o_aload_n hx hb dX7_init_69 hl rfl ?_
  refine lv_bipush (v := 16) hx hb dX7_init_70 (by decide) ?_
  refine g_newa hC hG hS (ty := .int) rfl (cA := cy 0) (hC.K.2 0 _ rfl).2 ac_80 (a0 := (16, .inl (fun _ => 0))) rfl (by decide) (by decide) (by decide) (Nat.le_of_ble_eq_true rfl) (Nat.le_of_ble_eq_true rfl) 14 7 0 (mW_14 (hY14 7)) dX7_init_72 (fun q7 H hG hS => ?_)
  have hG : GW D B (up3 ad_6 14 7 0 q7) (mW cy (up3 ad_6 14 7 0 q7) Y (mO ad_6 7) (7 + 1)) H := Eq.mp (congrArg (fun V : Rl => GW D B (up3 ad_6 14 7 0 q7) V H) (mW_new (q := q7) (e := eI (cy 0) 16 (fun _ => 0)) rfl (fun _ => rfl) (hY15 7))) hG
  obtain ⟨ad_7, had_7⟩ : ∃ z, z = up3 ad_6 14 7 0 q7 := ⟨_, rfl⟩
  rw [← had_7] at hG
  have q_7 : ad_7 14 7 0 = q7 := by rw [had_7]; exact up3_self
  have b_7 : ad_7 13 0 0 = b := by rw [had_7]; exact (up3_ne (by omega)).trans b_6
  have g_7 : ∀ t, t < 13 ∨ 16 ≤ t → ad_7 t = ad t := fun t ht => by rw [had_7]; exact (up3_c (by omega)).trans (g_6 t ht)
  have o_7 : mO ad_7 7 = mO ad_6 7 := mO_ad (fun f hf => by rw [had_7]; exact up3_ne (by omega))
  rw [← o_7] at hG
  refine bn_e q_7 b_7 ?_
  refine g_putF (ci := 8) hC hnm hG hS us_X7 tyX7_ok nmX7 rfl 7 (by decide) fl_X7_35 rfl rfl mW_13 rfl rfl (Nat.le_of_ble_eq_true rfl) mW_put dX7_init_74 (fun H locs hG hS => ?_)
  have hG : GW D B ad_7 (mW cy ad_7 Y (mO ad_7 8) 8) H := hG
  refine o_aload_n hx hb dX7_init_77 hl rfl ?_
  refine lv_bipush (v := 16) hx hb dX7_init_78 (by decide) ?_
  refine g_newa hC hG hS (ty := .boolean) rfl (cA := cy 1) (hC.K.2 1 _ rfl).2 ac_1088 (a0 := (16, .inl (fun _ => 0))) rfl (by decide) (by decide) (by decide) (Nat.le_of_ble_eq_true rfl) (Nat.le_of_ble_eq_true rfl) 14 8 0 (mW_14 (hY14 8)) dX7_init_80 (fun q8 H hG hS => ?_)
  have hG : GW D B (up3 ad_7 14 8 0 q8) (mW cy (up3 ad_7 14 8 0 q8) Y (mO ad_7 8) (8 + 1)) H := Eq.mp (congrArg (fun V : Rl => GW D B (up3 ad_7 14 8 0 q8) V H) (mW_new (q := q8) (e := eI (cy 1) 16 (fun _ => 0)) rfl (fun _ => rfl) (hY15 8))) hG
  obtain ⟨ad_8, had_8⟩ : ∃ z, z = up3 ad_7 14 8 0 q8 := ⟨_, rfl⟩
  rw [← had_8] at hG
  have q_8 : ad_8 14 8 0 = q8 := by rw [had_8]; exact up3_self
  have b_8 : ad_8 13 0 0 = b := by rw [had_8]; exact (up3_ne (by omega)).trans b_7
  have g_8 : ∀ t, t < 13 ∨ 16 ≤ t → ad_8 t = ad t := fun t ht => by rw [had_8]; exact (up3_c (by omega)).trans (g_7 t ht)
  have o_8 : mO ad_8 8 = mO ad_7 8 := mO_ad (fun f hf => by rw [had_8]; exact up3_ne (by omega))
  rw [← o_8] at hG
  refine bn_e q_8 b_8 ?_
  refine g_putF (ci := 8) hC hnm hG hS us_X7 tyX7_ok nmX7 rfl 8 (by decide) fl_X7_38 rfl rfl mW_13 rfl rfl (Nat.le_of_ble_eq_true rfl) mW_put dX7_init_82 (fun H locs hG hS => ?_)
  have hG : GW D B ad_8 (mW cy ad_8 Y (mO ad_8 9) 9) H := hG
  refine o_aload_n hx hb dX7_init_85 hl rfl ?_
  refine lv_bipush (v := 8) hx hb dX7_init_86 (by decide) ?_
  refine g_newa hC hG hS (ty := .int) rfl (cA := cy 0) (hC.K.2 0 _ rfl).2 ac_80 (a0 := (8, .inl (fun _ => 0))) rfl (by decide) (by decide) (by decide) (Nat.le_of_ble_eq_true rfl) (Nat.le_of_ble_eq_true rfl) 14 9 0 (mW_14 (hY14 9)) dX7_init_88 (fun q9 H hG hS => ?_)
  have hG : GW D B (up3 ad_8 14 9 0 q9) (mW cy (up3 ad_8 14 9 0 q9) Y (mO ad_8 9) (9 + 1)) H := Eq.mp (congrArg (fun V : Rl => GW D B (up3 ad_8 14 9 0 q9) V H) (mW_new (q := q9) (e := eI (cy 0) 8 (fun _ => 0)) rfl (fun _ => rfl) (hY15 9))) hG
  obtain ⟨ad_9, had_9⟩ : ∃ z, z = up3 ad_8 14 9 0 q9 := ⟨_, rfl⟩
  rw [← had_9] at hG
  have q_9 : ad_9 14 9 0 = q9 := by rw [had_9]; exact up3_self
  have b_9 : ad_9 13 0 0 = b := by rw [had_9]; exact (up3_ne (by omega)).trans b_8
  have g_9 : ∀ t, t < 13 ∨ 16 ≤ t → ad_9 t = ad t := fun t ht => by rw [had_9]; exact (up3_c (by omega)).trans (g_8 t ht)
  have o_9 : mO ad_9 9 = mO ad_8 9 := mO_ad (fun f hf => by rw [had_9]; exact up3_ne (by omega))
  rw [← o_9] at hG
  refine bn_e q_9 b_9 ?_
  refine g_putF (ci := 8) hC hnm hG hS us_X7 tyX7_ok nmX7 rfl 9 (by decide) fl_X7_41 rfl rfl mW_13 rfl rfl (Nat.le_of_ble_eq_true rfl) mW_put dX7_init_90 (fun H locs hG hS => ?_)
  have hG : GW D B ad_9 (mW cy ad_9 Y (mO ad_9 10) 10) H := hG
  refine o_aload_n hx hb dX7_init_93 hl rfl ?_
  refine lv_bipush (v := 8) hx hb dX7_init_94 (by decide) ?_
  refine lv_iconst (v := 4) hx hb dX7_init_96 (by decide) ?_
  refine g_mnew (j := 10) (N := 8) (K := 4) hC hG hS (ty := .int) cl_X7_13 hAR ac_80 7 0 rfl rfl (fun _ z => nomatch z) (by decide) (by decide) (by decide) (by decide) (by decide) (by decide) (by decide) rfl rfl (Nat.le_of_ble_eq_true rfl) (Nat.le_of_ble_eq_true rfl) (fun _ => rfl) (fun _ => rfl) (hY15 10) (hY14 10) dX7_init_97 (fun q10 H hq hG hS => ?_)
  obtain ⟨ad_10, had_10⟩ : ∃ z, z = adR ad_9 10 q10 := ⟨_, rfl⟩
  rw [← had_10] at hG hq
  have q_10 : ad_10 14 10 0 = q10 := hq.symm
  have b_10 : ad_10 13 0 0 = b := by rw [had_10]; exact (show adR ad_9 10 q10 13 0 0 = ad_9 13 0 0 from by unfold adR; rw [if_neg (by omega), if_neg (by omega)]).trans b_9
  have g_10 : ∀ t, t < 13 ∨ 16 ≤ t → ad_10 t = ad t := fun t ht => by rw [had_10]; exact (show adR ad_9 10 q10 t = ad_9 t from funext fun i => funext fun c => by unfold adR; rw [if_neg (by omega), if_neg (by omega)]).trans (g_9 t ht)
  have o_10 : mO ad_10 10 = mO ad_9 10 := mO_ad (fun f hf => by rw [had_10]; unfold adR; rw [if_neg (by omega), if_neg (by omega)])
  rw [← o_10] at hG
  refine bn_e q_10 b_10 ?_
  refine g_putF (ci := 8) hC hnm hG hS us_X7 tyX7_ok nmX7 rfl 10 (by decide) fl_X7_44 rfl rfl mW_13 rfl rfl (Nat.le_of_ble_eq_true rfl) mW_put dX7_init_101 (fun H locs hG hS => ?_)
  have hG : GW D B ad_10 (mW cy ad_10 Y (mO ad_10 11) 11) H := hG
  refine o_aload_n hx hb dX7_init_104 hl rfl ?_
  refine lv_bipush (v := 8) hx hb dX7_init_105 (by decide) ?_
  refine g_newa hC hG hS (ty := .int) rfl (cA := cy 0) (hC.K.2 0 _ rfl).2 ac_80 (a0 := (8, .inl (fun _ => 0))) rfl (by decide) (by decide) (by decide) (Nat.le_of_ble_eq_true rfl) (Nat.le_of_ble_eq_true rfl) 14 11 0 (mW_14 (hY14 11)) dX7_init_107 (fun q11 H hG hS => ?_)
  have hG : GW D B (up3 ad_10 14 11 0 q11) (mW cy (up3 ad_10 14 11 0 q11) Y (mO ad_10 11) (11 + 1)) H := Eq.mp (congrArg (fun V : Rl => GW D B (up3 ad_10 14 11 0 q11) V H) (mW_new (q := q11) (e := eI (cy 0) 8 (fun _ => 0)) rfl (fun _ => rfl) (hY15 11))) hG
  obtain ⟨ad_11, had_11⟩ : ∃ z, z = up3 ad_10 14 11 0 q11 := ⟨_, rfl⟩
  rw [← had_11] at hG
  have q_11 : ad_11 14 11 0 = q11 := by rw [had_11]; exact up3_self
  have b_11 : ad_11 13 0 0 = b := by rw [had_11]; exact (up3_ne (by omega)).trans b_10
  have g_11 : ∀ t, t < 13 ∨ 16 ≤ t → ad_11 t = ad t := fun t ht => by rw [had_11]; exact (up3_c (by omega)).trans (g_10 t ht)
  have o_11 : mO ad_11 11 = mO ad_10 11 := mO_ad (fun f hf => by rw [had_11]; exact up3_ne (by omega))
  rw [← o_11] at hG
  refine bn_e q_11 b_11 ?_
  refine g_putF (ci := 8) hC hnm hG hS us_X7 tyX7_ok nmX7 rfl 11 (by decide) fl_X7_47 rfl rfl mW_13 rfl rfl (Nat.le_of_ble_eq_true rfl) mW_put dX7_init_109 (fun H locs hG hS => ?_)
  have hG : GW D B ad_11 (mW cy ad_11 Y (mO ad_11 12) 12) H := hG
  refine o_aload_n hx hb dX7_init_112 hl rfl ?_
  refine lv_bipush (v := 6) hx hb dX7_init_113 (by decide) ?_
  refine g_newa hC hG hS (ty := .int) rfl (cA := cy 0) (hC.K.2 0 _ rfl).2 ac_80 (a0 := (6, .inl (fun _ => 0))) rfl (by decide) (by decide) (by decide) (Nat.le_of_ble_eq_true rfl) (Nat.le_of_ble_eq_true rfl) 14 12 0 (mW_14 (hY14 12)) dX7_init_115 (fun q12 H hG hS => ?_)
  obtain ⟨adM, hadM⟩ : ∃ z, z = up3 ad_11 14 12 0 q12 := ⟨_, rfl⟩
  rw [← hadM] at hG
  have eM : adM 14 12 0 = q12 := by rw [hadM]; exact up3_self
  refine lv_dup hx hb dX7_init_117 rfl ?_
  refine lv_iconst (v := 0) hx hb dX7_init_118 (by decide) ?_
  refine lv_sipush (v := 1000) hx hb dX7_init_119 (by decide) ?_
  refine bn_2 eM ?_
  refine g_iast hC hG hS up3_self 0 rfl (by decide) (by decide) up3_up3 dX7_init_122 (fun H locs hG hS => ?_)
  refine lv_dup hx hb dX7_init_123 rfl ?_
  refine lv_iconst (v := 1) hx hb dX7_init_124 (by decide) ?_
  refine lv_sipush (v := 1000) hx hb dX7_init_125 (by decide) ?_
  refine bn_2 eM ?_
  refine g_iast hC hG hS up3_self 1 rfl (by decide) (by decide) up3_up3 dX7_init_128 (fun H locs hG hS => ?_)
  refine lv_dup hx hb dX7_init_129 rfl ?_
  refine lv_iconst (v := 2) hx hb dX7_init_130 (by decide) ?_
  refine lv_sipush (v := 1000) hx hb dX7_init_131 (by decide) ?_
  refine bn_2 eM ?_
  refine g_iast hC hG hS up3_self 2 rfl (by decide) (by decide) up3_up3 dX7_init_134 (fun H locs hG hS => ?_)
  refine lv_dup hx hb dX7_init_135 rfl ?_
  refine lv_iconst (v := 3) hx hb dX7_init_136 (by decide) ?_
  refine lv_sipush (v := 1000) hx hb dX7_init_137 (by decide) ?_
  refine bn_2 eM ?_
  refine g_iast hC hG hS up3_self 3 rfl (by decide) (by decide) up3_up3 dX7_init_140 (fun H locs hG hS => ?_)
  refine lv_dup hx hb dX7_init_141 rfl ?_
  refine lv_iconst (v := 4) hx hb dX7_init_142 (by decide) ?_
  refine lv_sipush (v := 1000) hx hb dX7_init_143 (by decide) ?_
  refine bn_2 eM ?_
  refine g_iast hC hG hS up3_self 4 rfl (by decide) (by decide) up3_up3 dX7_init_146 (fun H locs hG hS => ?_)
  refine lv_dup hx hb dX7_init_147 rfl ?_
  refine lv_iconst (v := 5) hx hb dX7_init_148 (by decide) ?_
  refine lv_sipush (v := 1000) hx hb dX7_init_149 (by decide) ?_
  refine bn_2 eM ?_
  refine g_iast hC hG hS up3_self 5 rfl (by decide) (by decide) up3_up3 dX7_init_152 (fun H locs hG hS => ?_)
  have hG := hG.arr (g := fun x => Z0 15 x 0) up3_self (fun x hx => (by decide : ∀ x, x < 6 → (upd (upd (upd (upd (upd (upd (fun _ => (0 : Int32)) 0 1000) 1 1000) 2 1000) 3 1000) 4 1000) 5 1000) x = 1000) x hx)
  rw [up3_up3, hadM] at hG
  have hG : GW D B (up3 ad_11 14 12 0 q12) (mW cy (up3 ad_11 14 12 0 q12) Y (mO ad_11 12) (12 + 1)) H := Eq.mp (congrArg (fun V : Rl => GW D B (up3 ad_11 14 12 0 q12) V H) (mW_new (q := q12) (e := eI (cy 0) 6 (fun x => Z0 15 x 0)) rfl (fun _ => rfl) (hY15 12))) hG
  obtain ⟨ad_12, had_12⟩ : ∃ z, z = up3 ad_11 14 12 0 q12 := ⟨_, rfl⟩
  rw [← had_12] at hG
  have q_12 : ad_12 14 12 0 = q12 := by rw [had_12]; exact up3_self
  have b_12 : ad_12 13 0 0 = b := by rw [had_12]; exact (up3_ne (by omega)).trans b_11
  have g_12 : ∀ t, t < 13 ∨ 16 ≤ t → ad_12 t = ad t := fun t ht => by rw [had_12]; exact (up3_c (by omega)).trans (g_11 t ht)
  have o_12 : mO ad_12 12 = mO ad_11 12 := mO_ad (fun f hf => by rw [had_12]; exact up3_ne (by omega))
  rw [← o_12] at hG
  refine bn_e q_12 b_12 ?_
  refine g_putF (ci := 8) hC hnm hG hS us_X7 tyX7_ok nmX7 rfl 12 (by decide) fl_X7_50 rfl rfl mW_13 rfl rfl (Nat.le_of_ble_eq_true rfl) mW_put dX7_init_153 (fun H locs hG hS => ?_)
  have hG : GW D B ad_12 (mW cy ad_12 Y (mO ad_12 13) 13) H := hG
  refine o_aload_n hx hb dX7_init_156 hl rfl ?_
  refine lv_bipush (v := 8) hx hb dX7_init_157 (by decide) ?_
  refine g_newa hC hG hS (ty := .int) rfl (cA := cy 0) (hC.K.2 0 _ rfl).2 ac_80 (a0 := (8, .inl (fun _ => 0))) rfl (by decide) (by decide) (by decide) (Nat.le_of_ble_eq_true rfl) (Nat.le_of_ble_eq_true rfl) 14 13 0 (mW_14 (hY14 13)) dX7_init_159 (fun q13 H hG hS => ?_)
  have hG : GW D B (up3 ad_12 14 13 0 q13) (mW cy (up3 ad_12 14 13 0 q13) Y (mO ad_12 13) (13 + 1)) H := Eq.mp (congrArg (fun V : Rl => GW D B (up3 ad_12 14 13 0 q13) V H) (mW_new (q := q13) (e := eI (cy 0) 8 (fun _ => 0)) rfl (fun _ => rfl) (hY15 13))) hG
  obtain ⟨ad_13, had_13⟩ : ∃ z, z = up3 ad_12 14 13 0 q13 := ⟨_, rfl⟩
  rw [← had_13] at hG
  have q_13 : ad_13 14 13 0 = q13 := by rw [had_13]; exact up3_self
  have b_13 : ad_13 13 0 0 = b := by rw [had_13]; exact (up3_ne (by omega)).trans b_12
  have g_13 : ∀ t, t < 13 ∨ 16 ≤ t → ad_13 t = ad t := fun t ht => by rw [had_13]; exact (up3_c (by omega)).trans (g_12 t ht)
  have o_13 : mO ad_13 13 = mO ad_12 13 := mO_ad (fun f hf => by rw [had_13]; exact up3_ne (by omega))
  rw [← o_13] at hG
  refine bn_e q_13 b_13 ?_
  refine g_putF (ci := 8) hC hnm hG hS us_X7 tyX7_ok nmX7 rfl 13 (by decide) fl_X7_53 rfl rfl mW_13 rfl rfl (Nat.le_of_ble_eq_true rfl) mW_put dX7_init_161 (fun H locs hG hS => ?_)
  have hG : GW D B ad_13 (mW cy ad_13 Y (mO ad_13 14) 14) H := hG
  refine o_aload_n hx hb dX7_init_164 hl rfl ?_
  refine lv_bipush (v := 8) hx hb dX7_init_165 (by decide) ?_
  refine lv_bipush (v := 8) hx hb dX7_init_167 (by decide) ?_
  refine g_mnew (j := 14) (N := 8) (K := 8) hC hG hS (ty := .int) cl_X7_13 hAR ac_80 7 0 rfl rfl (fun _ z => nomatch z) (by decide) (by decide) (by decide) (by decide) (by decide) (by decide) (by decide) rfl rfl (Nat.le_of_ble_eq_true rfl) (Nat.le_of_ble_eq_true rfl) (fun _ => rfl) (fun _ => rfl) (hY15 14) (hY14 14) dX7_init_169 (fun q14 H hq hG hS => ?_)
  obtain ⟨ad_14, had_14⟩ : ∃ z, z = adR ad_13 14 q14 := ⟨_, rfl⟩
  rw [← had_14] at hG hq
  have q_14 : ad_14 14 14 0 = q14 := hq.symm
  have b_14 : ad_14 13 0 0 = b := by rw [had_14]; exact (show adR ad_13 14 q14 13 0 0 = ad_13 13 0 0 from by unfold adR; rw [if_neg (by omega), if_neg (by omega)]).trans b_13
  have g_14 : ∀ t, t < 13 ∨ 16 ≤ t → ad_14 t = ad t := fun t ht => by rw [had_14]; exact (show adR ad_13 14 q14 t = ad_13 t from funext fun i => funext fun c => by unfold adR; rw [if_neg (by omega), if_neg (by omega)]).trans (g_13 t ht)
  have o_14 : mO ad_14 14 = mO ad_13 14 := mO_ad (fun f hf => by rw [had_14]; unfold adR; rw [if_neg (by omega), if_neg (by omega)])
  rw [← o_14] at hG
  refine bn_e q_14 b_14 ?_
  refine g_putF (ci := 8) hC hnm hG hS us_X7 tyX7_ok nmX7 rfl 14 (by decide) fl_X7_56 rfl rfl mW_13 rfl rfl (Nat.le_of_ble_eq_true rfl) mW_put dX7_init_173 (fun H locs hG hS => ?_)
  have hG : GW D B ad_14 (mW cy ad_14 Y (mO ad_14 15) 15) H := hG
  refine o_aload_n hx hb dX7_init_176 hl rfl ?_
  refine lv_bipush (v := 8) hx hb dX7_init_177 (by decide) ?_
  refine g_newa hC hG hS (ty := .boolean) rfl (cA := cy 1) (hC.K.2 1 _ rfl).2 ac_1088 (a0 := (8, .inl (fun _ => 0))) rfl (by decide) (by decide) (by decide) (Nat.le_of_ble_eq_true rfl) (Nat.le_of_ble_eq_true rfl) 14 15 0 (mW_14 (hY14 15)) dX7_init_179 (fun q15 H hG hS => ?_)
  have hG : GW D B (up3 ad_14 14 15 0 q15) (mW cy (up3 ad_14 14 15 0 q15) Y (mO ad_14 15) (15 + 1)) H := Eq.mp (congrArg (fun V : Rl => GW D B (up3 ad_14 14 15 0 q15) V H) (mW_new (q := q15) (e := eI (cy 1) 8 (fun _ => 0)) rfl (fun _ => rfl) (hY15 15))) hG
  obtain ⟨ad_15, had_15⟩ : ∃ z, z = up3 ad_14 14 15 0 q15 := ⟨_, rfl⟩
  rw [← had_15] at hG
  have q_15 : ad_15 14 15 0 = q15 := by rw [had_15]; exact up3_self
  have b_15 : ad_15 13 0 0 = b := by rw [had_15]; exact (up3_ne (by omega)).trans b_14
  have g_15 : ∀ t, t < 13 ∨ 16 ≤ t → ad_15 t = ad t := fun t ht => by rw [had_15]; exact (up3_c (by omega)).trans (g_14 t ht)
  have o_15 : mO ad_15 15 = mO ad_14 15 := mO_ad (fun f hf => by rw [had_15]; exact up3_ne (by omega))
  rw [← o_15] at hG
  refine bn_e q_15 b_15 ?_
  refine g_putF (ci := 8) hC hnm hG hS us_X7 tyX7_ok nmX7 rfl 15 (by decide) fl_X7_59 rfl rfl mW_13 rfl rfl (Nat.le_of_ble_eq_true rfl) mW_put dX7_init_181 (fun H locs hG hS => ?_)
  have hG : GW D B ad_15 (mW cy ad_15 Y (mO ad_15 16) 16) H := hG
  refine o_aload_n hx hb dX7_init_184 hl rfl ?_
  refine lv_bipush (v := 8) hx hb dX7_init_185 (by decide) ?_
  refine g_newa hC hG hS (ty := .boolean) rfl (cA := cy 1) (hC.K.2 1 _ rfl).2 ac_1088 (a0 := (8, .inl (fun _ => 0))) rfl (by decide) (by decide) (by decide) (Nat.le_of_ble_eq_true rfl) (Nat.le_of_ble_eq_true rfl) 14 16 0 (mW_14 (hY14 16)) dX7_init_187 (fun q16 H hG hS => ?_)
  have hG : GW D B (up3 ad_15 14 16 0 q16) (mW cy (up3 ad_15 14 16 0 q16) Y (mO ad_15 16) (16 + 1)) H := Eq.mp (congrArg (fun V : Rl => GW D B (up3 ad_15 14 16 0 q16) V H) (mW_new (q := q16) (e := eI (cy 1) 8 (fun _ => 0)) rfl (fun _ => rfl) (hY15 16))) hG
  obtain ⟨ad_16, had_16⟩ : ∃ z, z = up3 ad_15 14 16 0 q16 := ⟨_, rfl⟩
  rw [← had_16] at hG
  have q_16 : ad_16 14 16 0 = q16 := by rw [had_16]; exact up3_self
  have b_16 : ad_16 13 0 0 = b := by rw [had_16]; exact (up3_ne (by omega)).trans b_15
  have g_16 : ∀ t, t < 13 ∨ 16 ≤ t → ad_16 t = ad t := fun t ht => by rw [had_16]; exact (up3_c (by omega)).trans (g_15 t ht)
  have o_16 : mO ad_16 16 = mO ad_15 16 := mO_ad (fun f hf => by rw [had_16]; exact up3_ne (by omega))
  rw [← o_16] at hG
  refine bn_e q_16 b_16 ?_
  refine g_putF (ci := 8) hC hnm hG hS us_X7 tyX7_ok nmX7 rfl 16 (by decide) fl_X7_62 rfl rfl mW_13 rfl rfl (Nat.le_of_ble_eq_true rfl) mW_put dX7_init_189 (fun H locs hG hS => ?_)
  have hG : GW D B ad_16 (mW cy ad_16 Y (mO ad_16 17) 17) H := hG
  refine o_aload_n hx hb dX7_init_192 hl rfl ?_
  refine lv_bipush (v := 8) hx hb dX7_init_193 (by decide) ?_
  refine lv_bipush (v := 16) hx hb dX7_init_195 (by decide) ?_
  refine g_mnew (j := 17) (N := 8) (K := 16) hC hG hS (ty := .int) cl_X7_13 hAR ac_80 7 0 rfl rfl (fun _ z => nomatch z) (by decide) (by decide) (by decide) (by decide) (by decide) (by decide) (by decide) rfl rfl (Nat.le_of_ble_eq_true rfl) (Nat.le_of_ble_eq_true rfl) (fun _ => rfl) (fun _ => rfl) (hY15 17) (hY14 17) dX7_init_197 (fun q17 H hq hG hS => ?_)
  obtain ⟨ad_17, had_17⟩ : ∃ z, z = adR ad_16 17 q17 := ⟨_, rfl⟩
  rw [← had_17] at hG hq
  have q_17 : ad_17 14 17 0 = q17 := hq.symm
  have b_17 : ad_17 13 0 0 = b := by rw [had_17]; exact (show adR ad_16 17 q17 13 0 0 = ad_16 13 0 0 from by unfold adR; rw [if_neg (by omega), if_neg (by omega)]).trans b_16
  have g_17 : ∀ t, t < 13 ∨ 16 ≤ t → ad_17 t = ad t := fun t ht => by rw [had_17]; exact (show adR ad_16 17 q17 t = ad_16 t from funext fun i => funext fun c => by unfold adR; rw [if_neg (by omega), if_neg (by omega)]).trans (g_16 t ht)
  have o_17 : mO ad_17 17 = mO ad_16 17 := mO_ad (fun f hf => by rw [had_17]; unfold adR; rw [if_neg (by omega), if_neg (by omega)])
  rw [← o_17] at hG
  refine bn_e q_17 b_17 ?_
  refine g_putF (ci := 8) hC hnm hG hS us_X7 tyX7_ok nmX7 rfl 17 (by decide) fl_X7_65 rfl rfl mW_13 rfl rfl (Nat.le_of_ble_eq_true rfl) mW_put dX7_init_201 (fun H locs hG hS => ?_)
  have hG : GW D B ad_17 (mW cy ad_17 Y (mO ad_17 18) 18) H := hG
  refine o_aload_n hx hb dX7_init_204 hl rfl ?_
  refine lv_bipush (v := 8) hx hb dX7_init_205 (by decide) ?_
  refine lv_bipush (v := 16) hx hb dX7_init_207 (by decide) ?_
  refine g_mnew (j := 18) (N := 8) (K := 16) hC hG hS (ty := .boolean) cl_X7_68 hBR ac_1088 8 1 rfl rfl (fun _ z => nomatch z) (by decide) (by decide) (by decide) (by decide) (by decide) (by decide) (by decide) rfl rfl (Nat.le_of_ble_eq_true rfl) (Nat.le_of_ble_eq_true rfl) (fun _ => rfl) (fun _ => rfl) (hY15 18) (hY14 18) dX7_init_209 (fun q18 H hq hG hS => ?_)
  obtain ⟨ad_18, had_18⟩ : ∃ z, z = adR ad_17 18 q18 := ⟨_, rfl⟩
  rw [← had_18] at hG hq
  have q_18 : ad_18 14 18 0 = q18 := hq.symm
  have b_18 : ad_18 13 0 0 = b := by rw [had_18]; exact (show adR ad_17 18 q18 13 0 0 = ad_17 13 0 0 from by unfold adR; rw [if_neg (by omega), if_neg (by omega)]).trans b_17
  have g_18 : ∀ t, t < 13 ∨ 16 ≤ t → ad_18 t = ad t := fun t ht => by rw [had_18]; exact (show adR ad_17 18 q18 t = ad_17 t from funext fun i => funext fun c => by unfold adR; rw [if_neg (by omega), if_neg (by omega)]).trans (g_17 t ht)
  have o_18 : mO ad_18 18 = mO ad_17 18 := mO_ad (fun f hf => by rw [had_18]; unfold adR; rw [if_neg (by omega), if_neg (by omega)])
  rw [← o_18] at hG
  refine bn_e q_18 b_18 ?_
  refine g_putF (ci := 8) hC hnm hG hS us_X7 tyX7_ok nmX7 rfl 18 (by decide) fl_X7_70 rfl rfl mW_13 rfl rfl (Nat.le_of_ble_eq_true rfl) mW_put dX7_init_213 (fun H locs hG hS => ?_)
  have hG : GW D B ad_18 (mW cy ad_18 Y (mO ad_18 19) 19) H := hG
  refine o_aload_n hx hb dX7_init_216 hl rfl ?_
  refine lv_bipush (v := 8) hx hb dX7_init_217 (by decide) ?_
  refine lv_bipush (v := 16) hx hb dX7_init_219 (by decide) ?_
  refine g_mnew (j := 19) (N := 8) (K := 16) hC hG hS (ty := .int) cl_X7_13 hAR ac_80 7 0 rfl rfl (fun _ z => nomatch z) (by decide) (by decide) (by decide) (by decide) (by decide) (by decide) (by decide) rfl rfl (Nat.le_of_ble_eq_true rfl) (Nat.le_of_ble_eq_true rfl) (fun _ => rfl) (fun _ => rfl) (hY15 19) (hY14 19) dX7_init_221 (fun q19 H hq hG hS => ?_)
  obtain ⟨ad_19, had_19⟩ : ∃ z, z = adR ad_18 19 q19 := ⟨_, rfl⟩
  rw [← had_19] at hG hq
  have q_19 : ad_19 14 19 0 = q19 := hq.symm
  have b_19 : ad_19 13 0 0 = b := by rw [had_19]; exact (show adR ad_18 19 q19 13 0 0 = ad_18 13 0 0 from by unfold adR; rw [if_neg (by omega), if_neg (by omega)]).trans b_18
  have g_19 : ∀ t, t < 13 ∨ 16 ≤ t → ad_19 t = ad t := fun t ht => by rw [had_19]; exact (show adR ad_18 19 q19 t = ad_18 t from funext fun i => funext fun c => by unfold adR; rw [if_neg (by omega), if_neg (by omega)]).trans (g_18 t ht)
  have o_19 : mO ad_19 19 = mO ad_18 19 := mO_ad (fun f hf => by rw [had_19]; unfold adR; rw [if_neg (by omega), if_neg (by omega)])
  rw [← o_19] at hG
  refine bn_e q_19 b_19 ?_
  refine g_putF (ci := 8) hC hnm hG hS us_X7 tyX7_ok nmX7 rfl 19 (by decide) fl_X7_73 rfl rfl mW_13 rfl rfl (Nat.le_of_ble_eq_true rfl) mW_put dX7_init_225 (fun H locs hG hS => ?_)
  have hG : GW D B ad_19 (mW cy ad_19 Y (mO ad_19 20) 20) H := hG
  rw [hYd] at hG
  have hG := mW_end (fun t ht => g_19 t (Or.inl ht)) hG
  obtain ⟨ad9, h9⟩ : ∃ z, z = ad_19 := ⟨_, rfl⟩
  rw [← h9] at hG g_19 b_19
  have hl : lo ls 3 [some (.ref (ad9 13 0 0)), none, none] := by rw [b_19]; exact hl
  refine lv_iconst (v := 0) hx hb dX7_init_228 (by decide) ?_
  refine o_istore_n hx hb dX7_init_229 hl (by decide) rfl (fun ls hl => ?_)
  have loop230 : ∀ (q9 : Nat) (w : Nat), w ≤ 8 ∧ 8 < w + q9 → ∀ (H : Heap) (locs : List Loc), GW D B ad9 (Vw cy de ad9 S n (mE w) (fun _ => 0) 0 X) H → va_S (AB B) s.heap H locs → ∀ ls : Array Slot, lo ls 3 [some (.ref (ad9 13 0 0)), some (.int (nI w)), none] → W p l e ({ frames := 1, cells := 108, slots := 950, locals := 30 } : Room) s m [.ref b].toArray below meth c H locs 108 950 (MQ below (oV B (fun H => ∃ ad9, (∀ t, t < 13 ∨ 16 ≤ t → ad9 t = ad t) ∧ ad9 13 0 0 = b ∧ GW D B ad9 (Vw cy de ad9 S n (mR 8) (fun _ => 0) 0 X) H)) [.ref b].toArray s 108 950 (AB B)) (F0 m 230 ls []) := by
    intro q9
    induction q9 with
    | zero => intro w hq9; exact absurd hq9 (by omega)
    | succ q9 ih230 =>
      intro w hq9  H locs hG hS ls hl
      refine o_iload_n hx hb dX7_init_230 hl rfl ?_
      refine lv_bipush (v := 8) hx hb dX7_init_231 (by decide) ?_
      refine n_icmp_ge (tgt := 298) hx hb w 8 rfl rfl (by omega) (by omega) dX7_init_233 (by decide) (fun h233 => ?_) (fun h233 => ?_)
      · skip
        refine lv_iconst (v := 0) hx hb dX7_init_298 (by decide) ?_
        refine o_istore_n hx hb dX7_init_299 hl (by decide) rfl (fun ls hl => ?_)
        have loop300 : ∀ (q9 : Nat) (u : Nat), u ≤ 8 ∧ 8 < u + q9 → ∀ (H : Heap) (locs : List Loc), GW D B ad9 (Vw cy de ad9 S n (mR u) (fun _ => 0) 0 X) H → va_S (AB B) s.heap H locs → ∀ ls : Array Slot, lo ls 3 [some (.ref (ad9 13 0 0)), some (.int (nI u)), none] → W p l e ({ frames := 1, cells := 108, slots := 950, locals := 30 } : Room) s m [.ref b].toArray below meth c H locs 108 950 (MQ below (oV B (fun H => ∃ ad9, (∀ t, t < 13 ∨ 16 ≤ t → ad9 t = ad t) ∧ ad9 13 0 0 = b ∧ GW D B ad9 (Vw cy de ad9 S n (mR 8) (fun _ => 0) 0 X) H)) [.ref b].toArray s 108 950 (AB B)) (F0 m 300 ls []) := by
          intro q9
          induction q9 with
          | zero => intro u hq9; exact absurd hq9 (by omega)
          | succ q9 ih300 =>
            intro u hq9  H locs hG hS ls hl
            refine o_iload_n hx hb dX7_init_300 hl rfl ?_
            refine lv_bipush (v := 8) hx hb dX7_init_301 (by decide) ?_
            refine n_icmp_ge (tgt := 319) hx hb u 8 rfl rfl (by omega) (by omega) dX7_init_303 (by decide) (fun h303 => ?_) (fun h303 => ?_)
            · skip
              exact R_V hC hS hr hlk (⟨ad9, g_19, b_19, by rw [show (8 : Nat) = u by omega]; exact hG⟩) (Nat.le_of_ble_eq_true rfl) (Nat.le_of_ble_eq_true rfl) dX7_init_319
            · skip
              refine o_aload_n hx hb dX7_init_306 hl rfl ?_
              refine g_get hC hG us_X7 rfl 11 (by decide) fl_X7_47 V_model rfl dX7_init_307 ?_
              refine o_iload_n hx hb dX7_init_310 hl rfl ?_
              refine lv_iconst (v := (-1)) hx hb dX7_init_311 (by decide) ?_
              refine g_iast hC hG hS V_m11 _ rfl (by omega) (by omega) P_m11 dX7_init_312 (fun H locs hG hS => ?_)
              refine o_iinc1 hx hb dX7_init_313 hl rfl (by decide) rfl (fun ls hl => ?_)
              refine lv_goto (tgt := 300) hx hb dX7_init_316 (by decide) ?_
              exact ih300 (u + 1) (by omega) H locs hG hS ls hl
        exact loop300 9 0 (by omega) H locs (by rw [show mR 0 = mE 8 from rfl, show (8 : Nat) = w by omega]; exact hG) hS ls hl
      · skip
        refine lv_iconst (v := 0) hx hb dX7_init_236 (by decide) ?_
        refine o_istore_n hx hb dX7_init_237 hl (by decide) rfl (fun ls hl => ?_)
        have loop238 : ∀ (q9 : Nat) (y : Nat), y ≤ 16 ∧ 16 < y + q9 → ∀ (H : Heap) (locs : List Loc), GW D B ad9 (Vw cy de ad9 S n (mA (mE w) w y) (fun _ => 0) 0 X) H → va_S (AB B) s.heap H locs → ∀ ls : Array Slot, lo ls 3 [some (.ref (ad9 13 0 0)), some (.int (nI w)), some (.int (nI y))] → W p l e ({ frames := 1, cells := 108, slots := 950, locals := 30 } : Room) s m [.ref b].toArray below meth c H locs 108 950 (MQ below (oV B (fun H => ∃ ad9, (∀ t, t < 13 ∨ 16 ≤ t → ad9 t = ad t) ∧ ad9 13 0 0 = b ∧ GW D B ad9 (Vw cy de ad9 S n (mR 8) (fun _ => 0) 0 X) H)) [.ref b].toArray s 108 950 (AB B)) (F0 m 238 ls []) := by
          intro q9
          induction q9 with
          | zero => intro y hq9; exact absurd hq9 (by omega)
          | succ q9 ih238 =>
            intro y hq9  H locs hG hS ls hl
            refine o_iload_n hx hb dX7_init_238 hl rfl ?_
            refine lv_bipush (v := 16) hx hb dX7_init_239 (by decide) ?_
            refine n_icmp_ge (tgt := 268) hx hb y 16 rfl rfl (by omega) (by omega) dX7_init_241 (by decide) (fun h241 => ?_) (fun h241 => ?_)
            · skip
              refine lv_iconst (v := 0) hx hb dX7_init_268 (by decide) ?_
              refine o_istore_n hx hb dX7_init_269 hl (by decide) rfl (fun ls hl => ?_)
              have loop270 : ∀ (q9 : Nat) (v : Nat), v ≤ 8 ∧ 8 < v + q9 → ∀ (H : Heap) (locs : List Loc), GW D B ad9 (Vw cy de ad9 S n (mK (mA (mE w) w 16) w v) (fun _ => 0) 0 X) H → va_S (AB B) s.heap H locs → ∀ ls : Array Slot, lo ls 3 [some (.ref (ad9 13 0 0)), some (.int (nI w)), some (.int (nI v))] → W p l e ({ frames := 1, cells := 108, slots := 950, locals := 30 } : Room) s m [.ref b].toArray below meth c H locs 108 950 (MQ below (oV B (fun H => ∃ ad9, (∀ t, t < 13 ∨ 16 ≤ t → ad9 t = ad t) ∧ ad9 13 0 0 = b ∧ GW D B ad9 (Vw cy de ad9 S n (mR 8) (fun _ => 0) 0 X) H)) [.ref b].toArray s 108 950 (AB B)) (F0 m 270 ls []) := by
                intro q9
                induction q9 with
                | zero => intro v hq9; exact absurd hq9 (by omega)
                | succ q9 ih270 =>
                  intro v hq9  H locs hG hS ls hl
                  refine o_iload_n hx hb dX7_init_270 hl rfl ?_
                  refine lv_bipush (v := 8) hx hb dX7_init_271 (by decide) ?_
                  refine n_icmp_ge (tgt := 292) hx hb v 8 rfl rfl (by omega) (by omega) dX7_init_273 (by decide) (fun h273 => ?_) (fun h273 => ?_)
                  · skip
                    refine o_iinc1 hx hb dX7_init_292 hl rfl (by decide) rfl (fun ls hl => ?_)
                    refine lv_goto (tgt := 230) hx hb dX7_init_295 (by decide) ?_
                    exact ih230 (w + 1) (by omega) H locs (by rw [show mE (w + 1) = mK (mA (mE w) w 16) w 8 from rfl, show (8 : Nat) = v by omega]; exact hG) hS ls (lo_none (i := 2) hl)
                  · skip
                    refine o_aload_n hx hb dX7_init_276 hl rfl ?_
                    refine g_get hC hG us_X7 rfl 14 (by decide) fl_X7_56 V_model rfl dX7_init_277 ?_
                    refine o_iload_n hx hb dX7_init_280 hl rfl ?_
                    refine g_aald hC hG 7 rfl rfl V_o14 _ rfl (by omega) (by omega) dX7_init_281 ?_
                    refine o_iload_n hx hb dX7_init_282 hl rfl ?_
                    refine lv_bipush (v := 100) hx hb dX7_init_283 (by decide) ?_
                    refine g_iast hC hG hS (V_r14 (by omega)) _ rfl (by omega) (by omega) (P_r14 (by omega)) dX7_init_285 (fun H locs hG hS => ?_)
                    refine o_iinc1 hx hb dX7_init_286 hl rfl (by decide) rfl (fun ls hl => ?_)
                    refine lv_goto (tgt := 270) hx hb dX7_init_289 (by decide) ?_
                    exact ih270 (v + 1) (by omega) H locs hG hS ls hl
              exact loop270 9 0 (by omega) H locs (by rw [show (16 : Nat) = y by omega]; exact hG) hS ls hl
            · skip
              refine o_aload_n hx hb dX7_init_244 hl rfl ?_
              refine g_get hC hG us_X7 rfl 17 (by decide) fl_X7_65 V_model rfl dX7_init_245 ?_
              refine o_iload_n hx hb dX7_init_248 hl rfl ?_
              refine g_aald hC hG 7 rfl rfl V_o17 _ rfl (by omega) (by omega) dX7_init_249 ?_
              refine o_iload_n hx hb dX7_init_250 hl rfl ?_
              refine lv_iconst (v := (-1)) hx hb dX7_init_251 (by decide) ?_
              refine g_iast hC hG hS (V_r17 (by omega)) _ rfl (by omega) (by omega) (P_r17 (by omega)) dX7_init_252 (fun H locs hG hS => ?_)
              refine o_aload_n hx hb dX7_init_253 hl rfl ?_
              refine g_get hC hG us_X7 rfl 19 (by decide) fl_X7_73 V_model rfl dX7_init_254 ?_
              refine o_iload_n hx hb dX7_init_257 hl rfl ?_
              refine g_aald hC hG 7 rfl rfl V_o19 _ rfl (by omega) (by omega) dX7_init_258 ?_
              refine o_iload_n hx hb dX7_init_259 hl rfl ?_
              refine lv_iconst (v := (-1)) hx hb dX7_init_260 (by decide) ?_
              refine g_iast hC hG hS (V_r19 (by omega)) _ rfl (by omega) (by omega) (P_r19 (by omega)) dX7_init_261 (fun H locs hG hS => ?_)
              refine o_iinc1 hx hb dX7_init_262 hl rfl (by decide) rfl (fun ls hl => ?_)
              refine lv_goto (tgt := 238) hx hb dX7_init_265 (by decide) ?_
              exact ih238 (y + 1) (by omega) H locs hG hS ls hl
        exact loop238 17 0 (by omega) H locs hG hS ls hl
  exact loop230 9 0 (by omega) H locs hG hS ls hl
theorem k_X7_init {p : Program} {l : Launch} {e : Env} {R : Room} {s : State} {m : MethodId} {args : Array Value} {below : List Frame} {meth : Method} {c : Code} {H : Heap} {locs : List Loc} {cells slots : Nat} {Q : State → Prop} {cc : ByteArray} {pc nL : Nat} {ls : Array Slot} {rest : List Value} {own : String} {D : va_G} {cy : Nat → ClassId} {sa : Nat → Nat} {de B : Nat} {ad : Ad} {S : St} {n : Nat → Nat} {X : Rl} {b : Nat}  (hC : Cx p m c cc nL s args own D cy sa de B) (hS : va_S (AB B) s.heap H locs) (hG : GW D B ad (up3 (Yw cy de ad S n X) 13 0 0 (some (.inr (8, [.null, .null, .null, .null, .null, .null, .null, .null, .null, .null, .null, .null, .null, .null, .null, .null, .null, .null, .null, .null, .int 0, .int 0, .int 0, .int 0, .int 0, .int 0])))) H) (h0 : ad 13 0 0 = b)  (hAR : va_AR .int s) (hBR : va_AR .boolean s) {idx : Nat} (wl : Cond.methodLink own idx yX7_init ∈ G0) (hR : 1 + 1 ≤ R.frames ∧ 8 + (3 + 11) + 30 ≤ R.locals) (hsz : ls.size = nL) (hst : (rest.map fun v => v.category).sum ≤ 8) (hdg : decode cc pc = .ok (.invokespecial idx, 3)) (hcs : cells + 108 ≤ R.cells ∧ slots + 950 ≤ R.slots) (kk : ∀ (H1 : Heap) (locs1 : List Loc), ((fun H => ∃ ad9, (∀ t, t < 13 ∨ 16 ≤ t → ad9 t = ad t) ∧ ad9 13 0 0 = b ∧ GW D B ad9 (Vw cy de ad9 S n (mR 8) (fun _ => 0) 0 X) H)) H1 → va_S (AB B) s.heap H1 locs1 → W p l e R s m args below meth c H1 locs1 (cells + 108) (slots + 950) Q (F0 m (pc + 3) ls (rest))) : W p l e R s m args below meth c H locs cells slots Q (F0 m pc ls (.ref b :: rest)) :=
  va_callv (va_runI (As := []) (rest := rest) hC.1 (c_X7_init l) (cwI 0 hC.t (goodG cd_X7_init) rfl rfl rfl (hC.t _ in_X7) (hC.t _ wl) (hC.t _ im_X7_init) rfl (by decide +kernel) hR) ⟨blind2, fun U hU hW => ⟨rfl, ⟨hC.w hS hG hU hW, h0⟩, hAR.moved hW.alike, hBR.moved hW.alike⟩⟩ rfl rfl hsz rfl (lv_room hst) hdg hcs) hS (fun _ _ h => h) (fun _ h => h) (fun u t H1 locs1 ht _ _ hB _ _ hS1 => kk H1 locs1 (by (try dsimp only at hB); rw [ht] at hB; exact hB) hS1)
