set_option maxHeartbeats 4000000 in
set_option maxRecDepth 100000 in
theorem c_X0_init (l : Launch) {D : va_G} {cy : Nat → ClassId} {sa : Nat → Nat} {de B : Nat} {ad : Ad} {X : Rl} {b i : Nat} {x y : Int32}  : Met l yX0_init (Cond.code yX0_init cX0_init 3 (Option.none : Option Jvm.ClassFile.FieldType) :: G0) ({ frames := 2, cells := 6, slots := 18, locals := 35 } : Room) (va_Pc [.ref b, .int x, .int y] (PW D cy sa de B ad (X) (ad 3 i 0 = b ∧ X 3 i 0 = some (.inr (1, [.int 0, .int 0, .null, .null, .null, .int 0, .int 0, .null, .int 0, .int 0])) ∧ X 4 i 0 = none ∧ X 4 i 1 = none ∧ X 4 i 2 = none ∧ X 5 i 0 = none ∧ X 5 i 1 = none ∧ X 5 i 2 = none))) (oV B (fun H => ∃ qa qb qc qd qe qf, GW D B (up3 (up3 (up3 (up3 (up3 (up3 (ad) 4 i 0 qa) 5 i 0 qb) 4 i 1 qc) 5 i 1 qd) 4 i 2 qe) 5 i 2 qf) (up3 (up3 (up3 (up3 (up3 (up3 (up3 (X) 4 i 0 (some (.inr (6, [.ref qb])))) 5 i 0 (some (eI (cy 0) 5 (fillv 100 0 5)))) 3 i 0 (some (.inr (1, [.int x, .int y, .ref qa, .ref qc, .ref qe, .int 0, .int 45, .null, .int 0, .int 0])))) 4 i 1 (some (.inr (6, [.ref qd])))) 5 i 1 (some (eI (cy 0) 5 (fillv (-1) 0 5)))) 4 i 2 (some (.inr (6, [.ref qf])))) 5 i 2 (some (eI (cy 0) 5 (fillv 100 0 5)))) H)) 6 18 (AB B) := by
  refine E_met (own := RX0) rfl rfl (Nat.le_of_ble_eq_true rfl) ?_
  intro p e s m below meth c hC hr hlk hnm hG h0 ls hl
  have hx := hC.x
  have hb := hC.b
  have hS : va_S (AB B) s.heap s.heap [] := va_S.rf
  have hl : lo ls 3 [some (.ref b), some (.int x), some (.int y)] := lo_of hl
  obtain ⟨hbb, hO, h40, h41, h42, h50, h51, h52⟩ := h0
  refine o_aload_n hx hb dX0_init_0 hl rfl ?_
  refine o_oinit hC ml_X0_3 hl.1 (Nat.le_of_ble_eq_true rfl) (Nat.le_of_ble_eq_true rfl) dX0_init_1 ?_
  refine o_aload_n hx hb dX0_init_4 hl rfl ?_
  refine g_new hC hG hS us_X5 tyX5_ok cl_X0_9 is_X5 in_X5 (ci := 6) rfl (fs := [.null]) vp_fresh_X5 (Nat.le_of_ble_eq_true rfl) (Nat.le_of_ble_eq_true rfl) 4 i 0 (show (X) 4 i 0 = none from h40) dX0_init_5 (fun q5 H hG hS => ?_)
  obtain ⟨ad1, had1⟩ : ∃ z, z = up3 ad 4 i 0 q5 := ⟨_, rfl⟩
  rw [← had1] at hG
  have ead1_3_i_0 : ad1 3 i 0 = b := by rw [had1]; exact (up3_ne (by omega)).trans hbb
  have ead1_4_i_0 : ad1 4 i 0 = q5 := by rw [had1]; exact up3_self
  refine lv_dup hx hb dX0_init_8 rfl ?_
  refine lv_bipush (v := 100) hx hb dX0_init_9 (by decide) ?_
  refine k_X5_init (t := 4) (i := i) (j := 0) (t2 := 5) (i2 := i) (j2 := 0) hC hS hG ⟨ead1_4_i_0, (show (up3 (X) 4 i 0 (some (.inr (6, [.null])))) 4 i 0 = some (.inr (6, [.null])) from up3_self), (show (up3 (X) 4 i 0 (some (.inr (6, [.null])))) 5 i 0 = none from (up3_ne (by omega)).trans (h50))⟩ ml_X0_11 ⟨Nat.le_of_ble_eq_true rfl, Nat.le_of_ble_eq_true rfl⟩ hl.1 (Nat.le_of_ble_eq_true rfl) dX0_init_11 ⟨Nat.le_of_ble_eq_true rfl, Nat.le_of_ble_eq_true rfl⟩ (fun H locs hG hS => ?_)
  obtain ⟨q11a, hG⟩ := hG
  obtain ⟨ad2, had2⟩ : ∃ z, z = up3 ad1 5 i 0 q11a := ⟨_, rfl⟩
  rw [← had2] at hG
  have ead2_3_i_0 : ad2 3 i 0 = b := by rw [had2]; exact (up3_ne (by omega)).trans ead1_3_i_0
  have ead2_4_i_0 : ad2 4 i 0 = q5 := by rw [had2]; exact (up3_ne (by omega)).trans ead1_4_i_0
  have ead2_5_i_0 : ad2 5 i 0 = q11a := by rw [had2]; exact up3_self
  rw [up3_up3] at hG
  refine bn_1 ead2_3_i_0 ?_
  refine g_putF hC hnm hG hS us_X0 tyX0_ok nmX0 rfl 2 (by decide) fl_X0_14 rfl rfl (show (up3 (up3 (X) 4 i 0 (some (.inr (6, [.ref q11a])))) 5 i 0 (some (eI (cy 0) 5 (fillv 100 0 5)))) 3 i 0 = some (.inr (1, [.int 0, .int 0, .null, .null, .null, .int 0, .int 0, .null, .int 0, .int 0])) from (up3_ne (by omega)).trans ((up3_ne (by omega)).trans (hO))) rfl rfl (Nat.le_of_ble_eq_true rfl) rfl dX0_init_14 (fun H locs hG hS => ?_)
  refine o_aload_n hx hb dX0_init_17 hl rfl ?_
  refine g_new hC hG hS us_X5 tyX5_ok cl_X0_9 is_X5 in_X5 (ci := 6) rfl (fs := [.null]) vp_fresh_X5 (Nat.le_of_ble_eq_true rfl) (Nat.le_of_ble_eq_true rfl) 4 i 1 (show (up3 (up3 (up3 (X) 4 i 0 (some (.inr (6, [.ref q11a])))) 5 i 0 (some (eI (cy 0) 5 (fillv 100 0 5)))) 3 i 0 (some (.inr (1, [.int 0, .int 0, .ref q5, .null, .null, .int 0, .int 0, .null, .int 0, .int 0])))) 4 i 1 = none from (up3_ne (by omega)).trans ((up3_ne (by omega)).trans ((up3_ne (by omega)).trans (h41)))) dX0_init_18 (fun q18 H hG hS => ?_)
  obtain ⟨ad3, had3⟩ : ∃ z, z = up3 ad2 4 i 1 q18 := ⟨_, rfl⟩
  rw [← had3] at hG
  have ead3_3_i_0 : ad3 3 i 0 = b := by rw [had3]; exact (up3_ne (by omega)).trans ead2_3_i_0
  have ead3_4_i_0 : ad3 4 i 0 = q5 := by rw [had3]; exact (up3_ne (by omega)).trans ead2_4_i_0
  have ead3_5_i_0 : ad3 5 i 0 = q11a := by rw [had3]; exact (up3_ne (by omega)).trans ead2_5_i_0
  have ead3_4_i_1 : ad3 4 i 1 = q18 := by rw [had3]; exact up3_self
  refine lv_dup hx hb dX0_init_21 rfl ?_
  refine lv_iconst (v := (-1)) hx hb dX0_init_22 (by decide) ?_
  refine k_X5_init (t := 4) (i := i) (j := 1) (t2 := 5) (i2 := i) (j2 := 1) hC hS hG ⟨ead3_4_i_1, (show (up3 (up3 (up3 (up3 (X) 4 i 0 (some (.inr (6, [.ref q11a])))) 5 i 0 (some (eI (cy 0) 5 (fillv 100 0 5)))) 3 i 0 (some (.inr (1, [.int 0, .int 0, .ref q5, .null, .null, .int 0, .int 0, .null, .int 0, .int 0])))) 4 i 1 (some (.inr (6, [.null])))) 4 i 1 = some (.inr (6, [.null])) from up3_self), (show (up3 (up3 (up3 (up3 (X) 4 i 0 (some (.inr (6, [.ref q11a])))) 5 i 0 (some (eI (cy 0) 5 (fillv 100 0 5)))) 3 i 0 (some (.inr (1, [.int 0, .int 0, .ref q5, .null, .null, .int 0, .int 0, .null, .int 0, .int 0])))) 4 i 1 (some (.inr (6, [.null])))) 5 i 1 = none from (up3_ne (by omega)).trans ((up3_ne (by omega)).trans ((up3_ne (by omega)).trans ((up3_ne (by omega)).trans (h51)))))⟩ ml_X0_11 ⟨Nat.le_of_ble_eq_true rfl, Nat.le_of_ble_eq_true rfl⟩ hl.1 (Nat.le_of_ble_eq_true rfl) dX0_init_23 ⟨Nat.le_of_ble_eq_true rfl, Nat.le_of_ble_eq_true rfl⟩ (fun H locs hG hS => ?_)
  obtain ⟨q23a, hG⟩ := hG
  obtain ⟨ad4, had4⟩ : ∃ z, z = up3 ad3 5 i 1 q23a := ⟨_, rfl⟩
  rw [← had4] at hG
  have ead4_3_i_0 : ad4 3 i 0 = b := by rw [had4]; exact (up3_ne (by omega)).trans ead3_3_i_0
  have ead4_4_i_0 : ad4 4 i 0 = q5 := by rw [had4]; exact (up3_ne (by omega)).trans ead3_4_i_0
  have ead4_5_i_0 : ad4 5 i 0 = q11a := by rw [had4]; exact (up3_ne (by omega)).trans ead3_5_i_0
  have ead4_4_i_1 : ad4 4 i 1 = q18 := by rw [had4]; exact (up3_ne (by omega)).trans ead3_4_i_1
  have ead4_5_i_1 : ad4 5 i 1 = q23a := by rw [had4]; exact up3_self
  rw [up3_up3] at hG
  refine bn_1 ead4_3_i_0 ?_
  refine g_putF hC hnm hG hS us_X0 tyX0_ok nmX0 rfl 3 (by decide) fl_X0_20 rfl rfl (show (up3 (up3 (up3 (up3 (up3 (X) 4 i 0 (some (.inr (6, [.ref q11a])))) 5 i 0 (some (eI (cy 0) 5 (fillv 100 0 5)))) 3 i 0 (some (.inr (1, [.int 0, .int 0, .ref q5, .null, .null, .int 0, .int 0, .null, .int 0, .int 0])))) 4 i 1 (some (.inr (6, [.ref q23a])))) 5 i 1 (some (eI (cy 0) 5 (fillv (-1) 0 5)))) 3 i 0 = some (.inr (1, [.int 0, .int 0, .ref q5, .null, .null, .int 0, .int 0, .null, .int 0, .int 0])) from (up3_ne (by omega)).trans ((up3_ne (by omega)).trans (up3_self))) rfl rfl (Nat.le_of_ble_eq_true rfl) ((up3_comm (by omega)).trans (congrArg (fun z9 : Rl => up3 z9 5 i 1 (some ((eI (cy 0) 5 (fillv (-1) 0 5)) : va_E))) ((up3_comm (by omega)).trans (congrArg (fun z9 : Rl => up3 z9 4 i 1 (some ((.inr (6, [.ref q23a])) : va_E))) (up3_up3))))) dX0_init_26 (fun H locs hG hS => ?_)
  refine o_aload_n hx hb dX0_init_29 hl rfl ?_
  refine g_new hC hG hS us_X5 tyX5_ok cl_X0_9 is_X5 in_X5 (ci := 6) rfl (fs := [.null]) vp_fresh_X5 (Nat.le_of_ble_eq_true rfl) (Nat.le_of_ble_eq_true rfl) 4 i 2 (show (up3 (up3 (up3 (up3 (up3 (X) 4 i 0 (some (.inr (6, [.ref q11a])))) 5 i 0 (some (eI (cy 0) 5 (fillv 100 0 5)))) 3 i 0 (some (.inr (1, [.int 0, .int 0, .ref q5, .ref q18, .null, .int 0, .int 0, .null, .int 0, .int 0])))) 4 i 1 (some (.inr (6, [.ref q23a])))) 5 i 1 (some (eI (cy 0) 5 (fillv (-1) 0 5)))) 4 i 2 = none from (up3_ne (by omega)).trans ((up3_ne (by omega)).trans ((up3_ne (by omega)).trans ((up3_ne (by omega)).trans ((up3_ne (by omega)).trans (h42)))))) dX0_init_30 (fun q30 H hG hS => ?_)
  obtain ⟨ad5, had5⟩ : ∃ z, z = up3 ad4 4 i 2 q30 := ⟨_, rfl⟩
  rw [← had5] at hG
  have ead5_3_i_0 : ad5 3 i 0 = b := by rw [had5]; exact (up3_ne (by omega)).trans ead4_3_i_0
  have ead5_4_i_0 : ad5 4 i 0 = q5 := by rw [had5]; exact (up3_ne (by omega)).trans ead4_4_i_0
  have ead5_5_i_0 : ad5 5 i 0 = q11a := by rw [had5]; exact (up3_ne (by omega)).trans ead4_5_i_0
  have ead5_4_i_1 : ad5 4 i 1 = q18 := by rw [had5]; exact (up3_ne (by omega)).trans ead4_4_i_1
  have ead5_5_i_1 : ad5 5 i 1 = q23a := by rw [had5]; exact (up3_ne (by omega)).trans ead4_5_i_1
  have ead5_4_i_2 : ad5 4 i 2 = q30 := by rw [had5]; exact up3_self
  refine lv_dup hx hb dX0_init_33 rfl ?_
  refine lv_bipush (v := 100) hx hb dX0_init_34 (by decide) ?_
  refine k_X5_init (t := 4) (i := i) (j := 2) (t2 := 5) (i2 := i) (j2 := 2) hC hS hG ⟨ead5_4_i_2, (show (up3 (up3 (up3 (up3 (up3 (up3 (X) 4 i 0 (some (.inr (6, [.ref q11a])))) 5 i 0 (some (eI (cy 0) 5 (fillv 100 0 5)))) 3 i 0 (some (.inr (1, [.int 0, .int 0, .ref q5, .ref q18, .null, .int 0, .int 0, .null, .int 0, .int 0])))) 4 i 1 (some (.inr (6, [.ref q23a])))) 5 i 1 (some (eI (cy 0) 5 (fillv (-1) 0 5)))) 4 i 2 (some (.inr (6, [.null])))) 4 i 2 = some (.inr (6, [.null])) from up3_self), (show (up3 (up3 (up3 (up3 (up3 (up3 (X) 4 i 0 (some (.inr (6, [.ref q11a])))) 5 i 0 (some (eI (cy 0) 5 (fillv 100 0 5)))) 3 i 0 (some (.inr (1, [.int 0, .int 0, .ref q5, .ref q18, .null, .int 0, .int 0, .null, .int 0, .int 0])))) 4 i 1 (some (.inr (6, [.ref q23a])))) 5 i 1 (some (eI (cy 0) 5 (fillv (-1) 0 5)))) 4 i 2 (some (.inr (6, [.null])))) 5 i 2 = none from (up3_ne (by omega)).trans ((up3_ne (by omega)).trans ((up3_ne (by omega)).trans ((up3_ne (by omega)).trans ((up3_ne (by omega)).trans ((up3_ne (by omega)).trans (h52)))))))⟩ ml_X0_11 ⟨Nat.le_of_ble_eq_true rfl, Nat.le_of_ble_eq_true rfl⟩ hl.1 (Nat.le_of_ble_eq_true rfl) dX0_init_36 ⟨Nat.le_of_ble_eq_true rfl, Nat.le_of_ble_eq_true rfl⟩ (fun H locs hG hS => ?_)
  obtain ⟨q36a, hG⟩ := hG
  obtain ⟨ad6, had6⟩ : ∃ z, z = up3 ad5 5 i 2 q36a := ⟨_, rfl⟩
  rw [← had6] at hG
  have ead6_3_i_0 : ad6 3 i 0 = b := by rw [had6]; exact (up3_ne (by omega)).trans ead5_3_i_0
  have ead6_4_i_0 : ad6 4 i 0 = q5 := by rw [had6]; exact (up3_ne (by omega)).trans ead5_4_i_0
  have ead6_5_i_0 : ad6 5 i 0 = q11a := by rw [had6]; exact (up3_ne (by omega)).trans ead5_5_i_0
  have ead6_4_i_1 : ad6 4 i 1 = q18 := by rw [had6]; exact (up3_ne (by omega)).trans ead5_4_i_1
  have ead6_5_i_1 : ad6 5 i 1 = q23a := by rw [had6]; exact (up3_ne (by omega)).trans ead5_5_i_1
  have ead6_4_i_2 : ad6 4 i 2 = q30 := by rw [had6]; exact (up3_ne (by omega)).trans ead5_4_i_2
  have ead6_5_i_2 : ad6 5 i 2 = q36a := by rw [had6]; exact up3_self
  rw [up3_up3] at hG
  refine bn_1 ead6_3_i_0 ?_
  refine g_putF hC hnm hG hS us_X0 tyX0_ok nmX0 rfl 4 (by decide) fl_X0_23 rfl rfl (show (up3 (up3 (up3 (up3 (up3 (up3 (up3 (X) 4 i 0 (some (.inr (6, [.ref q11a])))) 5 i 0 (some (eI (cy 0) 5 (fillv 100 0 5)))) 3 i 0 (some (.inr (1, [.int 0, .int 0, .ref q5, .ref q18, .null, .int 0, .int 0, .null, .int 0, .int 0])))) 4 i 1 (some (.inr (6, [.ref q23a])))) 5 i 1 (some (eI (cy 0) 5 (fillv (-1) 0 5)))) 4 i 2 (some (.inr (6, [.ref q36a])))) 5 i 2 (some (eI (cy 0) 5 (fillv 100 0 5)))) 3 i 0 = some (.inr (1, [.int 0, .int 0, .ref q5, .ref q18, .null, .int 0, .int 0, .null, .int 0, .int 0])) from (up3_ne (by omega)).trans ((up3_ne (by omega)).trans ((up3_ne (by omega)).trans ((up3_ne (by omega)).trans (up3_self))))) rfl rfl (Nat.le_of_ble_eq_true rfl) ((up3_comm (by omega)).trans (congrArg (fun z9 : Rl => up3 z9 5 i 2 (some ((eI (cy 0) 5 (fillv 100 0 5)) : va_E))) ((up3_comm (by omega)).trans (congrArg (fun z9 : Rl => up3 z9 4 i 2 (some ((.inr (6, [.ref q36a])) : va_E))) ((up3_comm (by omega)).trans (congrArg (fun z9 : Rl => up3 z9 5 i 1 (some ((eI (cy 0) 5 (fillv (-1) 0 5)) : va_E))) ((up3_comm (by omega)).trans (congrArg (fun z9 : Rl => up3 z9 4 i 1 (some ((.inr (6, [.ref q23a])) : va_E))) (up3_up3))))))))) dX0_init_39 (fun H locs hG hS => ?_)
  refine o_aload_n hx hb dX0_init_42 hl rfl ?_
  refine lv_bipush (v := 45) hx hb dX0_init_43 (by decide) ?_
  refine bn_1 ead6_3_i_0 ?_
  refine g_put hC hG hS us_X0 tyX0_ok nmX0 rfl 6 (by decide) fl_X0_26 rfl (show (up3 (up3 (up3 (up3 (up3 (up3 (up3 (X) 4 i 0 (some (.inr (6, [.ref q11a])))) 5 i 0 (some (eI (cy 0) 5 (fillv 100 0 5)))) 3 i 0 (some (.inr (1, [.int 0, .int 0, .ref q5, .ref q18, .ref q30, .int 0, .int 0, .null, .int 0, .int 0])))) 4 i 1 (some (.inr (6, [.ref q23a])))) 5 i 1 (some (eI (cy 0) 5 (fillv (-1) 0 5)))) 4 i 2 (some (.inr (6, [.ref q36a])))) 5 i 2 (some (eI (cy 0) 5 (fillv 100 0 5)))) 3 i 0 = some (.inr (1, [.int 0, .int 0, .ref q5, .ref q18, .ref q30, .int 0, .int 0, .null, .int 0, .int 0])) from (up3_ne (by omega)).trans ((up3_ne (by omega)).trans ((up3_ne (by omega)).trans ((up3_ne (by omega)).trans (up3_self))))) rfl rfl (Nat.le_of_ble_eq_true rfl) ((up3_comm (by omega)).trans (congrArg (fun z9 : Rl => up3 z9 5 i 2 (some ((eI (cy 0) 5 (fillv 100 0 5)) : va_E))) ((up3_comm (by omega)).trans (congrArg (fun z9 : Rl => up3 z9 4 i 2 (some ((.inr (6, [.ref q36a])) : va_E))) ((up3_comm (by omega)).trans (congrArg (fun z9 : Rl => up3 z9 5 i 1 (some ((eI (cy 0) 5 (fillv (-1) 0 5)) : va_E))) ((up3_comm (by omega)).trans (congrArg (fun z9 : Rl => up3 z9 4 i 1 (some ((.inr (6, [.ref q23a])) : va_E))) (up3_up3))))))))) dX0_init_45 (fun H locs hG hS => ?_)
  refine o_aload_n hx hb dX0_init_48 hl rfl ?_
  refine o_iload_n hx hb dX0_init_49 hl rfl ?_
  refine bn_1 ead6_3_i_0 ?_
  refine g_putF hC hnm hG hS us_X0 tyX0_ok nmX0 rfl 0 (by decide) fl_X0_30 rfl rfl (show (up3 (up3 (up3 (up3 (up3 (up3 (up3 (X) 4 i 0 (some (.inr (6, [.ref q11a])))) 5 i 0 (some (eI (cy 0) 5 (fillv 100 0 5)))) 3 i 0 (some (.inr (1, [.int 0, .int 0, .ref q5, .ref q18, .ref q30, .int 0, .int 45, .null, .int 0, .int 0])))) 4 i 1 (some (.inr (6, [.ref q23a])))) 5 i 1 (some (eI (cy 0) 5 (fillv (-1) 0 5)))) 4 i 2 (some (.inr (6, [.ref q36a])))) 5 i 2 (some (eI (cy 0) 5 (fillv 100 0 5)))) 3 i 0 = some (.inr (1, [.int 0, .int 0, .ref q5, .ref q18, .ref q30, .int 0, .int 45, .null, .int 0, .int 0])) from (up3_ne (by omega)).trans ((up3_ne (by omega)).trans ((up3_ne (by omega)).trans ((up3_ne (by omega)).trans (up3_self))))) rfl rfl (Nat.le_of_ble_eq_true rfl) ((up3_comm (by omega)).trans (congrArg (fun z9 : Rl => up3 z9 5 i 2 (some ((eI (cy 0) 5 (fillv 100 0 5)) : va_E))) ((up3_comm (by omega)).trans (congrArg (fun z9 : Rl => up3 z9 4 i 2 (some ((.inr (6, [.ref q36a])) : va_E))) ((up3_comm (by omega)).trans (congrArg (fun z9 : Rl => up3 z9 5 i 1 (some ((eI (cy 0) 5 (fillv (-1) 0 5)) : va_E))) ((up3_comm (by omega)).trans (congrArg (fun z9 : Rl => up3 z9 4 i 1 (some ((.inr (6, [.ref q23a])) : va_E))) (up3_up3))))))))) dX0_init_50 (fun H locs hG hS => ?_)
  refine o_aload_n hx hb dX0_init_53 hl rfl ?_
  refine o_iload_n hx hb dX0_init_54 hl rfl ?_
  refine bn_1 ead6_3_i_0 ?_
  refine g_putF hC hnm hG hS us_X0 tyX0_ok nmX0 rfl 1 (by decide) fl_X0_34 rfl rfl (show (up3 (up3 (up3 (up3 (up3 (up3 (up3 (X) 4 i 0 (some (.inr (6, [.ref q11a])))) 5 i 0 (some (eI (cy 0) 5 (fillv 100 0 5)))) 3 i 0 (some (.inr (1, [.int x, .int 0, .ref q5, .ref q18, .ref q30, .int 0, .int 45, .null, .int 0, .int 0])))) 4 i 1 (some (.inr (6, [.ref q23a])))) 5 i 1 (some (eI (cy 0) 5 (fillv (-1) 0 5)))) 4 i 2 (some (.inr (6, [.ref q36a])))) 5 i 2 (some (eI (cy 0) 5 (fillv 100 0 5)))) 3 i 0 = some (.inr (1, [.int x, .int 0, .ref q5, .ref q18, .ref q30, .int 0, .int 45, .null, .int 0, .int 0])) from (up3_ne (by omega)).trans ((up3_ne (by omega)).trans ((up3_ne (by omega)).trans ((up3_ne (by omega)).trans (up3_self))))) rfl rfl (Nat.le_of_ble_eq_true rfl) ((up3_comm (by omega)).trans (congrArg (fun z9 : Rl => up3 z9 5 i 2 (some ((eI (cy 0) 5 (fillv 100 0 5)) : va_E))) ((up3_comm (by omega)).trans (congrArg (fun z9 : Rl => up3 z9 4 i 2 (some ((.inr (6, [.ref q36a])) : va_E))) ((up3_comm (by omega)).trans (congrArg (fun z9 : Rl => up3 z9 5 i 1 (some ((eI (cy 0) 5 (fillv (-1) 0 5)) : va_E))) ((up3_comm (by omega)).trans (congrArg (fun z9 : Rl => up3 z9 4 i 1 (some ((.inr (6, [.ref q23a])) : va_E))) (up3_up3))))))))) dX0_init_55 (fun H locs hG hS => ?_)
  exact R_V hC hS hr hlk (⟨q5, q11a, q18, q23a, q30, q36a, by rw [← had1, ← had2, ← had3, ← had4, ← had5, ← had6]; exact hG⟩) (Nat.le_of_ble_eq_true rfl) (Nat.le_of_ble_eq_true rfl) dX0_init_58
theorem k_X0_init {p : Program} {l : Launch} {e : Env} {R : Room} {s : State} {m : MethodId} {args : Array Value} {below : List Frame} {meth : Method} {c : Code} {H : Heap} {locs : List Loc} {cells slots : Nat} {Q : State → Prop} {cc : ByteArray} {pc nL : Nat} {ls : Array Slot} {rest : List Value} {own : String} {D : va_G} {cy : Nat → ClassId} {sa : Nat → Nat} {de B : Nat} {ad : Ad} {X : Rl} {b i : Nat} {x y : Int32}  (hC : Cx p m c cc nL s args own D cy sa de B) (hS : va_S (AB B) s.heap H locs) (hG : GW D B ad (X) H) (h0 : ad 3 i 0 = b ∧ X 3 i 0 = some (.inr (1, [.int 0, .int 0, .null, .null, .null, .int 0, .int 0, .null, .int 0, .int 0])) ∧ X 4 i 0 = none ∧ X 4 i 1 = none ∧ X 4 i 2 = none ∧ X 5 i 0 = none ∧ X 5 i 1 = none ∧ X 5 i 2 = none)  {idx : Nat} (wl : Cond.methodLink own idx yX0_init ∈ G0) (hR : 2 + 1 ≤ R.frames ∧ 8 + (3 + 11) + 35 ≤ R.locals) (hsz : ls.size = nL) (hst : (rest.map fun v => v.category).sum ≤ 8) (hdg : decode cc pc = .ok (.invokespecial idx, 3)) (hcs : cells + 6 ≤ R.cells ∧ slots + 18 ≤ R.slots) (kk : ∀ (H1 : Heap) (locs1 : List Loc), ((fun H => ∃ qa qb qc qd qe qf, GW D B (up3 (up3 (up3 (up3 (up3 (up3 (ad) 4 i 0 qa) 5 i 0 qb) 4 i 1 qc) 5 i 1 qd) 4 i 2 qe) 5 i 2 qf) (up3 (up3 (up3 (up3 (up3 (up3 (up3 (X) 4 i 0 (some (.inr (6, [.ref qb])))) 5 i 0 (some (eI (cy 0) 5 (fillv 100 0 5)))) 3 i 0 (some (.inr (1, [.int x, .int y, .ref qa, .ref qc, .ref qe, .int 0, .int 45, .null, .int 0, .int 0])))) 4 i 1 (some (.inr (6, [.ref qd])))) 5 i 1 (some (eI (cy 0) 5 (fillv (-1) 0 5)))) 4 i 2 (some (.inr (6, [.ref qf])))) 5 i 2 (some (eI (cy 0) 5 (fillv 100 0 5)))) H)) H1 → va_S (AB B) s.heap H1 locs1 → W p l e R s m args below meth c H1 locs1 (cells + 6) (slots + 18) Q (F0 m (pc + 3) ls (rest))) : W p l e R s m args below meth c H locs cells slots Q (F0 m pc ls (.int y :: .int x :: .ref b :: rest)) :=
  va_callv (rI hC hS hG h0 (As := [.int x, .int y]) (c_X0_init l) ⟨rfl, rfl⟩ wl im_X0_init in_X0 cd_X0_init rfl (n := 2) (by decide +kernel) hR rfl hsz hst rfl hdg hcs) hS (fun _ _ h => h) (fun _ h => h) (fun u t H1 locs1 ht _ _ hB _ _ hS1 => kk H1 locs1 (by (try dsimp only at hB); rw [ht] at hB; exact hB) hS1)
set_option maxHeartbeats 4000000 in
set_option maxRecDepth 100000 in
theorem c_X6_init (l : Launch) {D : va_G} {cy : Nat → ClassId} {sa : Nat → Nat} {de B : Nat} {ad : Ad} {X : Rl} {b : Nat}  : Met l yX6_init (Cond.code yX6_init cX6_init 2 (Option.none : Option Jvm.ClassFile.FieldType) :: G0) ({ frames := 4, cells := 5, slots := 18, locals := 73 } : Room) (va_Pc [.ref b] (PW D cy sa de B ad (X) (ad 0 0 0 = b ∧ X 0 0 0 = some (.inr (7, [.null, .null, .null, .null, .null, .int 0])) ∧ X 1 0 0 = none ∧ X 1 1 0 = none ∧ X 1 2 0 = none ∧ X 1 3 0 = none ∧ X 12 0 0 = none))) (oV B (fun H => ∃ qa qb qc qd qe, GW D B (up3 (up3 (up3 (up3 (up3 (ad) 1 0 0 qa) 1 1 0 qb) 1 2 0 qc) 1 3 0 qd) 12 0 0 qe) (up3 (up3 (up3 (up3 (up3 (up3 (X) 1 0 0 (some (.inr (0, [.int 0, .ref de, .int 0])))) 0 0 0 (some (.inr (7, [.ref qa, .ref qb, .ref qc, .ref qd, .ref qe, .int 0])))) 1 1 0 (some (.inr (0, [.int 0, .ref de, .int 0])))) 1 2 0 (some (.inr (0, [.int 0, .ref de, .int 0])))) 1 3 0 (some (.inr (0, [.int 0, .ref de, .int 0])))) 12 0 0 (some (eI (cy 0) 6 (fillv 1000 0 6)))) H)) 5 18 (AB B) := by
  refine E_met (own := RX6) rfl rfl (Nat.le_of_ble_eq_true rfl) ?_
  intro p e s m below meth c hC hr hlk hnm hG h0 ls hl
  have hx := hC.x
  have hb := hC.b
  have hS : va_S (AB B) s.heap s.heap [] := va_S.rf
  have hl : lo ls 2 [some (.ref b), none] := lo_of hl
  obtain ⟨hbb, hO, h10, h11, h12_, h13, h12⟩ := h0
  refine o_aload_n hx hb dX6_init_0 hl rfl ?_
  refine o_oinit hC ml_X6_1 hl.1 (Nat.le_of_ble_eq_true rfl) (Nat.le_of_ble_eq_true rfl) dX6_init_1 ?_
  refine o_aload_n hx hb dX6_init_4 hl rfl ?_
  refine g_new hC hG hS us_Jx4a65c tyJx4a65c_ok cl_X6_7 is_Jx4a65c in_Jx4a65c (ci := 0) rfl (fs := [.int 0, .null, .int 0]) vp_fresh_Jx4a65c (Nat.le_of_ble_eq_true rfl) (Nat.le_of_ble_eq_true rfl) 1 0 0 (show (X) 1 0 0 = none from h10) dX6_init_5 (fun q5 H hG hS => ?_)
  obtain ⟨ad1, had1⟩ : ∃ z, z = up3 ad 1 0 0 q5 := ⟨_, rfl⟩
  rw [← had1] at hG
  have ead1_0_0_0 : ad1 0 0 0 = b := by rw [had1]; exact (up3_ne (by omega)).trans hbb
  have ead1_1_0_0 : ad1 1 0 0 = q5 := by rw [had1]; exact up3_self
  refine lv_dup hx hb dX6_init_8 rfl ?_
  refine bn_0 ead1_1_0_0 ?_
  refine k_Jx4a65c_init_da8c8 (t := 1) (i := 0) (j := 0) hC hS hG (show (up3 (X) 1 0 0 (some (.inr (0, [.int 0, .null, .int 0])))) 1 0 0 = some (.inr (0, [.int 0, .null, .int 0])) from up3_self) ml_X6_9 ⟨Nat.le_of_ble_eq_true rfl, Nat.le_of_ble_eq_true rfl⟩ hl.1 (Nat.le_of_ble_eq_true rfl) dX6_init_9 ⟨Nat.le_of_ble_eq_true rfl, Nat.le_of_ble_eq_true rfl⟩ (fun H locs hG hS => ?_)
  rw [up3_up3] at hG
  refine bn_1 ead1_0_0_0 ?_
  refine g_putF hC hnm hG hS us_X6 tyX6_ok nmX6 rfl 0 (by decide) fl_X6_10 rfl rfl (show (up3 (X) 1 0 0 (some (.inr (0, [.int 0, .ref de, .int 0])))) 0 0 0 = some (.inr (7, [.null, .null, .null, .null, .null, .int 0])) from (up3_ne (by omega)).trans (hO)) rfl rfl (Nat.le_of_ble_eq_true rfl) rfl dX6_init_12 (fun H locs hG hS => ?_)
  refine o_aload_n hx hb dX6_init_15 hl rfl ?_
  refine g_new hC hG hS us_Jx4a65c tyJx4a65c_ok cl_X6_7 is_Jx4a65c in_Jx4a65c (ci := 0) rfl (fs := [.int 0, .null, .int 0]) vp_fresh_Jx4a65c (Nat.le_of_ble_eq_true rfl) (Nat.le_of_ble_eq_true rfl) 1 1 0 (show (up3 (up3 (X) 1 0 0 (some (.inr (0, [.int 0, .ref de, .int 0])))) 0 0 0 (some (.inr (7, [.ref q5, .null, .null, .null, .null, .int 0])))) 1 1 0 = none from (up3_ne (by omega)).trans ((up3_ne (by omega)).trans (h11))) dX6_init_16 (fun q16 H hG hS => ?_)
  obtain ⟨ad2, had2⟩ : ∃ z, z = up3 ad1 1 1 0 q16 := ⟨_, rfl⟩
  rw [← had2] at hG
  have ead2_0_0_0 : ad2 0 0 0 = b := by rw [had2]; exact (up3_ne (by omega)).trans ead1_0_0_0
  have ead2_1_0_0 : ad2 1 0 0 = q5 := by rw [had2]; exact (up3_ne (by omega)).trans ead1_1_0_0
  have ead2_1_1_0 : ad2 1 1 0 = q16 := by rw [had2]; exact up3_self
  refine lv_dup hx hb dX6_init_19 rfl ?_
  refine bn_0 ead2_1_1_0 ?_
  refine k_Jx4a65c_init_da8c8 (t := 1) (i := 1) (j := 0) hC hS hG (show (up3 (up3 (up3 (X) 1 0 0 (some (.inr (0, [.int 0, .ref de, .int 0])))) 0 0 0 (some (.inr (7, [.ref q5, .null, .null, .null, .null, .int 0])))) 1 1 0 (some (.inr (0, [.int 0, .null, .int 0])))) 1 1 0 = some (.inr (0, [.int 0, .null, .int 0])) from up3_self) ml_X6_9 ⟨Nat.le_of_ble_eq_true rfl, Nat.le_of_ble_eq_true rfl⟩ hl.1 (Nat.le_of_ble_eq_true rfl) dX6_init_20 ⟨Nat.le_of_ble_eq_true rfl, Nat.le_of_ble_eq_true rfl⟩ (fun H locs hG hS => ?_)
  rw [up3_up3] at hG
  refine bn_1 ead2_0_0_0 ?_
  refine g_putF hC hnm hG hS us_X6 tyX6_ok nmX6 rfl 1 (by decide) fl_X6_16 rfl rfl (show (up3 (up3 (up3 (X) 1 0 0 (some (.inr (0, [.int 0, .ref de, .int 0])))) 0 0 0 (some (.inr (7, [.ref q5, .null, .null, .null, .null, .int 0])))) 1 1 0 (some (.inr (0, [.int 0, .ref de, .int 0])))) 0 0 0 = some (.inr (7, [.ref q5, .null, .null, .null, .null, .int 0])) from (up3_ne (by omega)).trans (up3_self)) rfl rfl (Nat.le_of_ble_eq_true rfl) ((up3_comm (by omega)).trans (congrArg (fun z9 : Rl => up3 z9 1 1 0 (some ((.inr (0, [.int 0, .ref de, .int 0])) : va_E))) (up3_up3))) dX6_init_23 (fun H locs hG hS => ?_)
  refine o_aload_n hx hb dX6_init_26 hl rfl ?_
  refine g_new hC hG hS us_Jx4a65c tyJx4a65c_ok cl_X6_7 is_Jx4a65c in_Jx4a65c (ci := 0) rfl (fs := [.int 0, .null, .int 0]) vp_fresh_Jx4a65c (Nat.le_of_ble_eq_true rfl) (Nat.le_of_ble_eq_true rfl) 1 2 0 (show (up3 (up3 (up3 (X) 1 0 0 (some (.inr (0, [.int 0, .ref de, .int 0])))) 0 0 0 (some (.inr (7, [.ref q5, .ref q16, .null, .null, .null, .int 0])))) 1 1 0 (some (.inr (0, [.int 0, .ref de, .int 0])))) 1 2 0 = none from (up3_ne (by omega)).trans ((up3_ne (by omega)).trans ((up3_ne (by omega)).trans (h12_)))) dX6_init_27 (fun q27 H hG hS => ?_)
  obtain ⟨ad3, had3⟩ : ∃ z, z = up3 ad2 1 2 0 q27 := ⟨_, rfl⟩
  rw [← had3] at hG
  have ead3_0_0_0 : ad3 0 0 0 = b := by rw [had3]; exact (up3_ne (by omega)).trans ead2_0_0_0
  have ead3_1_0_0 : ad3 1 0 0 = q5 := by rw [had3]; exact (up3_ne (by omega)).trans ead2_1_0_0
  have ead3_1_1_0 : ad3 1 1 0 = q16 := by rw [had3]; exact (up3_ne (by omega)).trans ead2_1_1_0
  have ead3_1_2_0 : ad3 1 2 0 = q27 := by rw [had3]; exact up3_self
  refine lv_dup hx hb dX6_init_30 rfl ?_
  refine bn_0 ead3_1_2_0 ?_
  refine k_Jx4a65c_init_da8c8 (t := 1) (i := 2) (j := 0) hC hS hG (show (up3 (up3 (up3 (up3 (X) 1 0 0 (some (.inr (0, [.int 0, .ref de, .int 0])))) 0 0 0 (some (.inr (7, [.ref q5, .ref q16, .null, .null, .null, .int 0])))) 1 1 0 (some (.inr (0, [.int 0, .ref de, .int 0])))) 1 2 0 (some (.inr (0, [.int 0, .null, .int 0])))) 1 2 0 = some (.inr (0, [.int 0, .null, .int 0])) from up3_self) ml_X6_9 ⟨Nat.le_of_ble_eq_true rfl, Nat.le_of_ble_eq_true rfl⟩ hl.1 (Nat.le_of_ble_eq_true rfl) dX6_init_31 ⟨Nat.le_of_ble_eq_true rfl, Nat.le_of_ble_eq_true rfl⟩ (fun H locs hG hS => ?_)
  rw [up3_up3] at hG
  refine bn_1 ead3_0_0_0 ?_
  refine g_putF hC hnm hG hS us_X6 tyX6_ok nmX6 rfl 2 (by decide) fl_X6_19 rfl rfl (show (up3 (up3 (up3 (up3 (X) 1 0 0 (some (.inr (0, [.int 0, .ref de, .int 0])))) 0 0 0 (some (.inr (7, [.ref q5, .ref q16, .null, .null, .null, .int 0])))) 1 1 0 (some (.inr (0, [.int 0, .ref de, .int 0])))) 1 2 0 (some (.inr (0, [.int 0, .ref de, .int 0])))) 0 0 0 = some (.inr (7, [.ref q5, .ref q16, .null, .null, .null, .int 0])) from (up3_ne (by omega)).trans ((up3_ne (by omega)).trans (up3_self))) rfl rfl (Nat.le_of_ble_eq_true rfl) ((up3_comm (by omega)).trans (congrArg (fun z9 : Rl => up3 z9 1 2 0 (some ((.inr (0, [.int 0, .ref de, .int 0])) : va_E))) ((up3_comm (by omega)).trans (congrArg (fun z9 : Rl => up3 z9 1 1 0 (some ((.inr (0, [.int 0, .ref de, .int 0])) : va_E))) (up3_up3))))) dX6_init_34 (fun H locs hG hS => ?_)
  refine o_aload_n hx hb dX6_init_37 hl rfl ?_
  refine g_new hC hG hS us_Jx4a65c tyJx4a65c_ok cl_X6_7 is_Jx4a65c in_Jx4a65c (ci := 0) rfl (fs := [.int 0, .null, .int 0]) vp_fresh_Jx4a65c (Nat.le_of_ble_eq_true rfl) (Nat.le_of_ble_eq_true rfl) 1 3 0 (show (up3 (up3 (up3 (up3 (X) 1 0 0 (some (.inr (0, [.int 0, .ref de, .int 0])))) 0 0 0 (some (.inr (7, [.ref q5, .ref q16, .ref q27, .null, .null, .int 0])))) 1 1 0 (some (.inr (0, [.int 0, .ref de, .int 0])))) 1 2 0 (some (.inr (0, [.int 0, .ref de, .int 0])))) 1 3 0 = none from (up3_ne (by omega)).trans ((up3_ne (by omega)).trans ((up3_ne (by omega)).trans ((up3_ne (by omega)).trans (h13))))) dX6_init_38 (fun q38 H hG hS => ?_)
  obtain ⟨ad4, had4⟩ : ∃ z, z = up3 ad3 1 3 0 q38 := ⟨_, rfl⟩
  rw [← had4] at hG
  have ead4_0_0_0 : ad4 0 0 0 = b := by rw [had4]; exact (up3_ne (by omega)).trans ead3_0_0_0
  have ead4_1_0_0 : ad4 1 0 0 = q5 := by rw [had4]; exact (up3_ne (by omega)).trans ead3_1_0_0
  have ead4_1_1_0 : ad4 1 1 0 = q16 := by rw [had4]; exact (up3_ne (by omega)).trans ead3_1_1_0
  have ead4_1_2_0 : ad4 1 2 0 = q27 := by rw [had4]; exact (up3_ne (by omega)).trans ead3_1_2_0
  have ead4_1_3_0 : ad4 1 3 0 = q38 := by rw [had4]; exact up3_self
  refine lv_dup hx hb dX6_init_41 rfl ?_
  refine bn_0 ead4_1_3_0 ?_
  refine k_Jx4a65c_init_da8c8 (t := 1) (i := 3) (j := 0) hC hS hG (show (up3 (up3 (up3 (up3 (up3 (X) 1 0 0 (some (.inr (0, [.int 0, .ref de, .int 0])))) 0 0 0 (some (.inr (7, [.ref q5, .ref q16, .ref q27, .null, .null, .int 0])))) 1 1 0 (some (.inr (0, [.int 0, .ref de, .int 0])))) 1 2 0 (some (.inr (0, [.int 0, .ref de, .int 0])))) 1 3 0 (some (.inr (0, [.int 0, .null, .int 0])))) 1 3 0 = some (.inr (0, [.int 0, .null, .int 0])) from up3_self) ml_X6_9 ⟨Nat.le_of_ble_eq_true rfl, Nat.le_of_ble_eq_true rfl⟩ hl.1 (Nat.le_of_ble_eq_true rfl) dX6_init_42 ⟨Nat.le_of_ble_eq_true rfl, Nat.le_of_ble_eq_true rfl⟩ (fun H locs hG hS => ?_)
  rw [up3_up3] at hG
  refine bn_1 ead4_0_0_0 ?_
  refine g_putF hC hnm hG hS us_X6 tyX6_ok nmX6 rfl 3 (by decide) fl_X6_22 rfl rfl (show (up3 (up3 (up3 (up3 (up3 (X) 1 0 0 (some (.inr (0, [.int 0, .ref de, .int 0])))) 0 0 0 (some (.inr (7, [.ref q5, .ref q16, .ref q27, .null, .null, .int 0])))) 1 1 0 (some (.inr (0, [.int 0, .ref de, .int 0])))) 1 2 0 (some (.inr (0, [.int 0, .ref de, .int 0])))) 1 3 0 (some (.inr (0, [.int 0, .ref de, .int 0])))) 0 0 0 = some (.inr (7, [.ref q5, .ref q16, .ref q27, .null, .null, .int 0])) from (up3_ne (by omega)).trans ((up3_ne (by omega)).trans ((up3_ne (by omega)).trans (up3_self)))) rfl rfl (Nat.le_of_ble_eq_true rfl) ((up3_comm (by omega)).trans (congrArg (fun z9 : Rl => up3 z9 1 3 0 (some ((.inr (0, [.int 0, .ref de, .int 0])) : va_E))) ((up3_comm (by omega)).trans (congrArg (fun z9 : Rl => up3 z9 1 2 0 (some ((.inr (0, [.int 0, .ref de, .int 0])) : va_E))) ((up3_comm (by omega)).trans (congrArg (fun z9 : Rl => up3 z9 1 1 0 (some ((.inr (0, [.int 0, .ref de, .int 0])) : va_E))) (up3_up3))))))) dX6_init_45 (fun H locs hG hS => ?_)
  refine o_aload_n hx hb dX6_init_48 hl rfl ?_
  refine lv_bipush (v := 6) hx hb dX6_init_49 (by decide) ?_
  refine g_newa hC hG hS (ty := .int) rfl (cA := cy 0) (hC.K.2 0 _ rfl).2 ac_80 (a0 := (6, .inl (fun _ => 0))) rfl (by decide) (by decide) (by decide) (Nat.le_of_ble_eq_true rfl) (Nat.le_of_ble_eq_true rfl) 12 0 0 (show (up3 (up3 (up3 (up3 (up3 (X) 1 0 0 (some (.inr (0, [.int 0, .ref de, .int 0])))) 0 0 0 (some (.inr (7, [.ref q5, .ref q16, .ref q27, .ref q38, .null, .int 0])))) 1 1 0 (some (.inr (0, [.int 0, .ref de, .int 0])))) 1 2 0 (some (.inr (0, [.int 0, .ref de, .int 0])))) 1 3 0 (some (.inr (0, [.int 0, .ref de, .int 0])))) 12 0 0 = none from (up3_ne (by omega)).trans ((up3_ne (by omega)).trans ((up3_ne (by omega)).trans ((up3_ne (by omega)).trans ((up3_ne (by omega)).trans (h12)))))) dX6_init_51 (fun q51 H hG hS => ?_)
  obtain ⟨ad5, had5⟩ : ∃ z, z = up3 ad4 12 0 0 q51 := ⟨_, rfl⟩
  rw [← had5] at hG
  have ead5_0_0_0 : ad5 0 0 0 = b := by rw [had5]; exact (up3_ne (by omega)).trans ead4_0_0_0
  have ead5_1_0_0 : ad5 1 0 0 = q5 := by rw [had5]; exact (up3_ne (by omega)).trans ead4_1_0_0
  have ead5_1_1_0 : ad5 1 1 0 = q16 := by rw [had5]; exact (up3_ne (by omega)).trans ead4_1_1_0
  have ead5_1_2_0 : ad5 1 2 0 = q27 := by rw [had5]; exact (up3_ne (by omega)).trans ead4_1_2_0
  have ead5_1_3_0 : ad5 1 3 0 = q38 := by rw [had5]; exact (up3_ne (by omega)).trans ead4_1_3_0
  have ead5_12_0_0 : ad5 12 0 0 = q51 := by rw [had5]; exact up3_self
  refine bn_1 ead5_0_0_0 ?_
  refine g_putF hC hnm hG hS us_X6 tyX6_ok nmX6 rfl 4 (by decide) fl_X6_25 rfl rfl (show (up3 (up3 (up3 (up3 (up3 (up3 (X) 1 0 0 (some (.inr (0, [.int 0, .ref de, .int 0])))) 0 0 0 (some (.inr (7, [.ref q5, .ref q16, .ref q27, .ref q38, .null, .int 0])))) 1 1 0 (some (.inr (0, [.int 0, .ref de, .int 0])))) 1 2 0 (some (.inr (0, [.int 0, .ref de, .int 0])))) 1 3 0 (some (.inr (0, [.int 0, .ref de, .int 0])))) 12 0 0 (some (eI (cy 0) 6 (fun _ => 0)))) 0 0 0 = some (.inr (7, [.ref q5, .ref q16, .ref q27, .ref q38, .null, .int 0])) from (up3_ne (by omega)).trans ((up3_ne (by omega)).trans ((up3_ne (by omega)).trans ((up3_ne (by omega)).trans (up3_self))))) rfl rfl (Nat.le_of_ble_eq_true rfl) ((up3_comm (by omega)).trans (congrArg (fun z9 : Rl => up3 z9 12 0 0 (some ((eI (cy 0) 6 (fun _ => 0)) : va_E))) ((up3_comm (by omega)).trans (congrArg (fun z9 : Rl => up3 z9 1 3 0 (some ((.inr (0, [.int 0, .ref de, .int 0])) : va_E))) ((up3_comm (by omega)).trans (congrArg (fun z9 : Rl => up3 z9 1 2 0 (some ((.inr (0, [.int 0, .ref de, .int 0])) : va_E))) ((up3_comm (by omega)).trans (congrArg (fun z9 : Rl => up3 z9 1 1 0 (some ((.inr (0, [.int 0, .ref de, .int 0])) : va_E))) (up3_up3))))))))) dX6_init_53 (fun H locs hG hS => ?_)
  refine lv_iconst (v := 0) hx hb dX6_init_56 (by decide) ?_
  refine o_istore_n hx hb dX6_init_57 hl (by decide) rfl (fun ls hl => ?_)
  have loop58 : ∀ (q9 y : Nat), y ≤ 6 ∧ 6 < y + q9 → ∀ (H : Heap) (locs : List Loc), GW D B ad5 (up3 (up3 (up3 (up3 (up3 (up3 (X) 1 0 0 (some (.inr (0, [.int 0, .ref de, .int 0])))) 0 0 0 (some (.inr (7, [.ref q5, .ref q16, .ref q27, .ref q38, .ref q51, .int 0])))) 1 1 0 (some (.inr (0, [.int 0, .ref de, .int 0])))) 1 2 0 (some (.inr (0, [.int 0, .ref de, .int 0])))) 1 3 0 (some (.inr (0, [.int 0, .ref de, .int 0])))) 12 0 0 (some (eI (cy 0) 6 (fillv 1000 0 y)))) H → va_S (AB B) s.heap H locs → ∀ ls : Array Slot, lo ls 2 [some (.ref b), some (.int (nI y))] → W p l e ({ frames := 4, cells := 5, slots := 18, locals := 73 } : Room) s m [.ref b].toArray below meth c H locs 5 18 (MQ below (oV B (fun H => ∃ qa qb qc qd qe, GW D B (up3 (up3 (up3 (up3 (up3 (ad) 1 0 0 qa) 1 1 0 qb) 1 2 0 qc) 1 3 0 qd) 12 0 0 qe) (up3 (up3 (up3 (up3 (up3 (up3 (X) 1 0 0 (some (.inr (0, [.int 0, .ref de, .int 0])))) 0 0 0 (some (.inr (7, [.ref qa, .ref qb, .ref qc, .ref qd, .ref qe, .int 0])))) 1 1 0 (some (.inr (0, [.int 0, .ref de, .int 0])))) 1 2 0 (some (.inr (0, [.int 0, .ref de, .int 0])))) 1 3 0 (some (.inr (0, [.int 0, .ref de, .int 0])))) 12 0 0 (some (eI (cy 0) 6 (fillv 1000 0 6)))) H)) [.ref b].toArray s 5 18 (AB B)) (F0 m 58 ls []) := by
    intro q9
    induction q9 with
    | zero => intro y hq9; exact absurd hq9 (by omega)
    | succ q9 ih =>
      intro y hq9 H locs hG hS ls hl
      refine o_iload_n hx hb dX6_init_58 hl rfl ?_
      refine o_aload_n hx hb dX6_init_59 hl rfl ?_
      refine bn_0 ead5_0_0_0 ?_
      refine g_get hC hG us_X6 rfl 4 (by decide) fl_X6_25 (show (up3 (up3 (up3 (up3 (up3 (up3 (X) 1 0 0 (some (.inr (0, [.int 0, .ref de, .int 0])))) 0 0 0 (some (.inr (7, [.ref q5, .ref q16, .ref q27, .ref q38, .ref q51, .int 0])))) 1 1 0 (some (.inr (0, [.int 0, .ref de, .int 0])))) 1 2 0 (some (.inr (0, [.int 0, .ref de, .int 0])))) 1 3 0 (some (.inr (0, [.int 0, .ref de, .int 0])))) 12 0 0 (some (eI (cy 0) 6 (fillv 1000 0 y)))) 0 0 0 = some (.inr (7, [.ref q5, .ref q16, .ref q27, .ref q38, .ref q51, .int 0])) from (up3_ne (by omega)).trans ((up3_ne (by omega)).trans ((up3_ne (by omega)).trans ((up3_ne (by omega)).trans (up3_self))))) rfl dX6_init_60 ?_
      refine bn_0 ead5_12_0_0 ?_
      refine g_alen hC hG 0 rfl (show (up3 (up3 (up3 (up3 (up3 (up3 (X) 1 0 0 (some (.inr (0, [.int 0, .ref de, .int 0])))) 0 0 0 (some (.inr (7, [.ref q5, .ref q16, .ref q27, .ref q38, .ref q51, .int 0])))) 1 1 0 (some (.inr (0, [.int 0, .ref de, .int 0])))) 1 2 0 (some (.inr (0, [.int 0, .ref de, .int 0])))) 1 3 0 (some (.inr (0, [.int 0, .ref de, .int 0])))) 12 0 0 (some (eI (cy 0) 6 (fillv 1000 0 y)))) 12 0 0 = some (eI (cy 0) 6 (fillv 1000 0 y)) from up3_self) (v := nI 6) rfl dX6_init_63 ?_
      refine n_icmp_ge (tgt := 82) hx hb y 6 rfl rfl (by omega) (by omega) dX6_init_64 (by decide) (fun h64 => ?_) (fun h64 => ?_)
      · have hy6 : y = 6 := by omega
        subst hy6
        exact R_V hC hS hr hlk (⟨q5, q16, q27, q38, q51, by rw [← had1, ← had2, ← had3, ← had4, ← had5]; exact hG⟩) (Nat.le_of_ble_eq_true rfl) (Nat.le_of_ble_eq_true rfl) dX6_init_82
      · skip
        refine o_aload_n hx hb dX6_init_67 hl rfl ?_
        refine bn_0 ead5_0_0_0 ?_
        refine g_get hC hG us_X6 rfl 4 (by decide) fl_X6_25 (show (up3 (up3 (up3 (up3 (up3 (up3 (X) 1 0 0 (some (.inr (0, [.int 0, .ref de, .int 0])))) 0 0 0 (some (.inr (7, [.ref q5, .ref q16, .ref q27, .ref q38, .ref q51, .int 0])))) 1 1 0 (some (.inr (0, [.int 0, .ref de, .int 0])))) 1 2 0 (some (.inr (0, [.int 0, .ref de, .int 0])))) 1 3 0 (some (.inr (0, [.int 0, .ref de, .int 0])))) 12 0 0 (some (eI (cy 0) 6 (fillv 1000 0 y)))) 0 0 0 = some (.inr (7, [.ref q5, .ref q16, .ref q27, .ref q38, .ref q51, .int 0])) from (up3_ne (by omega)).trans ((up3_ne (by omega)).trans ((up3_ne (by omega)).trans ((up3_ne (by omega)).trans (up3_self))))) rfl dX6_init_68 ?_
        refine o_iload_n hx hb dX6_init_71 hl rfl ?_
        refine lv_sipush (v := 1000) hx hb dX6_init_72 (by decide) ?_
        refine bn_2 ead5_12_0_0 ?_
        refine g_iast hC hG hS (show (up3 (up3 (up3 (up3 (up3 (up3 (X) 1 0 0 (some (.inr (0, [.int 0, .ref de, .int 0])))) 0 0 0 (some (.inr (7, [.ref q5, .ref q16, .ref q27, .ref q38, .ref q51, .int 0])))) 1 1 0 (some (.inr (0, [.int 0, .ref de, .int 0])))) 1 2 0 (some (.inr (0, [.int 0, .ref de, .int 0])))) 1 3 0 (some (.inr (0, [.int 0, .ref de, .int 0])))) 12 0 0 (some (eI (cy 0) 6 (fillv 1000 0 y)))) 12 0 0 = some (eI (cy 0) 6 (fillv 1000 0 y)) from up3_self) y rfl (by omega) (by omega) (up3_up3) dX6_init_75 (fun H locs hG hS => ?_)
        refine o_iinc1 hx hb dX6_init_76 hl rfl (by decide) rfl (fun ls hl => ?_)
        refine lv_goto (tgt := 58) hx hb dX6_init_79 (by decide) ?_
        exact ih (y + 1) (by omega) H locs (by rw [fillv_s]; exact hG) hS ls hl
  exact loop58 7 0 (by omega) H locs (by rw [fillv_0]; exact hG) hS ls hl
theorem k_X6_init {p : Program} {l : Launch} {e : Env} {R : Room} {s : State} {m : MethodId} {args : Array Value} {below : List Frame} {meth : Method} {c : Code} {H : Heap} {locs : List Loc} {cells slots : Nat} {Q : State → Prop} {cc : ByteArray} {pc nL : Nat} {ls : Array Slot} {rest : List Value} {own : String} {D : va_G} {cy : Nat → ClassId} {sa : Nat → Nat} {de B : Nat} {ad : Ad} {X : Rl} {b : Nat}  (hC : Cx p m c cc nL s args own D cy sa de B) (hS : va_S (AB B) s.heap H locs) (hG : GW D B ad (X) H) (h0 : ad 0 0 0 = b ∧ X 0 0 0 = some (.inr (7, [.null, .null, .null, .null, .null, .int 0])) ∧ X 1 0 0 = none ∧ X 1 1 0 = none ∧ X 1 2 0 = none ∧ X 1 3 0 = none ∧ X 12 0 0 = none)  {idx : Nat} (wl : Cond.methodLink own idx yX6_init ∈ G0) (hR : 4 + 1 ≤ R.frames ∧ 8 + (2 + 11) + 73 ≤ R.locals) (hsz : ls.size = nL) (hst : (rest.map fun v => v.category).sum ≤ 8) (hdg : decode cc pc = .ok (.invokespecial idx, 3)) (hcs : cells + 5 ≤ R.cells ∧ slots + 18 ≤ R.slots) (kk : ∀ (H1 : Heap) (locs1 : List Loc), ((fun H => ∃ qa qb qc qd qe, GW D B (up3 (up3 (up3 (up3 (up3 (ad) 1 0 0 qa) 1 1 0 qb) 1 2 0 qc) 1 3 0 qd) 12 0 0 qe) (up3 (up3 (up3 (up3 (up3 (up3 (X) 1 0 0 (some (.inr (0, [.int 0, .ref de, .int 0])))) 0 0 0 (some (.inr (7, [.ref qa, .ref qb, .ref qc, .ref qd, .ref qe, .int 0])))) 1 1 0 (some (.inr (0, [.int 0, .ref de, .int 0])))) 1 2 0 (some (.inr (0, [.int 0, .ref de, .int 0])))) 1 3 0 (some (.inr (0, [.int 0, .ref de, .int 0])))) 12 0 0 (some (eI (cy 0) 6 (fillv 1000 0 6)))) H)) H1 → va_S (AB B) s.heap H1 locs1 → W p l e R s m args below meth c H1 locs1 (cells + 5) (slots + 18) Q (F0 m (pc + 3) ls (rest))) : W p l e R s m args below meth c H locs cells slots Q (F0 m pc ls (.ref b :: rest)) :=
  va_callv (rI hC hS hG h0 (As := []) (c_X6_init l) ⟨rfl, rfl⟩ wl im_X6_init in_X6 cd_X6_init rfl (n := 0) (by decide +kernel) hR rfl hsz hst rfl hdg hcs) hS (fun _ _ h => h) (fun _ h => h) (fun u t H1 locs1 ht _ _ hB _ _ hS1 => kk H1 locs1 (by (try dsimp only at hB); rw [ht] at hB; exact hB) hS1)
