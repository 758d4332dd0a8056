set_option maxHeartbeats 4000000 in
set_option maxRecDepth 100000 in
theorem c_X5_init (l : Launch) {D : va_G} {cy : Nat → ClassId} {sa : Nat → Nat} {de B : Nat} {ad : Ad} {X : Rl} {v : Int32} {b t i j t2 i2 j2 : Nat}  : Met l yX5_init (Cond.code yX5_init cX5_init 3 (Option.none : Option Jvm.ClassFile.FieldType) :: G0) ({ frames := 1, cells := 1, slots := 5, locals := 13 } : Room) (va_Pc [.ref b, .int v] (PW D cy sa de B ad (X) (ad t i j = b ∧ X t i j = some (.inr (6, [.null])) ∧ X t2 i2 j2 = none))) (oV B (fun H => ∃ q, GW D B (up3 ad t2 i2 j2 q) (up3 (up3 X t i j (some (.inr (6, [.ref q])))) t2 i2 j2 (some (eI (cy 0) 5 (fillv v 0 5)))) H)) 1 5 (AB B) := by
  refine E_met (own := RX5) rfl rfl (Nat.le_of_ble_eq_true rfl) ?_
  intro p e s m below meth c hC hr hlk hnm hG h0 ls hl
  have hx := hC.x
  have hb := hC.b
  have hS : va_S (AB B) s.heap s.heap [] := va_S.rf
  have hl : lo ls 3 [some (.ref b), some (.int v), none] := lo_of hl
  obtain ⟨hbb, hO, hA0⟩ := h0
  subst hbb
  have hne : ¬ (t2 = t ∧ i2 = i ∧ j2 = j) := by
    rintro ⟨rfl, rfl, rfl⟩
    rw [hA0] at hO; cases hO
  refine o_aload_n hx hb dX5_init_0 hl rfl ?_
  refine o_oinit hC ml_X5_3 hl.1 (Nat.le_of_ble_eq_true rfl) (Nat.le_of_ble_eq_true rfl) dX5_init_1 ?_
  refine o_aload_n hx hb dX5_init_4 hl rfl ?_
  refine lv_iconst (v := 5) hx hb dX5_init_5 (by decide) ?_
  refine g_newa hC hG hS (ty := .int) rfl (cA := cy 0) (hC.K.2 0 _ rfl).2 ac_80 (a0 := (5, .inl (fun _ => 0))) rfl (by decide) (by decide) (by decide) (Nat.le_of_ble_eq_true rfl) (Nat.le_of_ble_eq_true rfl) t2 i2 j2 hA0 dX5_init_6 (fun q H hG hS => ?_)
  obtain ⟨ad1, had⟩ : ∃ z, z = up3 ad t2 i2 j2 q := ⟨_, rfl⟩
  rw [← had] at hG
  have ea : ad1 t i j = ad t i j := by rw [had]; exact up3_ne (fun z => hne ⟨z.1.symm, z.2.1.symm, z.2.2.symm⟩)
  have eq : ad1 t2 i2 j2 = q := by rw [had]; exact up3_self
  have hst : [Value.ref q, .ref (ad t i j)] = [.ref (ad1 t2 i2 j2), .ref (ad1 t i j)] := by rw [ea, eq]
  rw [hst]
  have hl : lo ls 3 [some (.ref (ad1 t i j)), some (.int v), none] := by rw [ea]; exact hl
  have hO1 : up3 X t2 i2 j2 (some (eI (cy 0) 5 (fun _ => 0))) t i j = some (.inr (6, [.null])) := (up3_ne (fun z => hne ⟨z.1.symm, z.2.1.symm, z.2.2.symm⟩)).trans hO
  refine g_putF hC hnm hG hS us_X5 tyX5_ok nmX5 rfl 0 (by decide) fl_X5_9 rfl rfl hO1 rfl rfl (Nat.le_of_ble_eq_true rfl) (up3_comm hne) dX5_init_8 (fun H locs hG hS => ?_)
  refine lv_iconst (v := 0) hx hb dX5_init_11 (by decide) ?_
  refine o_istore_n hx hb dX5_init_12 hl (by decide) rfl (fun ls hl => ?_)
  have loop13 : ∀ (q9 : Nat) (y : Nat), y ≤ 5 ∧ 5 < y + q9 → ∀ (H : Heap) (locs : List Loc), GW D B ad1 (up3 (up3 X t i j (some (.inr (6, [.ref (ad1 t2 i2 j2)])))) t2 i2 j2 (some (eI (cy 0) 5 (fillv v 0 y)))) H → va_S (AB B) s.heap H locs → ∀ ls : Array Slot, lo ls 3 [some (.ref (ad1 t i j)), some (.int v), some (.int (nI y))] → W p l e ({ frames := 1, cells := 1, slots := 5, locals := 13 } : Room) s m [.ref (ad t i j), .int v].toArray below meth c H locs 1 5 (MQ below (oV B (fun H => ∃ q, GW D B (up3 ad t2 i2 j2 q) (up3 (up3 X t i j (some (.inr (6, [.ref q])))) t2 i2 j2 (some (eI (cy 0) 5 (fillv v 0 5)))) H)) [.ref (ad t i j), .int v].toArray s 1 5 (AB B)) (F0 m 13 ls []) := by
    intro q9
    induction q9 with
    | zero => intro y hq9; exact absurd hq9 (by omega)
    | succ q9 ih13 =>
      intro y hq9  H locs hG hS ls hl
      have hA3 : (up3 (up3 X t i j (some (.inr (6, [.ref (ad1 t2 i2 j2)])))) t2 i2 j2 (some (eI (cy 0) 5 (fillv v 0 y)))) t2 i2 j2 = some (eI (cy 0) 5 (fillv v 0 y)) := up3_self
      have hO2 : (up3 (up3 X t i j (some (.inr (6, [.ref (ad1 t2 i2 j2)])))) t2 i2 j2 (some (eI (cy 0) 5 (fillv v 0 y)))) t i j = some (.inr (6, [.ref (ad1 t2 i2 j2)])) := (up3_ne (fun z => hne ⟨z.1.symm, z.2.1.symm, z.2.2.symm⟩)).trans up3_self
      refine o_iload_n hx hb dX5_init_13 hl rfl ?_
      refine o_aload_n hx hb dX5_init_14 hl rfl ?_
      refine g_get hC hG us_X5 rfl 0 (by decide) fl_X5_9 hO2 rfl dX5_init_15 ?_
      refine g_alen hC hG 0 rfl hA3 (v := nI 5) rfl dX5_init_18 ?_
      refine n_icmp_ge (tgt := 35) hx hb y 5 rfl rfl (by omega) (by omega) dX5_init_19 (by decide) (fun h19 => ?_) (fun h19 => ?_)
      · skip
        exact R_V hC hS hr hlk ((fun hy5 => by subst hy5; exact ⟨q, by rw [← had, ← eq]; exact hG⟩ : y = 5 → _) (by omega)) (Nat.le_of_ble_eq_true rfl) (Nat.le_of_ble_eq_true rfl) dX5_init_35
      · skip
        refine o_aload_n hx hb dX5_init_22 hl rfl ?_
        refine g_get hC hG us_X5 rfl 0 (by decide) fl_X5_9 hO2 rfl dX5_init_23 ?_
        refine o_iload_n hx hb dX5_init_26 hl rfl ?_
        refine o_iload_n hx hb dX5_init_27 hl rfl ?_
        refine g_iast hC hG hS hA3 _ rfl (by omega) (by omega) up3_up3 dX5_init_28 (fun H locs hG hS => ?_)
        refine o_iinc1 hx hb dX5_init_29 hl rfl (by decide) rfl (fun ls hl => ?_)
        refine lv_goto (tgt := 13) hx hb dX5_init_32 (by decide) ?_
        exact ih13 (y + 1) (by omega) H locs (by rw [fillv_s]; exact hG) hS ls hl
  exact loop13 6 0 (by omega) H locs (by rw [fillv_0]; exact hG) hS ls hl
theorem k_X5_init {p : Program} {l : Launch} {e : Env} {R : Room} {s : State} {m : MethodId} {args : Array Value} {below : List Frame} {meth : Method} {c : Code} {H : Heap} {locs : List Loc} {cells slots : Nat} {Q : State → Prop} {cc : ByteArray} {pc nL : Nat} {ls : Array Slot} {rest : List Value} {own : String} {D : va_G} {cy : Nat → ClassId} {sa : Nat → Nat} {de B : Nat} {ad : Ad} {X : Rl} {v : Int32} {b t i j t2 i2 j2 : Nat}  (hC : Cx p m c cc nL s args own D cy sa de B) (hS : va_S (AB B) s.heap H locs) (hG : GW D B ad (X) H) (h0 : ad t i j = b ∧ X t i j = some (.inr (6, [.null])) ∧ X t2 i2 j2 = none)  {idx : Nat} (wl : Cond.methodLink own idx yX5_init ∈ G0) (hR : 1 + 1 ≤ R.frames ∧ 8 + (3 + 11) + 13 ≤ R.locals) (hsz : ls.size = nL) (hst : (rest.map fun v => v.category).sum ≤ 8) (hdg : decode cc pc = .ok (.invokespecial idx, 3)) (hcs : cells + 1 ≤ R.cells ∧ slots + 5 ≤ R.slots) (kk : ∀ (H1 : Heap) (locs1 : List Loc), ((fun H => ∃ q, GW D B (up3 ad t2 i2 j2 q) (up3 (up3 X t i j (some (.inr (6, [.ref q])))) t2 i2 j2 (some (eI (cy 0) 5 (fillv v 0 5)))) H)) H1 → va_S (AB B) s.heap H1 locs1 → W p l e R s m args below meth c H1 locs1 (cells + 1) (slots + 5) Q (F0 m (pc + 3) ls (rest))) : W p l e R s m args below meth c H locs cells slots Q (F0 m pc ls (.int v :: .ref b :: rest)) :=
  va_callv (rI hC hS hG h0 (As := [.int v]) (c_X5_init l) ⟨rfl, rfl⟩ wl im_X5_init in_X5 cd_X5_init rfl (n := 1) (by decide +kernel) hR rfl hsz hst rfl hdg hcs) hS (fun _ _ h => h) (fun _ h => h) (fun u t H1 locs1 ht _ _ hB _ _ hS1 => kk H1 locs1 (by dsimp only at hB; rw [ht] at hB; exact hB) hS1)
set_option maxHeartbeats 4000000 in
set_option maxRecDepth 100000 in
theorem c_X1_init (l : Launch) {D : va_G} {cy : Nat → ClassId} {sa : Nat → Nat} {de B : Nat} {ad : Ad} {X : Rl} {b t i j : Nat} {v : Int32}  : Met l yX1_init (Cond.code yX1_init cX1_init 2 (Option.none : Option Jvm.ClassFile.FieldType) :: G0) ({ frames := 1, cells := 0, slots := 0, locals := 13 } : Room) (va_Pc [.ref b, .int v] (PW D cy sa de B ad (X) (ad t i j = b ∧ X t i j = some (.inr (2, [.int 0]))))) (oV B (fun H => GW D B ad (up3 X t i j (some (.inr (2, [.int v])))) H)) 0 0 (AB B) := by
  refine E_met (own := RX1) rfl rfl (Nat.le_of_ble_eq_true rfl) ?_
  intro p e s m below meth c hC hr hlk hnm hG h0 ls hl
  have hx := hC.x
  have hb := hC.b
  have hS : va_S (AB B) s.heap s.heap [] := va_S.rf
  have hl : lo ls 2 [some (.ref b), some (.int v)] := lo_of hl
  obtain ⟨hbb, hO⟩ := h0
  subst hbb
  refine o_aload_n hx hb dX1_init_0 hl rfl ?_
  refine o_oinit hC ml_X1_1 hl.1 (Nat.le_of_ble_eq_true rfl) (Nat.le_of_ble_eq_true rfl) dX1_init_1 ?_
  refine o_aload_n hx hb dX1_init_4 hl rfl ?_
  refine o_iload_n hx hb dX1_init_5 hl rfl ?_
  refine g_putF hC hnm hG hS us_X1 tyX1_ok nmX1 rfl 0 (by decide) fl_X1_7 rfl rfl hO rfl rfl (Nat.le_of_ble_eq_true rfl) rfl dX1_init_6 (fun H locs hG hS => ?_)
  exact R_V hC hS hr hlk (hG) (Nat.le_of_ble_eq_true rfl) (Nat.le_of_ble_eq_true rfl) dX1_init_9
theorem k_X1_init {p : Program} {l : Launch} {e : Env} {R : Room} {s : State} {m : MethodId} {args : Array Value} {below : List Frame} {meth : Method} {c : Code} {H : Heap} {locs : List Loc} {cells slots : Nat} {Q : State → Prop} {cc : ByteArray} {pc nL : Nat} {ls : Array Slot} {rest : List Value} {own : String} {D : va_G} {cy : Nat → ClassId} {sa : Nat → Nat} {de B : Nat} {ad : Ad} {X : Rl} {b t i j : Nat} {v : Int32}  (hC : Cx p m c cc nL s args own D cy sa de B) (hS : va_S (AB B) s.heap H locs) (hG : GW D B ad (X) H) (h0 : ad t i j = b ∧ X t i j = some (.inr (2, [.int 0])))  {idx : Nat} (wl : Cond.methodLink own idx yX1_init ∈ G0) (hR : 1 + 1 ≤ R.frames ∧ 8 + (2 + 11) + 13 ≤ R.locals) (hsz : ls.size = nL) (hst : (rest.map fun v => v.category).sum ≤ 8) (hdg : decode cc pc = .ok (.invokespecial idx, 3)) (hcs : cells + 0 ≤ R.cells ∧ slots + 0 ≤ R.slots) (kk : ∀ (H1 : Heap) (locs1 : List Loc), ((fun H => GW D B ad (up3 X t i j (some (.inr (2, [.int v])))) H)) H1 → va_S (AB B) s.heap H1 locs1 → W p l e R s m args below meth c H1 locs1 cells slots Q (F0 m (pc + 3) ls (rest))) : W p l e R s m args below meth c H locs cells slots Q (F0 m pc ls (.int v :: .ref b :: rest)) :=
  va_callv (rI hC hS hG h0 (As := [.int v]) (c_X1_init l) ⟨rfl, rfl⟩ wl im_X1_init in_X1 cd_X1_init rfl (n := 1) (by decide +kernel) hR rfl hsz hst rfl hdg hcs) hS (fun _ _ h => h) (fun _ h => h) (fun u t H1 locs1 ht _ _ hB _ _ hS1 => kk H1 locs1 (by dsimp only at hB; rw [ht] at hB; exact hB) hS1)
set_option maxHeartbeats 4000000 in
set_option maxRecDepth 100000 in
theorem c_X4_init (l : Launch) {D : va_G} {cy : Nat → ClassId} {sa : Nat → Nat} {de B : Nat} {ad : Ad} {X : Rl} {b t i j : Nat} {x y z : Int32}  : Met l yX4_init (Cond.code yX4_init cX4_init 4 (Option.none : Option Jvm.ClassFile.FieldType) :: G0) ({ frames := 1, cells := 0, slots := 0, locals := 13 } : Room) (va_Pc [.ref b, .int x, .int y, .int z] (PW D cy sa de B ad (X) (ad t i j = b ∧ X t i j = some (.inr (5, [.int 0, .int 0, .int 0, .int 0, .int 0, .int 0]))))) (oV B (fun H => GW D B ad (up3 X t i j (some (.inr (5, [.int x, .int y, .int z, .int 0, .int 0, .int (-1)])))) H)) 0 0 (AB B) := by
  refine E_met (own := RX4) rfl rfl (Nat.le_of_ble_eq_true rfl) ?_
  intro p e s m below meth c hC hr hlk hnm hG h0 ls hl
  have hx := hC.x
  have hb := hC.b
  have hS : va_S (AB B) s.heap s.heap [] := va_S.rf
  have hl : lo ls 4 [some (.ref b), some (.int x), some (.int y), some (.int z)] := lo_of hl
  obtain ⟨hbb, hO⟩ := h0
  subst hbb
  refine o_aload_n hx hb dX4_init_0 hl rfl ?_
  refine o_oinit hC ml_X4_3 hl.1 (Nat.le_of_ble_eq_true rfl) (Nat.le_of_ble_eq_true rfl) dX4_init_1 ?_
  refine o_aload_n hx hb dX4_init_4 hl rfl ?_
  refine lv_iconst (v := (-1)) hx hb dX4_init_5 (by decide) ?_
  refine g_put hC hG hS us_X4 tyX4_ok nmX4 rfl 5 (by decide) fl_X4_9 rfl hO rfl rfl (Nat.le_of_ble_eq_true rfl) rfl dX4_init_6 (fun H locs hG hS => ?_)
  refine o_aload_n hx hb dX4_init_9 hl rfl ?_
  refine o_iload_n hx hb dX4_init_10 hl rfl ?_
  refine g_putF hC hnm hG hS us_X4 tyX4_ok nmX4 rfl 0 (by decide) fl_X4_15 rfl rfl (show up3 X t i j _ t i j = _ from up3_self) rfl rfl (Nat.le_of_ble_eq_true rfl) up3_up3 dX4_init_11 (fun H locs hG hS => ?_)
  refine o_aload_n hx hb dX4_init_14 hl rfl ?_
  refine o_iload_n hx hb dX4_init_15 hl rfl ?_
  refine g_putF hC hnm hG hS us_X4 tyX4_ok nmX4 rfl 1 (by decide) fl_X4_18 rfl rfl (show up3 X t i j _ t i j = _ from up3_self) rfl rfl (Nat.le_of_ble_eq_true rfl) up3_up3 dX4_init_16 (fun H locs hG hS => ?_)
  refine o_aload_n hx hb dX4_init_19 hl rfl ?_
  refine o_iload_n hx hb dX4_init_20 hl rfl ?_
  refine g_putF hC hnm hG hS us_X4 tyX4_ok nmX4 rfl 2 (by decide) fl_X4_21 rfl rfl (show up3 X t i j _ t i j = _ from up3_self) rfl rfl (Nat.le_of_ble_eq_true rfl) up3_up3 dX4_init_21 (fun H locs hG hS => ?_)
  exact R_V hC hS hr hlk (hG) (Nat.le_of_ble_eq_true rfl) (Nat.le_of_ble_eq_true rfl) dX4_init_24
theorem k_X4_init {p : Program} {l : Launch} {e : Env} {R : Room} {s : State} {m : MethodId} {args : Array Value} {below : List Frame} {meth : Method} {c : Code} {H : Heap} {locs : List Loc} {cells slots : Nat} {Q : State → Prop} {cc : ByteArray} {pc nL : Nat} {ls : Array Slot} {rest : List Value} {own : String} {D : va_G} {cy : Nat → ClassId} {sa : Nat → Nat} {de B : Nat} {ad : Ad} {X : Rl} {b t i j : Nat} {x y z : Int32}  (hC : Cx p m c cc nL s args own D cy sa de B) (hS : va_S (AB B) s.heap H locs) (hG : GW D B ad (X) H) (h0 : ad t i j = b ∧ X t i j = some (.inr (5, [.int 0, .int 0, .int 0, .int 0, .int 0, .int 0])))  {idx : Nat} (wl : Cond.methodLink own idx yX4_init ∈ G0) (hR : 1 + 1 ≤ R.frames ∧ 8 + (4 + 11) + 13 ≤ R.locals) (hsz : ls.size = nL) (hst : (rest.map fun v => v.category).sum ≤ 8) (hdg : decode cc pc = .ok (.invokespecial idx, 3)) (hcs : cells + 0 ≤ R.cells ∧ slots + 0 ≤ R.slots) (kk : ∀ (H1 : Heap) (locs1 : List Loc), ((fun H => GW D B ad (up3 X t i j (some (.inr (5, [.int x, .int y, .int z, .int 0, .int 0, .int (-1)])))) H)) H1 → va_S (AB B) s.heap H1 locs1 → W p l e R s m args below meth c H1 locs1 cells slots Q (F0 m (pc + 3) ls (rest))) : W p l e R s m args below meth c H locs cells slots Q (F0 m pc ls (.int z :: .int y :: .int x :: .ref b :: rest)) :=
  va_callv (rI hC hS hG h0 (As := [.int x, .int y, .int z]) (c_X4_init l) ⟨rfl, rfl⟩ wl im_X4_init in_X4 cd_X4_init rfl (n := 3) (by decide +kernel) hR rfl hsz hst rfl hdg hcs) hS (fun _ _ h => h) (fun _ h => h) (fun u t H1 locs1 ht _ _ hB _ _ hS1 => kk H1 locs1 (by dsimp only at hB; rw [ht] at hB; exact hB) hS1)
