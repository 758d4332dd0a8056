set_option maxHeartbeats 4000000 in
set_option maxRecDepth 100000 in
theorem c_J3_checkIndex_8e157 (l : Launch) {D : va_G} {cy : Nat → ClassId} {sa : Nat → Nat} {de B : Nat} {ad : Ad} {S : St} {n : Nat → Nat} {T : St} {k : Nat → Nat} {th : Int32} {X : Rl} {a b : Nat}  : Met l yJ3_checkIndex_8e157 (Cond.code yJ3_checkIndex_8e157 cJ3_checkIndex_8e157 3 (Option.some Jvm.ClassFile.FieldType.int) :: G0) ({ frames := 0, cells := 0, slots := 0, locals := 0 } : Room) (va_Pc [.int (nI a), .int (nI b), .null] (PW D cy sa de B ad (Vw cy de ad S n T k th X) (a < b ∧ b < 2 ^ 31))) (vp_Si (fun r => r = nI a)) 0 0 (fun _ => False) := by
  refine E_met (own := RJ3) rfl rfl (Nat.le_of_ble_eq_true rfl) ?_
  intro p e s m below meth c hC hr hlk hnm hG h0 ls hl
  have hx := hC.x
  have hb := hC.b
  have hS : va_S (AB B) s.heap s.heap [] := va_S.rf
  have hl : lo ls 3 [some (.int (nI a)), some (.int (nI b)), some (.null)] := lo_of hl
  obtain ⟨ha, hbb⟩ := h0
  refine o_iload_n hx hb dJ3_checkIndex_8e157_0 hl rfl ?_
  refine lv_if_lt (tgt := 9) hx hb dJ3_checkIndex_8e157_1 (by decide) (fun h1 => ?_) (fun h1 => ?_)
  · exact absurd h1 (nI_pos (by omega))
  · skip
    refine o_iload_n hx hb dJ3_checkIndex_8e157_4 hl rfl ?_
    refine o_iload_n hx hb dJ3_checkIndex_8e157_5 hl rfl ?_
    refine n_icmp_lt (tgt := 16) hx hb a b rfl rfl (by omega) (by omega) dJ3_checkIndex_8e157_6 (by decide) (fun h6 => ?_) (fun h6 => ?_)
    · skip
      refine o_iload_n hx hb dJ3_checkIndex_8e157_16 hl rfl ?_
      exact R_i hC hr hlk rfl (rfl) dJ3_checkIndex_8e157_17
    · exact absurd h6 (by omega)
theorem k_J3_checkIndex_8e157 {p : Program} {l : Launch} {e : Env} {R : Room} {s : State} {m : MethodId} {args : Array Value} {below : List Frame} {meth : Method} {c : Code} {H : Heap} {locs : List Loc} {cells slots : Nat} {Q : State → Prop} {cc : ByteArray} {pc nL : Nat} {ls : Array Slot} {rest : List Value} {own : String} {D : va_G} {cy : Nat → ClassId} {sa : Nat → Nat} {de B : Nat} {ad : Ad} {S : St} {n : Nat → Nat} {T : St} {k : Nat → Nat} {th : Int32} {X : Rl} {a b : Nat}  (hC : Cx p m c cc nL s args own D cy sa de B) (hS : va_S (AB B) s.heap H locs) (hG : GW D B ad (Vw cy de ad S n T k th X) H) (h0 : a < b ∧ b < 2 ^ 31)  {idx : Nat} (wl : Cond.methodLink own idx yJ3_checkIndex_8e157 ∈ G0) (hR : 0 + 1 ≤ R.frames ∧ 8 + (3 + 11) + 0 ≤ R.locals) (hsz : ls.size = nL) (hst : (rest.map fun v => v.category).sum ≤ 8) (hdg : decode cc pc = .ok (.invokestatic idx, 3)) (hcs : cells + 0 ≤ R.cells ∧ slots + 0 ≤ R.slots) (kk : W p l e R s m args below meth c H locs cells slots Q (F0 m (pc + 3) ls (.int (nI a) :: rest))) : W p l e R s m args below meth c H locs cells slots Q (F0 m pc ls (.null :: .int (nI b) :: .int (nI a) :: rest)) :=
  vp_callSi (va_Run.run (rS hC hS hG h0 (As := [.int (nI a), .int (nI b), .null]) (c_J3_checkIndex_8e157 l) ⟨rfl, rfl⟩ wl sm_J3_checkIndex_8e157 in_J3 cd_J3_checkIndex_8e157 (n := 3) (by decide +kernel) hR rfl hsz hst rfl hdg hcs)) (fun r hr => by subst hr; exact kk)
set_option maxHeartbeats 4000000 in
set_option maxRecDepth 100000 in
theorem c_J15_checkIndex_7cf53 (l : Launch) {D : va_G} {cy : Nat → ClassId} {sa : Nat → Nat} {de B : Nat} {ad : Ad} {S : St} {n : Nat → Nat} {T : St} {k : Nat → Nat} {th : Int32} {X : Rl} {a b : Nat}  : Met l yJ15_checkIndex_7cf53 (Cond.code yJ15_checkIndex_7cf53 cJ15_checkIndex_7cf53 2 (Option.some Jvm.ClassFile.FieldType.int) :: G0) ({ frames := 1, cells := 0, slots := 0, locals := 22 } : Room) (va_Pc [.int (nI a), .int (nI b)] (PW D cy sa de B ad (Vw cy de ad S n T k th X) (a < b ∧ b < 2 ^ 31))) (vp_Si (fun r => r = nI a)) 0 0 (fun _ => False) := by
  refine E_met (own := RJ15) rfl rfl (Nat.le_of_ble_eq_true rfl) ?_
  intro p e s m below meth c hC hr hlk hnm hG h0 ls hl
  have hx := hC.x
  have hb := hC.b
  have hS : va_S (AB B) s.heap s.heap [] := va_S.rf
  have hl : lo ls 2 [some (.int (nI a)), some (.int (nI b))] := lo_of hl
  refine o_iload_n hx hb dJ15_checkIndex_7cf53_0 hl rfl ?_
  refine o_iload_n hx hb dJ15_checkIndex_7cf53_1 hl rfl ?_
  refine lv_null hx hb dJ15_checkIndex_7cf53_2 ?_
  refine k_J3_checkIndex_8e157 hC hS hG h0 ml_J15_105 ⟨Nat.le_of_ble_eq_true rfl, Nat.le_of_ble_eq_true rfl⟩ hl.1 (Nat.le_of_ble_eq_true rfl) dJ15_checkIndex_7cf53_3 ⟨Nat.le_of_ble_eq_true rfl, Nat.le_of_ble_eq_true rfl⟩ ?_
  exact R_i hC hr hlk rfl (rfl) dJ15_checkIndex_7cf53_6
theorem k_J15_checkIndex_7cf53 {p : Program} {l : Launch} {e : Env} {R : Room} {s : State} {m : MethodId} {args : Array Value} {below : List Frame} {meth : Method} {c : Code} {H : Heap} {locs : List Loc} {cells slots : Nat} {Q : State → Prop} {cc : ByteArray} {pc nL : Nat} {ls : Array Slot} {rest : List Value} {own : String} {D : va_G} {cy : Nat → ClassId} {sa : Nat → Nat} {de B : Nat} {ad : Ad} {S : St} {n : Nat → Nat} {T : St} {k : Nat → Nat} {th : Int32} {X : Rl} {a b : Nat}  (hC : Cx p m c cc nL s args own D cy sa de B) (hS : va_S (AB B) s.heap H locs) (hG : GW D B ad (Vw cy de ad S n T k th X) H) (h0 : a < b ∧ b < 2 ^ 31)  {idx : Nat} (wl : Cond.methodLink own idx yJ15_checkIndex_7cf53 ∈ G0) (hR : 1 + 1 ≤ R.frames ∧ 8 + (2 + 11) + 22 ≤ R.locals) (hsz : ls.size = nL) (hst : (rest.map fun v => v.category).sum ≤ 8) (hdg : decode cc pc = .ok (.invokestatic idx, 3)) (hcs : cells + 0 ≤ R.cells ∧ slots + 0 ≤ R.slots) (kk : W p l e R s m args below meth c H locs cells slots Q (F0 m (pc + 3) ls (.int (nI a) :: rest))) : W p l e R s m args below meth c H locs cells slots Q (F0 m pc ls (.int (nI b) :: .int (nI a) :: rest)) :=
  vp_callSi (va_Run.run (rS hC hS hG h0 (As := [.int (nI a), .int (nI b)]) (c_J15_checkIndex_7cf53 l) ⟨rfl, rfl⟩ wl sm_J15_checkIndex_7cf53 in_J15 cd_J15_checkIndex_7cf53 (n := 2) (by decide +kernel) hR rfl hsz hst rfl hdg hcs)) (fun r hr => by subst hr; exact kk)
set_option maxHeartbeats 4000000 in
set_option maxRecDepth 100000 in
theorem c_Jx4a65c_size_8abf5 (l : Launch) {D : va_G} {cy : Nat → ClassId} {sa : Nat → Nat} {de B : Nat} {ad : Ad} {S : St} {n : Nat → Nat} {T : St} {k : Nat → Nat} {th : Int32} {X : Rl} {q : Nat}  : Met l yJx4a65c_size_8abf5 (Cond.code yJx4a65c_size_8abf5 cJx4a65c_size_8abf5 1 (Option.some Jvm.ClassFile.FieldType.int) :: G0) ({ frames := 0, cells := 0, slots := 0, locals := 0 } : Room) (va_Pc [.ref (ad 1 q 0)] (PW D cy sa de B ad (Vw cy de ad S n T k th X) (q < 4))) (vp_Si (fun r => r = nI (n q))) 0 0 (fun _ => False) := by
  refine E_met (own := RJx4a65c) rfl rfl (Nat.le_of_ble_eq_true rfl) ?_
  intro p e s m below meth c hC hr hlk hnm hG h0 ls hl
  have hx := hC.x
  have hb := hC.b
  have hS : va_S (AB B) s.heap s.heap [] := va_S.rf
  have hl : lo ls 1 [some (.ref (ad 1 q 0))] := lo_of hl
  refine o_aload_n hx hb dJx4a65c_size_8abf5_0 hl rfl ?_
  refine g_get hC hG us_Jx4a65c rfl 2 (by decide) fl_Jx4a65c_48 (V_list (by omega)) rfl dJx4a65c_size_8abf5_1 ?_
  exact R_i hC hr hlk rfl (rfl) dJx4a65c_size_8abf5_4
theorem k_Jx4a65c_size_8abf5 {p : Program} {l : Launch} {e : Env} {R : Room} {s : State} {m : MethodId} {args : Array Value} {below : List Frame} {meth : Method} {c : Code} {H : Heap} {locs : List Loc} {cells slots : Nat} {Q : State → Prop} {cc : ByteArray} {pc nL : Nat} {ls : Array Slot} {rest : List Value} {own : String} {D : va_G} {cy : Nat → ClassId} {sa : Nat → Nat} {de B : Nat} {ad : Ad} {S : St} {n : Nat → Nat} {T : St} {k : Nat → Nat} {th : Int32} {X : Rl} {q : Nat}  (hC : Cx p m c cc nL s args own D cy sa de B) (hS : va_S (AB B) s.heap H locs) (hG : GW D B ad (Vw cy de ad S n T k th X) H) (h0 : q < 4)  {idx : Nat} (wl : Cond.methodLink own idx yJx4a65c_size_8abf5 ∈ G0) (hR : 0 + 1 ≤ R.frames ∧ 8 + (1 + 11) + 0 ≤ R.locals) (hsz : ls.size = nL) (hst : (rest.map fun v => v.category).sum ≤ 8) (hdg : decode cc pc = .ok (.invokevirtual idx, 3)) (hcs : cells + 0 ≤ R.cells ∧ slots + 0 ≤ R.slots) (kk : W p l e R s m args below meth c H locs cells slots Q (F0 m (pc + 3) ls (.int (nI (n q)) :: rest))) : W p l e R s m args below meth c H locs cells slots Q (F0 m pc ls (.ref (ad 1 q 0) :: rest)) :=
  vp_callSi (va_Run.run (rV hC hS hG h0 (As := []) (c_Jx4a65c_size_8abf5 l) ⟨rfl, rfl⟩ wl im_Jx4a65c_size_8abf5 sl_Jx4a65c_Jx4a65c_size_8abf5 in_Jx4a65c cd_Jx4a65c_size_8abf5 (n := 0) (by decide +kernel) hR (recv hC hG (q := (RJx4a65c, TJx4a65c, 3)) rfl (V_list h0)) rfl hsz hst rfl hdg hcs)) (fun r hr => by subst hr; exact kk)
set_option maxHeartbeats 4000000 in
set_option maxRecDepth 100000 in
theorem c_Jx4a65c_elementData_915e3 (l : Launch) {D : va_G} {cy : Nat → ClassId} {sa : Nat → Nat} {de B : Nat} {ad : Ad} {S : St} {n : Nat → Nat} {T : St} {k : Nat → Nat} {th : Int32} {X : Rl} {q a w : Nat} (hw : elT q = w) : Met l yJx4a65c_elementData_915e3 (Cond.code yJx4a65c_elementData_915e3 cJx4a65c_elementData_915e3 2 (Option.some (Jvm.ClassFile.FieldType.object "java/lang/Object")) :: G0) ({ frames := 0, cells := 0, slots := 0, locals := 0 } : Room) (va_Pc [.ref (ad 1 q 0), .int (nI a)] (PW D cy sa de B ad (Vw cy de ad S n T k th X) (q < 4 ∧ a < n q ∧ n q ≤ 22))) (va_Sq (fun r => r = some (ad w a 0))) 0 0 (fun _ => False) := by
  refine E_met (own := RJx4a65c) rfl rfl (Nat.le_of_ble_eq_true rfl) ?_
  intro p e s m below meth c hC hr hlk hnm hG h0 ls hl
  have hx := hC.x
  have hb := hC.b
  have hS : va_S (AB B) s.heap s.heap [] := va_S.rf
  have hl : lo ls 2 [some (.ref (ad 1 q 0)), some (.int (nI a))] := lo_of hl
  obtain ⟨hq, ha, h22⟩ := h0
  refine o_aload_n hx hb dJx4a65c_elementData_915e3_0 hl rfl ?_
  refine g_get hC hG us_Jx4a65c rfl 1 (by decide) fl_Jx4a65c_9 (V_list (by omega)) rfl dJx4a65c_elementData_915e3_1 ?_
  rw [if_neg (show ¬ n q = 0 by omega)]
  refine o_iload_n hx hb dJx4a65c_elementData_915e3_4 hl rfl ?_
  refine g_aald hC hG 6 rfl rfl (V_data (by omega) (by omega)) _ rfl (capL_le h22 ha) (capL_lt _) dJx4a65c_elementData_915e3_5 ?_
  rw [fData_some hw ha]
  exact R_q hC hr (Or.inl ⟨_, rfl⟩) (v := some (ad w a 0)) hlk (rfl) dJx4a65c_elementData_915e3_6
theorem k_Jx4a65c_elementData_915e3 {p : Program} {l : Launch} {e : Env} {R : Room} {s : State} {m : MethodId} {args : Array Value} {below : List Frame} {meth : Method} {c : Code} {H : Heap} {locs : List Loc} {cells slots : Nat} {Q : State → Prop} {cc : ByteArray} {pc nL : Nat} {ls : Array Slot} {rest : List Value} {own : String} {D : va_G} {cy : Nat → ClassId} {sa : Nat → Nat} {de B : Nat} {ad : Ad} {S : St} {n : Nat → Nat} {T : St} {k : Nat → Nat} {th : Int32} {X : Rl} {q a w : Nat}  (hC : Cx p m c cc nL s args own D cy sa de B) (hS : va_S (AB B) s.heap H locs) (hG : GW D B ad (Vw cy de ad S n T k th X) H) (h0 : q < 4 ∧ a < n q ∧ n q ≤ 22) (hw : elT q = w) {idx : Nat} (wl : Cond.methodLink own idx yJx4a65c_elementData_915e3 ∈ G0) (hR : 0 + 1 ≤ R.frames ∧ 8 + (2 + 11) + 0 ≤ R.locals) (hsz : ls.size = nL) (hst : (rest.map fun v => v.category).sum ≤ 8) (hdg : decode cc pc = .ok (.invokevirtual idx, 3)) (hcs : cells + 0 ≤ R.cells ∧ slots + 0 ≤ R.slots) (kk : W p l e R s m args below meth c H locs cells slots Q (F0 m (pc + 3) ls (.ref (ad w a 0) :: rest))) : W p l e R s m args below meth c H locs cells slots Q (F0 m pc ls (.int (nI a) :: .ref (ad 1 q 0) :: rest)) :=
  va_csq (va_Run.run (rV hC hS hG h0 (As := [.int (nI a)]) (c_Jx4a65c_elementData_915e3 l hw) ⟨rfl, rfl⟩ wl im_Jx4a65c_elementData_915e3 sl_Jx4a65c_Jx4a65c_elementData_915e3 in_Jx4a65c cd_Jx4a65c_elementData_915e3 (n := 1) (by decide +kernel) hR (recv hC hG (q := (RJx4a65c, TJx4a65c, 3)) rfl (V_list h0.1)) rfl hsz hst rfl hdg hcs)) (fun r hr => by subst hr; exact kk)
set_option maxHeartbeats 4000000 in
set_option maxRecDepth 100000 in
theorem c_Jx4a65c_get_915e3 (l : Launch) {D : va_G} {cy : Nat → ClassId} {sa : Nat → Nat} {de B : Nat} {ad : Ad} {S : St} {n : Nat → Nat} {T : St} {k : Nat → Nat} {th : Int32} {X : Rl} {q a w : Nat} (hw : elT q = w) : Met l yJx4a65c_get_915e3 (Cond.code yJx4a65c_get_915e3 cJx4a65c_get_915e3 2 (Option.some (Jvm.ClassFile.FieldType.object "java/lang/Object")) :: G0) ({ frames := 2, cells := 0, slots := 0, locals := 43 } : Room) (va_Pc [.ref (ad 1 q 0), .int (nI a)] (PW D cy sa de B ad (Vw cy de ad S n T k th X) (q < 4 ∧ a < n q ∧ n q ≤ 22))) (va_Sq (fun r => r = some (ad w a 0))) 0 0 (fun _ => False) := by
  refine E_met (own := RJx4a65c) rfl rfl (Nat.le_of_ble_eq_true rfl) ?_
  intro p e s m below meth c hC hr hlk hnm hG h0 ls hl
  have hx := hC.x
  have hb := hC.b
  have hS : va_S (AB B) s.heap s.heap [] := va_S.rf
  have hl : lo ls 2 [some (.ref (ad 1 q 0)), some (.int (nI a))] := lo_of hl
  obtain ⟨hq, ha, h22⟩ := h0
  refine o_iload_n hx hb dJx4a65c_get_915e3_0 hl rfl ?_
  refine o_aload_n hx hb dJx4a65c_get_915e3_1 hl rfl ?_
  refine g_get hC hG us_Jx4a65c rfl 2 (by decide) fl_Jx4a65c_48 (V_list (by omega)) rfl dJx4a65c_get_915e3_2 ?_
  refine k_J15_checkIndex_7cf53 hC hS hG ⟨ha, by omega⟩ ml_Jx4a65c_118 ⟨Nat.le_of_ble_eq_true rfl, Nat.le_of_ble_eq_true rfl⟩ hl.1 (Nat.le_of_ble_eq_true rfl) dJx4a65c_get_915e3_5 ⟨Nat.le_of_ble_eq_true rfl, Nat.le_of_ble_eq_true rfl⟩ ?_
  refine lv_pop hx hb dJx4a65c_get_915e3_8 rfl ?_
  refine o_aload_n hx hb dJx4a65c_get_915e3_9 hl rfl ?_
  refine o_iload_n hx hb dJx4a65c_get_915e3_10 hl rfl ?_
  refine k_Jx4a65c_elementData_915e3 hC hS hG ⟨by omega, by omega, by omega⟩ hw ml_Jx4a65c_123 ⟨Nat.le_of_ble_eq_true rfl, Nat.le_of_ble_eq_true rfl⟩ hl.1 (Nat.le_of_ble_eq_true rfl) dJx4a65c_get_915e3_11 ⟨Nat.le_of_ble_eq_true rfl, Nat.le_of_ble_eq_true rfl⟩ ?_
  exact R_q hC hr (Or.inl ⟨_, rfl⟩) (v := some (ad w a 0)) hlk (rfl) dJx4a65c_get_915e3_14
theorem k_Jx4a65c_get_915e3 {p : Program} {l : Launch} {e : Env} {R : Room} {s : State} {m : MethodId} {args : Array Value} {below : List Frame} {meth : Method} {c : Code} {H : Heap} {locs : List Loc} {cells slots : Nat} {Q : State → Prop} {cc : ByteArray} {pc nL : Nat} {ls : Array Slot} {rest : List Value} {own : String} {D : va_G} {cy : Nat → ClassId} {sa : Nat → Nat} {de B : Nat} {ad : Ad} {S : St} {n : Nat → Nat} {T : St} {k : Nat → Nat} {th : Int32} {X : Rl} {q a w : Nat}  (hC : Cx p m c cc nL s args own D cy sa de B) (hS : va_S (AB B) s.heap H locs) (hG : GW D B ad (Vw cy de ad S n T k th X) H) (h0 : q < 4 ∧ a < n q ∧ n q ≤ 22) (hw : elT q = w) {idx : Nat} (wl : Cond.methodLink own idx yJx4a65c_get_915e3 ∈ G0) (hR : 2 + 1 ≤ R.frames ∧ 8 + (2 + 11) + 43 ≤ R.locals) (hsz : ls.size = nL) (hst : (rest.map fun v => v.category).sum ≤ 8) (hdg : decode cc pc = .ok (.invokevirtual idx, 3)) (hcs : cells + 0 ≤ R.cells ∧ slots + 0 ≤ R.slots) (kk : W p l e R s m args below meth c H locs cells slots Q (F0 m (pc + 3) ls (.ref (ad w a 0) :: rest))) : W p l e R s m args below meth c H locs cells slots Q (F0 m pc ls (.int (nI a) :: .ref (ad 1 q 0) :: rest)) :=
  va_csq (va_Run.run (rV hC hS hG h0 (As := [.int (nI a)]) (c_Jx4a65c_get_915e3 l hw) ⟨rfl, rfl⟩ wl im_Jx4a65c_get_915e3 sl_Jx4a65c_Jx4a65c_get_915e3 in_Jx4a65c cd_Jx4a65c_get_915e3 (n := 1) (by decide +kernel) hR (recv hC hG (q := (RJx4a65c, TJx4a65c, 3)) rfl (V_list h0.1)) rfl hsz hst rfl hdg hcs)) (fun r hr => by subst hr; exact kk)
set_option maxHeartbeats 4000000 in
set_option maxRecDepth 100000 in
theorem c_X6_needLand (l : Launch) (hfl : l.stackTraces = false) {D : va_G} {cy : Nat → ClassId} {sa : Nat → Nat} {de B : Nat} {ad : Ad} {S : St} {n : Nat → Nat} {T : St} {k : Nat → Nat} {th : Int32} {X : Rl} {x : Int32}  : vx_Met l yX6_needLand (Cond.code yX6_needLand cX6_needLand 1 (Option.none : Option Jvm.ClassFile.FieldType) :: G0) ({ frames := 6, cells := 1, slots := 6, locals := 82 } : Room) (va_Pc [.int x] (PW D cy sa de B ad (Vw cy de ad S n T k th X) (True))) (oV B (fun H => (∃ (a9 : Nat), a9 < 6 ∧ x = nI a9 ∧ GW D B ad (Vw cy de ad S n T k th X) H))) (oX B (fun E H => ((E = "java/lang/IndexOutOfBoundsException" ∧ ¬ ix x 6)) ∧ GW D B ad (Vw cy de ad S n T k th X) H)) 1 6 (AB B) := by
  refine E_vx (own := RX6) rfl rfl (Nat.le_of_ble_eq_true rfl) ?_
  intro p e s m below meth c hC hr hlk hex hG h0 ls hl
  have hx := hC.x
  have hb := hC.b
  have hS : va_S (AB B) s.heap s.heap [] := va_S.rf
  have hl : lo ls 1 [some (.int x)] := lo_of hl
  refine o_iload_n hx hb dX6_needLand_0 hl rfl ?_
  refine lv_if_lt (tgt := 10) hx hb dX6_needLand_1 (by decide) (fun h1 => ?_) (fun h1 => ?_)
  · skip
    exact thrW_IO hC hfl hS hG hex hlk hl.1 (si := 0) rfl dX6_needLand_10 dX6_needLand_13 dX6_needLand_14 dX6_needLand_17 dX6_needLand_20 (Nat.le_of_ble_eq_true rfl) (Nat.le_of_ble_eq_true rfl) (Nat.le_of_ble_eq_true rfl) (Nat.le_of_ble_eq_true rfl) (fun H1 hG1 => ⟨⟨rfl, by first | exact nix_neg (by decide) h1 | exact nix_ge (N := 6) (by decide) h7⟩, hG1⟩) (Nat.le_of_ble_eq_true rfl) (Nat.le_of_ble_eq_true rfl)
  · skip
    refine o_iload_n hx hb dX6_needLand_4 hl rfl ?_
    refine lv_bipush (v := 6) hx hb dX6_needLand_5 (by decide) ?_
    refine lv_icmp_lt (tgt := 21) hx hb dX6_needLand_7 (by decide) (fun h7 => ?_) (fun h7 => ?_)
    · skip
      refine vx_ret ?_
      exact R_V hC hS hr hlk ((ix_of (N := 6) (by decide) h1 h7).elim (fun a h => ⟨a, h.1, h.2, hG⟩)) (Nat.le_of_ble_eq_true rfl) (Nat.le_of_ble_eq_true rfl) dX6_needLand_21
    · skip
      exact thrW_IO hC hfl hS hG hex hlk hl.1 (si := 0) rfl dX6_needLand_10 dX6_needLand_13 dX6_needLand_14 dX6_needLand_17 dX6_needLand_20 (Nat.le_of_ble_eq_true rfl) (Nat.le_of_ble_eq_true rfl) (Nat.le_of_ble_eq_true rfl) (Nat.le_of_ble_eq_true rfl) (fun H1 hG1 => ⟨⟨rfl, by first | exact nix_neg (by decide) h1 | exact nix_ge (N := 6) (by decide) h7⟩, hG1⟩) (Nat.le_of_ble_eq_true rfl) (Nat.le_of_ble_eq_true rfl)
theorem k_X6_needLand {p : Program} {l : Launch} {e : Env} {R : Room} {s : State} {m : MethodId} {args : Array Value} {below : List Frame} {meth : Method} {c : Code} {H : Heap} {locs : List Loc} {cells slots : Nat} {cc : ByteArray} {pc nL : Nat} {ls : Array Slot} {rest : List Value} {own : String} {D : va_G} {cy : Nat → ClassId} {sa : Nat → Nat} {de B : Nat} {ad : Ad} {S : St} {n : Nat → Nat} {T : St} {k : Nat → Nat} {th : Int32} {X : Rl} {x : Int32} {mcc mss : Nat} {Qc : Array Value → State → Outcome → State → Prop} {GX : String → Heap → Prop} (hfl : l.stackTraces = false)  (hC : Cx p m c cc nL s args own D cy sa de B) (hS : va_S (AB B) s.heap H locs) (hG : GW D B ad (Vw cy de ad S n T k th X) H) (h0 : True)  {idx : Nat} (wl : Cond.methodLink own idx yX6_needLand ∈ G0) (hR : 6 + 1 ≤ R.frames ∧ 8 + (1 + 11) + 82 ≤ R.locals) (hsz : ls.size = nL) (hst : (rest.map fun v => v.category).sum ≤ 8) (hdg : decode cc pc = .ok (.invokestatic idx, 3)) (hcs : cells + 1 ≤ R.cells ∧ slots + 6 ≤ R.slots) (hex : ∀ x ∈ c.exceptionTable.toList, False) (hlk : meth.locks = false) (hmc : cells + 1 ≤ mcc) (hms : slots + 6 ≤ mss) (hxx : ∀ (E : String) (H1 : Heap), ((fun E H => ((E = "java/lang/IndexOutOfBoundsException" ∧ ¬ ix x 6)) ∧ GW D B ad (Vw cy de ad S n T k th X) H)) E H1 → GX E H1) (k0 : ∀ (a9 : Nat), (a9 < 6) → (x = nI a9) → ∀ (H1 : Heap) (locs1 : List Loc), GW D B ad (Vw cy de ad S n T k th X) H1 → va_S (AB B) s.heap H1 locs1 → W p l e R s m args below meth c H1 locs1 (cells + 1) (slots + 6) (vx_MQ below Qc (oX B GX) args s mcc mss (AB B)) (F0 m (pc + 3) ls (rest))) : W p l e R s m args below meth c H locs cells slots (vx_MQ below Qc (oX B GX) args s mcc mss (AB B)) (F0 m pc ls (.int x :: rest)) :=
  vx_callv (xS hC hS hG h0 (As := [.int x]) (c_X6_needLand l hfl) ⟨rfl, rfl⟩ wl sm_X6_needLand in_X6 cd_X6_needLand (n := 1) (by decide +kernel) hR rfl hsz hst rfl hdg hcs) hS (fun _ _ h => h) (fun _ h => h) (fun _ _ h => h) (fun E ce q9 u t H1 locs1 ht hv hp hB hz hq hS1 hce hcv hcl => prop_out hS1 hex hlk (hxx E H1 (by dsimp only at hB; rw [ht] at hB; exact hB)) hce hcv hcl hmc hms) (fun u t H1 locs1 ht _ _ hB _ _ hS1 => by
      have hB9 := hB; try dsimp only at hB9
      rw [ht] at hB9
      rcases hB9 with ⟨a9, q0, q1, hG1⟩
      · exact k0 a9 q0 q1 _ _ hG1 hS1)
set_option maxHeartbeats 4000000 in
set_option maxRecDepth 100000 in
theorem c_X6_needMeasure (l : Launch) (hfl : l.stackTraces = false) {D : va_G} {cy : Nat → ClassId} {sa : Nat → Nat} {de B : Nat} {ad : Ad} {S : St} {n : Nat → Nat} {T : St} {k : Nat → Nat} {th : Int32} {X : Rl} {x : Int32}  : vx_Met l yX6_needMeasure (Cond.code yX6_needMeasure cX6_needMeasure 1 (Option.none : Option Jvm.ClassFile.FieldType) :: G0) ({ frames := 6, cells := 1, slots := 6, locals := 82 } : Room) (va_Pc [.int x] (PW D cy sa de B ad (Vw cy de ad S n T k th X) (True))) (oV B (fun H => (∃ (a9 : Nat), a9 < 5 ∧ x = nI a9 ∧ GW D B ad (Vw cy de ad S n T k th X) H))) (oX B (fun E H => ((E = "java/lang/IllegalArgumentException" ∧ ¬ ix x 5)) ∧ GW D B ad (Vw cy de ad S n T k th X) H)) 1 6 (AB B) := by
  refine E_vx (own := RX6) rfl rfl (Nat.le_of_ble_eq_true rfl) ?_
  intro p e s m below meth c hC hr hlk hex hG h0 ls hl
  have hx := hC.x
  have hb := hC.b
  have hS : va_S (AB B) s.heap s.heap [] := va_S.rf
  have hl : lo ls 1 [some (.int x)] := lo_of hl
  refine o_iload_n hx hb dX6_needMeasure_0 hl rfl ?_
  refine lv_if_lt (tgt := 9) hx hb dX6_needMeasure_1 (by decide) (fun h1 => ?_) (fun h1 => ?_)
  · skip
    exact thrW_IA hC hfl hS hG hex hlk hl.1 (si := 3) rfl dX6_needMeasure_9 dX6_needMeasure_12 dX6_needMeasure_13 dX6_needMeasure_16 dX6_needMeasure_19 (Nat.le_of_ble_eq_true rfl) (Nat.le_of_ble_eq_true rfl) (Nat.le_of_ble_eq_true rfl) (Nat.le_of_ble_eq_true rfl) (fun H1 hG1 => ⟨⟨rfl, by first | exact nix_neg (by decide) h1 | exact nix_ge (N := 5) (by decide) h6⟩, hG1⟩) (Nat.le_of_ble_eq_true rfl) (Nat.le_of_ble_eq_true rfl)
  · skip
    refine o_iload_n hx hb dX6_needMeasure_4 hl rfl ?_
    refine lv_iconst (v := 5) hx hb dX6_needMeasure_5 (by decide) ?_
    refine lv_icmp_lt (tgt := 20) hx hb dX6_needMeasure_6 (by decide) (fun h6 => ?_) (fun h6 => ?_)
    · skip
      refine vx_ret ?_
      exact R_V hC hS hr hlk ((ix_of (N := 5) (by decide) h1 h6).elim (fun a h => ⟨a, h.1, h.2, hG⟩)) (Nat.le_of_ble_eq_true rfl) (Nat.le_of_ble_eq_true rfl) dX6_needMeasure_20
    · skip
      exact thrW_IA hC hfl hS hG hex hlk hl.1 (si := 3) rfl dX6_needMeasure_9 dX6_needMeasure_12 dX6_needMeasure_13 dX6_needMeasure_16 dX6_needMeasure_19 (Nat.le_of_ble_eq_true rfl) (Nat.le_of_ble_eq_true rfl) (Nat.le_of_ble_eq_true rfl) (Nat.le_of_ble_eq_true rfl) (fun H1 hG1 => ⟨⟨rfl, by first | exact nix_neg (by decide) h1 | exact nix_ge (N := 5) (by decide) h6⟩, hG1⟩) (Nat.le_of_ble_eq_true rfl) (Nat.le_of_ble_eq_true rfl)
theorem k_X6_needMeasure {p : Program} {l : Launch} {e : Env} {R : Room} {s : State} {m : MethodId} {args : Array Value} {below : List Frame} {meth : Method} {c : Code} {H : Heap} {locs : List Loc} {cells slots : Nat} {cc : ByteArray} {pc nL : Nat} {ls : Array Slot} {rest : List Value} {own : String} {D : va_G} {cy : Nat → ClassId} {sa : Nat → Nat} {de B : Nat} {ad : Ad} {S : St} {n : Nat → Nat} {T : St} {k : Nat → Nat} {th : Int32} {X : Rl} {x : Int32} {mcc mss : Nat} {Qc : Array Value → State → Outcome → State → Prop} {GX : String → Heap → Prop} (hfl : l.stackTraces = false)  (hC : Cx p m c cc nL s args own D cy sa de B) (hS : va_S (AB B) s.heap H locs) (hG : GW D B ad (Vw cy de ad S n T k th X) H) (h0 : True)  {idx : Nat} (wl : Cond.methodLink own idx yX6_needMeasure ∈ G0) (hR : 6 + 1 ≤ R.frames ∧ 8 + (1 + 11) + 82 ≤ R.locals) (hsz : ls.size = nL) (hst : (rest.map fun v => v.category).sum ≤ 8) (hdg : decode cc pc = .ok (.invokestatic idx, 3)) (hcs : cells + 1 ≤ R.cells ∧ slots + 6 ≤ R.slots) (hex : ∀ x ∈ c.exceptionTable.toList, False) (hlk : meth.locks = false) (hmc : cells + 1 ≤ mcc) (hms : slots + 6 ≤ mss) (hxx : ∀ (E : String) (H1 : Heap), ((fun E H => ((E = "java/lang/IllegalArgumentException" ∧ ¬ ix x 5)) ∧ GW D B ad (Vw cy de ad S n T k th X) H)) E H1 → GX E H1) (k0 : ∀ (a9 : Nat), (a9 < 5) → (x = nI a9) → ∀ (H1 : Heap) (locs1 : List Loc), GW D B ad (Vw cy de ad S n T k th X) H1 → va_S (AB B) s.heap H1 locs1 → W p l e R s m args below meth c H1 locs1 (cells + 1) (slots + 6) (vx_MQ below Qc (oX B GX) args s mcc mss (AB B)) (F0 m (pc + 3) ls (rest))) : W p l e R s m args below meth c H locs cells slots (vx_MQ below Qc (oX B GX) args s mcc mss (AB B)) (F0 m pc ls (.int x :: rest)) :=
  vx_callv (xS hC hS hG h0 (As := [.int x]) (c_X6_needMeasure l hfl) ⟨rfl, rfl⟩ wl sm_X6_needMeasure in_X6 cd_X6_needMeasure (n := 1) (by decide +kernel) hR rfl hsz hst rfl hdg hcs) hS (fun _ _ h => h) (fun _ h => h) (fun _ _ h => h) (fun E ce q9 u t H1 locs1 ht hv hp hB hz hq hS1 hce hcv hcl => prop_out hS1 hex hlk (hxx E H1 (by dsimp only at hB; rw [ht] at hB; exact hB)) hce hcv hcl hmc hms) (fun u t H1 locs1 ht _ _ hB _ _ hS1 => by
      have hB9 := hB; try dsimp only at hB9
      rw [ht] at hB9
      rcases hB9 with ⟨a9, q0, q1, hG1⟩
      · exact k0 a9 q0 q1 _ _ hG1 hS1)
set_option maxHeartbeats 4000000 in
set_option maxRecDepth 100000 in
theorem c_X6_needBounds (l : Launch) (hfl : l.stackTraces = false) {D : va_G} {cy : Nat → ClassId} {sa : Nat → Nat} {de B : Nat} {ad : Ad} {S : St} {n : Nat → Nat} {T : St} {k : Nat → Nat} {th : Int32} {X : Rl} {x y : Int32}  : vx_Met l yX6_needBounds (Cond.code yX6_needBounds cX6_needBounds 2 (Option.none : Option Jvm.ClassFile.FieldType) :: G0) ({ frames := 6, cells := 1, slots := 6, locals := 82 } : Room) (va_Pc [.int x, .int y] (PW D cy sa de B ad (Vw cy de ad S n T k th X) (True))) (oV B (fun H => (0 ≤ x ∧ x ≤ y ∧ y ≤ 500 ∧ GW D B ad (Vw cy de ad S n T k th X) H))) (oX B (fun E H => ((E = "java/lang/IllegalArgumentException" ∧ ¬ (0 ≤ x ∧ x ≤ y ∧ y ≤ 500))) ∧ GW D B ad (Vw cy de ad S n T k th X) H)) 1 6 (AB B) := by
  refine E_vx (own := RX6) rfl rfl (Nat.le_of_ble_eq_true rfl) ?_
  intro p e s m below meth c hC hr hlk hex hG h0 ls hl
  have hx := hC.x
  have hb := hC.b
  have hS : va_S (AB B) s.heap s.heap [] := va_S.rf
  have hl : lo ls 2 [some (.int x), some (.int y)] := lo_of hl
  refine o_iload_n hx hb dX6_needBounds_0 hl rfl ?_
  refine lv_if_lt (tgt := 16) hx hb dX6_needBounds_1 (by decide) (fun h1 => ?_) (fun h1 => ?_)
  · skip
    exact thrW_IA hC hfl hS hG hex hlk hl.1 (si := 9) rfl dX6_needBounds_16 dX6_needBounds_19 dX6_needBounds_20 dX6_needBounds_23 dX6_needBounds_26 (Nat.le_of_ble_eq_true rfl) (Nat.le_of_ble_eq_true rfl) (Nat.le_of_ble_eq_true rfl) (Nat.le_of_ble_eq_true rfl) (fun H1 hG1 => ⟨⟨rfl, fun z => by first | exact absurd h1 (Int32.not_lt.mpr z.1) | exact absurd h6 (Int32.not_lt.mpr z.2.1) | exact absurd z.2.2 h13⟩, hG1⟩) (Nat.le_of_ble_eq_true rfl) (Nat.le_of_ble_eq_true rfl)
  · skip
    refine o_iload_n hx hb dX6_needBounds_4 hl rfl ?_
    refine o_iload_n hx hb dX6_needBounds_5 hl rfl ?_
    refine lv_icmp_lt (tgt := 16) hx hb dX6_needBounds_6 (by decide) (fun h6 => ?_) (fun h6 => ?_)
    · skip
      exact thrW_IA hC hfl hS hG hex hlk hl.1 (si := 9) rfl dX6_needBounds_16 dX6_needBounds_19 dX6_needBounds_20 dX6_needBounds_23 dX6_needBounds_26 (Nat.le_of_ble_eq_true rfl) (Nat.le_of_ble_eq_true rfl) (Nat.le_of_ble_eq_true rfl) (Nat.le_of_ble_eq_true rfl) (fun H1 hG1 => ⟨⟨rfl, fun z => by first | exact absurd h1 (Int32.not_lt.mpr z.1) | exact absurd h6 (Int32.not_lt.mpr z.2.1) | exact absurd z.2.2 h13⟩, hG1⟩) (Nat.le_of_ble_eq_true rfl) (Nat.le_of_ble_eq_true rfl)
    · skip
      refine o_iload_n hx hb dX6_needBounds_9 hl rfl ?_
      refine lv_sipush (v := 500) hx hb dX6_needBounds_10 (by decide) ?_
      refine lv_icmp_le (tgt := 27) hx hb dX6_needBounds_13 (by decide) (fun h13 => ?_) (fun h13 => ?_)
      · skip
        refine vx_ret ?_
        exact R_V hC hS hr hlk (⟨Int32.not_lt.mp h1, Int32.not_lt.mp h6, h13, hG⟩) (Nat.le_of_ble_eq_true rfl) (Nat.le_of_ble_eq_true rfl) dX6_needBounds_27
      · skip
        exact thrW_IA hC hfl hS hG hex hlk hl.1 (si := 9) rfl dX6_needBounds_16 dX6_needBounds_19 dX6_needBounds_20 dX6_needBounds_23 dX6_needBounds_26 (Nat.le_of_ble_eq_true rfl) (Nat.le_of_ble_eq_true rfl) (Nat.le_of_ble_eq_true rfl) (Nat.le_of_ble_eq_true rfl) (fun H1 hG1 => ⟨⟨rfl, fun z => by first | exact absurd h1 (Int32.not_lt.mpr z.1) | exact absurd h6 (Int32.not_lt.mpr z.2.1) | exact absurd z.2.2 h13⟩, hG1⟩) (Nat.le_of_ble_eq_true rfl) (Nat.le_of_ble_eq_true rfl)
theorem k_X6_needBounds {p : Program} {l : Launch} {e : Env} {R : Room} {s : State} {m : MethodId} {args : Array Value} {below : List Frame} {meth : Method} {c : Code} {H : Heap} {locs : List Loc} {cells slots : Nat} {cc : ByteArray} {pc nL : Nat} {ls : Array Slot} {rest : List Value} {own : String} {D : va_G} {cy : Nat → ClassId} {sa : Nat → Nat} {de B : Nat} {ad : Ad} {S : St} {n : Nat → Nat} {T : St} {k : Nat → Nat} {th : Int32} {X : Rl} {x y : Int32} {mcc mss : Nat} {Qc : Array Value → State → Outcome → State → Prop} {GX : String → Heap → Prop} (hfl : l.stackTraces = false)  (hC : Cx p m c cc nL s args own D cy sa de B) (hS : va_S (AB B) s.heap H locs) (hG : GW D B ad (Vw cy de ad S n T k th X) H) (h0 : True)  {idx : Nat} (wl : Cond.methodLink own idx yX6_needBounds ∈ G0) (hR : 6 + 1 ≤ R.frames ∧ 8 + (2 + 11) + 82 ≤ R.locals) (hsz : ls.size = nL) (hst : (rest.map fun v => v.category).sum ≤ 8) (hdg : decode cc pc = .ok (.invokestatic idx, 3)) (hcs : cells + 1 ≤ R.cells ∧ slots + 6 ≤ R.slots) (hex : ∀ x ∈ c.exceptionTable.toList, False) (hlk : meth.locks = false) (hmc : cells + 1 ≤ mcc) (hms : slots + 6 ≤ mss) (hxx : ∀ (E : String) (H1 : Heap), ((fun E H => ((E = "java/lang/IllegalArgumentException" ∧ ¬ (0 ≤ x ∧ x ≤ y ∧ y ≤ 500))) ∧ GW D B ad (Vw cy de ad S n T k th X) H)) E H1 → GX E H1) (k0 : (0 ≤ x) → (x ≤ y) → (y ≤ 500) → ∀ (H1 : Heap) (locs1 : List Loc), GW D B ad (Vw cy de ad S n T k th X) H1 → va_S (AB B) s.heap H1 locs1 → W p l e R s m args below meth c H1 locs1 (cells + 1) (slots + 6) (vx_MQ below Qc (oX B GX) args s mcc mss (AB B)) (F0 m (pc + 3) ls (rest))) : W p l e R s m args below meth c H locs cells slots (vx_MQ below Qc (oX B GX) args s mcc mss (AB B)) (F0 m pc ls (.int y :: .int x :: rest)) :=
  vx_callv (xS hC hS hG h0 (As := [.int x, .int y]) (c_X6_needBounds l hfl) ⟨rfl, rfl⟩ wl sm_X6_needBounds in_X6 cd_X6_needBounds (n := 2) (by decide +kernel) hR rfl hsz hst rfl hdg hcs) hS (fun _ _ h => h) (fun _ h => h) (fun _ _ h => h) (fun E ce q9 u t H1 locs1 ht hv hp hB hz hq hS1 hce hcv hcl => prop_out hS1 hex hlk (hxx E H1 (by dsimp only at hB; rw [ht] at hB; exact hB)) hce hcv hcl hmc hms) (fun u t H1 locs1 ht _ _ hB _ _ hS1 => by
      have hB9 := hB; try dsimp only at hB9
      rw [ht] at hB9
      rcases hB9 with ⟨q0, q1, q2, hG1⟩
      · exact k0 q0 q1 q2 _ _ hG1 hS1)
set_option maxHeartbeats 4000000 in
set_option maxRecDepth 100000 in
theorem c_X6_needAthlete (l : Launch) (hfl : l.stackTraces = false) {D : va_G} {cy : Nat → ClassId} {sa : Nat → Nat} {de B : Nat} {ad : Ad} {S : St} {n : Nat → Nat} {T : St} {k : Nat → Nat} {th : Int32} {X : Rl} {x : Int32}  : vx_Met l yX6_needAthlete (Cond.code yX6_needAthlete cX6_needAthlete 2 (Option.some (Jvm.ClassFile.FieldType.object "EvenstartGames$Athlete")) :: G0) ({ frames := 6, cells := 1, slots := 6, locals := 82 } : Room) (va_Pc [.ref (ad 0 0 0), .int x] (PW D cy sa de B ad (Vw cy de ad S n T k th X) (WF S n))) (oQ B (fun r H => (∃ (a9 : Nat), a9 < n 0 ∧ x = nI a9 ∧ r = some (ad 3 a9 0) ∧ GW D B ad (Vw cy de ad S n T k th X) H))) (oX B (fun E H => ((E = "java/lang/IndexOutOfBoundsException" ∧ ¬ ix x (n 0))) ∧ GW D B ad (Vw cy de ad S n T k th X) H)) 1 6 (AB B) := by
  refine E_vx (own := RX6) rfl rfl (Nat.le_of_ble_eq_true rfl) ?_
  intro p e s m below meth c hC hr hlk hex hG h0 ls hl
  have hx := hC.x
  have hb := hC.b
  have hS : va_S (AB B) s.heap s.heap [] := va_S.rf
  have hl : lo ls 2 [some (.ref (ad 0 0 0)), some (.int x)] := lo_of hl
  have hW := h0
  have hW9 := hW
  obtain ⟨hB0, hB1, hB2, hB3, hB4, hB5, hB6, hB7, hKI, hEI, hKY⟩ := hW9
  refine o_iload_n hx hb dX6_needAthlete_0 hl rfl ?_
  refine lv_if_lt (tgt := 15) hx hb dX6_needAthlete_1 (by decide) (fun h1 => ?_) (fun h1 => ?_)
  · skip
    exact thrW_IO hC hfl hS hG hex hlk hl.1 (si := 2) rfl dX6_needAthlete_15 dX6_needAthlete_18 dX6_needAthlete_19 dX6_needAthlete_22 dX6_needAthlete_25 (Nat.le_of_ble_eq_true rfl) (Nat.le_of_ble_eq_true rfl) (Nat.le_of_ble_eq_true rfl) (Nat.le_of_ble_eq_true rfl) (fun H1 hG1 => ⟨⟨rfl, by first | exact nix_neg (by omega) h1 | exact nix_ge (N := n 0) (by omega) h12⟩, hG1⟩) (Nat.le_of_ble_eq_true rfl) (Nat.le_of_ble_eq_true rfl)
  · skip
    refine o_iload_n hx hb dX6_needAthlete_4 hl rfl ?_
    refine o_aload_n hx hb dX6_needAthlete_5 hl rfl ?_
    refine g_get hC hG us_X6 rfl 0 (by decide) fl_X6_10 V_games rfl dX6_needAthlete_6 ?_
    refine k_Jx4a65c_size_8abf5 (q := 0) hC hS hG (by omega) ml_X6_33 ⟨Nat.le_of_ble_eq_true rfl, Nat.le_of_ble_eq_true rfl⟩ hl.1 (Nat.le_of_ble_eq_true rfl) dX6_needAthlete_9 ⟨Nat.le_of_ble_eq_true rfl, Nat.le_of_ble_eq_true rfl⟩ ?_
    refine lv_icmp_lt (tgt := 26) hx hb dX6_needAthlete_12 (by decide) (fun h12 => ?_) (fun h12 => ?_)
    · skip
      obtain ⟨a, ha, rfl⟩ := ix_of (N := n 0) (by omega) h1 h12
      refine o_aload_n hx hb dX6_needAthlete_26 hl rfl ?_
      refine g_get hC hG us_X6 rfl 0 (by decide) fl_X6_10 V_games rfl dX6_needAthlete_27 ?_
      refine o_iload_n hx hb dX6_needAthlete_30 hl rfl ?_
      refine k_Jx4a65c_get_915e3 (q := 0) hC hS hG ⟨by omega, by omega, by omega⟩ (show elT 0 = 3 from rfl) ml_X6_185 ⟨Nat.le_of_ble_eq_true rfl, Nat.le_of_ble_eq_true rfl⟩ hl.1 (Nat.le_of_ble_eq_true rfl) dX6_needAthlete_31 ⟨Nat.le_of_ble_eq_true rfl, Nat.le_of_ble_eq_true rfl⟩ ?_
      refine va_castS hx hb hC.o (hC.t _ cl_X6_44) (hC.K.1 1 _ rfl).2 (recv hC hG (q := (RX0, TX0, 10)) rfl (V_ath (by omega))) dX6_needAthlete_34 ?_
      refine vx_ret ?_
      exact R_Q hC hS hr (Or.inl ⟨_, rfl⟩) (v := some (ad 3 a 0)) hlk (⟨a, ha, rfl, rfl, hG⟩) (Nat.le_of_ble_eq_true rfl) (Nat.le_of_ble_eq_true rfl) dX6_needAthlete_37
    · skip
      exact thrW_IO hC hfl hS hG hex hlk hl.1 (si := 2) rfl dX6_needAthlete_15 dX6_needAthlete_18 dX6_needAthlete_19 dX6_needAthlete_22 dX6_needAthlete_25 (Nat.le_of_ble_eq_true rfl) (Nat.le_of_ble_eq_true rfl) (Nat.le_of_ble_eq_true rfl) (Nat.le_of_ble_eq_true rfl) (fun H1 hG1 => ⟨⟨rfl, by first | exact nix_neg (by omega) h1 | exact nix_ge (N := n 0) (by omega) h12⟩, hG1⟩) (Nat.le_of_ble_eq_true rfl) (Nat.le_of_ble_eq_true rfl)
theorem k_X6_needAthlete {p : Program} {l : Launch} {e : Env} {R : Room} {s : State} {m : MethodId} {args : Array Value} {below : List Frame} {meth : Method} {c : Code} {H : Heap} {locs : List Loc} {cells slots : Nat} {cc : ByteArray} {pc nL : Nat} {ls : Array Slot} {rest : List Value} {own : String} {D : va_G} {cy : Nat → ClassId} {sa : Nat → Nat} {de B : Nat} {ad : Ad} {S : St} {n : Nat → Nat} {T : St} {k : Nat → Nat} {th : Int32} {X : Rl} {x : Int32} {mcc mss : Nat} {Qc : Array Value → State → Outcome → State → Prop} {GX : String → Heap → Prop} (hfl : l.stackTraces = false)  (hC : Cx p m c cc nL s args own D cy sa de B) (hS : va_S (AB B) s.heap H locs) (hG : GW D B ad (Vw cy de ad S n T k th X) H) (h0 : WF S n)  {idx : Nat} (wl : Cond.methodLink own idx yX6_needAthlete ∈ G0) (hR : 6 + 1 ≤ R.frames ∧ 8 + (2 + 11) + 82 ≤ R.locals) (hsz : ls.size = nL) (hst : (rest.map fun v => v.category).sum ≤ 8) (hdg : decode cc pc = .ok (.invokevirtual idx, 3)) (hcs : cells + 1 ≤ R.cells ∧ slots + 6 ≤ R.slots) (hex : ∀ x ∈ c.exceptionTable.toList, False) (hlk : meth.locks = false) (hmc : cells + 1 ≤ mcc) (hms : slots + 6 ≤ mss) (hxx : ∀ (E : String) (H1 : Heap), ((fun E H => ((E = "java/lang/IndexOutOfBoundsException" ∧ ¬ ix x (n 0))) ∧ GW D B ad (Vw cy de ad S n T k th X) H)) E H1 → GX E H1) (k0 : ∀ (a9 : Nat), (a9 < n 0) → (x = nI a9) → ∀ (H1 : Heap) (locs1 : List Loc), GW D B ad (Vw cy de ad S n T k th X) H1 → va_S (AB B) s.heap H1 locs1 → W p l e R s m args below meth c H1 locs1 (cells + 1) (slots + 6) (vx_MQ below Qc (oX B GX) args s mcc mss (AB B)) (F0 m (pc + 3) ls (.ref (ad 3 a9 0) :: rest))) : W p l e R s m args below meth c H locs cells slots (vx_MQ below Qc (oX B GX) args s mcc mss (AB B)) (F0 m pc ls (.int x :: .ref (ad 0 0 0) :: rest)) :=
  vx_callq (xV hC hS hG h0 (As := [.int x]) (c_X6_needAthlete l hfl) ⟨rfl, rfl⟩ wl im_X6_needAthlete sl_X6_X6_needAthlete in_X6 cd_X6_needAthlete (n := 1) (by decide +kernel) hR (recv hC hG (q := (RX6, TX6, 6)) rfl V_games) rfl hsz hst rfl hdg hcs) hS (fun _ _ h => h) (fun _ h => h) (fun _ _ h => h) (fun E ce q9 u t H1 locs1 ht hv hp hB hz hq hS1 hce hcv hcl => prop_out hS1 hex hlk (hxx E H1 (by dsimp only at hB; rw [ht] at hB; exact hB)) hce hcv hcl hmc hms) (fun r u t H1 locs1 ht _ hr hB _ _ hS1 => by
      subst hr
      have hB9 := hB; try dsimp only at hB9
      rw [ht] at hB9
      rcases hB9 with ⟨a9, q0, q1, rfl, hG1⟩
      · exact k0 a9 q0 q1 _ _ hG1 hS1)
set_option maxHeartbeats 4000000 in
set_option maxRecDepth 100000 in
theorem c_X6_needClassifier (l : Launch) (hfl : l.stackTraces = false) {D : va_G} {cy : Nat → ClassId} {sa : Nat → Nat} {de B : Nat} {ad : Ad} {S : St} {n : Nat → Nat} {T : St} {k : Nat → Nat} {th : Int32} {X : Rl} {x : Int32}  : vx_Met l yX6_needClassifier (Cond.code yX6_needClassifier cX6_needClassifier 2 (Option.some (Jvm.ClassFile.FieldType.object "EvenstartGames$Classifier")) :: G0) ({ frames := 6, cells := 1, slots := 6, locals := 82 } : Room) (va_Pc [.ref (ad 0 0 0), .int x] (PW D cy sa de B ad (Vw cy de ad S n T k th X) (WF S n))) (oQ B (fun r H => (∃ (a9 : Nat), a9 < n 1 ∧ x = nI a9 ∧ r = some (ad 6 a9 0) ∧ GW D B ad (Vw cy de ad S n T k th X) H))) (oX B (fun E H => ((E = "java/lang/IndexOutOfBoundsException" ∧ ¬ ix x (n 1))) ∧ GW D B ad (Vw cy de ad S n T k th X) H)) 1 6 (AB B) := by
  refine E_vx (own := RX6) rfl rfl (Nat.le_of_ble_eq_true rfl) ?_
  intro p e s m below meth c hC hr hlk hex hG h0 ls hl
  have hx := hC.x
  have hb := hC.b
  have hS : va_S (AB B) s.heap s.heap [] := va_S.rf
  have hl : lo ls 2 [some (.ref (ad 0 0 0)), some (.int x)] := lo_of hl
  have hW := h0
  have hW9 := hW
  obtain ⟨hB0, hB1, hB2, hB3, hB4, hB5, hB6, hB7, hKI, hEI, hKY⟩ := hW9
  refine o_iload_n hx hb dX6_needClassifier_0 hl rfl ?_
  refine lv_if_lt (tgt := 15) hx hb dX6_needClassifier_1 (by decide) (fun h1 => ?_) (fun h1 => ?_)
  · skip
    exact thrW_IO hC hfl hS hG hex hlk hl.1 (si := 11) rfl dX6_needClassifier_15 dX6_needClassifier_18 dX6_needClassifier_19 dX6_needClassifier_22 dX6_needClassifier_25 (Nat.le_of_ble_eq_true rfl) (Nat.le_of_ble_eq_true rfl) (Nat.le_of_ble_eq_true rfl) (Nat.le_of_ble_eq_true rfl) (fun H1 hG1 => ⟨⟨rfl, by first | exact nix_neg (by omega) h1 | exact nix_ge (N := n 1) (by omega) h12⟩, hG1⟩) (Nat.le_of_ble_eq_true rfl) (Nat.le_of_ble_eq_true rfl)
  · skip
    refine o_iload_n hx hb dX6_needClassifier_4 hl rfl ?_
    refine o_aload_n hx hb dX6_needClassifier_5 hl rfl ?_
    refine g_get hC hG us_X6 rfl 1 (by decide) fl_X6_16 V_games rfl dX6_needClassifier_6 ?_
    refine k_Jx4a65c_size_8abf5 (q := 1) hC hS hG (by omega) ml_X6_33 ⟨Nat.le_of_ble_eq_true rfl, Nat.le_of_ble_eq_true rfl⟩ hl.1 (Nat.le_of_ble_eq_true rfl) dX6_needClassifier_9 ⟨Nat.le_of_ble_eq_true rfl, Nat.le_of_ble_eq_true rfl⟩ ?_
    refine lv_icmp_lt (tgt := 26) hx hb dX6_needClassifier_12 (by decide) (fun h12 => ?_) (fun h12 => ?_)
    · skip
      obtain ⟨a, ha, rfl⟩ := ix_of (N := n 1) (by omega) h1 h12
      refine o_aload_n hx hb dX6_needClassifier_26 hl rfl ?_
      refine g_get hC hG us_X6 rfl 1 (by decide) fl_X6_16 V_games rfl dX6_needClassifier_27 ?_
      refine o_iload_n hx hb dX6_needClassifier_30 hl rfl ?_
      refine k_Jx4a65c_get_915e3 (q := 1) hC hS hG ⟨by omega, by omega, by omega⟩ (show elT 1 = 6 from rfl) ml_X6_185 ⟨Nat.le_of_ble_eq_true rfl, Nat.le_of_ble_eq_true rfl⟩ hl.1 (Nat.le_of_ble_eq_true rfl) dX6_needClassifier_31 ⟨Nat.le_of_ble_eq_true rfl, Nat.le_of_ble_eq_true rfl⟩ ?_
      refine va_castS hx hb hC.o (hC.t _ cl_X6_100) (hC.K.1 2 _ rfl).2 (recv hC hG (q := (RX1, TX1, 1)) rfl (V_cla (by omega))) dX6_needClassifier_34 ?_
      refine vx_ret ?_
      exact R_Q hC hS hr (Or.inl ⟨_, rfl⟩) (v := some (ad 6 a 0)) hlk (⟨a, ha, rfl, rfl, hG⟩) (Nat.le_of_ble_eq_true rfl) (Nat.le_of_ble_eq_true rfl) dX6_needClassifier_37
    · skip
      exact thrW_IO hC hfl hS hG hex hlk hl.1 (si := 11) rfl dX6_needClassifier_15 dX6_needClassifier_18 dX6_needClassifier_19 dX6_needClassifier_22 dX6_needClassifier_25 (Nat.le_of_ble_eq_true rfl) (Nat.le_of_ble_eq_true rfl) (Nat.le_of_ble_eq_true rfl) (Nat.le_of_ble_eq_true rfl) (fun H1 hG1 => ⟨⟨rfl, by first | exact nix_neg (by omega) h1 | exact nix_ge (N := n 1) (by omega) h12⟩, hG1⟩) (Nat.le_of_ble_eq_true rfl) (Nat.le_of_ble_eq_true rfl)
theorem k_X6_needClassifier {p : Program} {l : Launch} {e : Env} {R : Room} {s : State} {m : MethodId} {args : Array Value} {below : List Frame} {meth : Method} {c : Code} {H : Heap} {locs : List Loc} {cells slots : Nat} {cc : ByteArray} {pc nL : Nat} {ls : Array Slot} {rest : List Value} {own : String} {D : va_G} {cy : Nat → ClassId} {sa : Nat → Nat} {de B : Nat} {ad : Ad} {S : St} {n : Nat → Nat} {T : St} {k : Nat → Nat} {th : Int32} {X : Rl} {x : Int32} {mcc mss : Nat} {Qc : Array Value → State → Outcome → State → Prop} {GX : String → Heap → Prop} (hfl : l.stackTraces = false)  (hC : Cx p m c cc nL s args own D cy sa de B) (hS : va_S (AB B) s.heap H locs) (hG : GW D B ad (Vw cy de ad S n T k th X) H) (h0 : WF S n)  {idx : Nat} (wl : Cond.methodLink own idx yX6_needClassifier ∈ G0) (hR : 6 + 1 ≤ R.frames ∧ 8 + (2 + 11) + 82 ≤ R.locals) (hsz : ls.size = nL) (hst : (rest.map fun v => v.category).sum ≤ 8) (hdg : decode cc pc = .ok (.invokevirtual idx, 3)) (hcs : cells + 1 ≤ R.cells ∧ slots + 6 ≤ R.slots) (hex : ∀ x ∈ c.exceptionTable.toList, False) (hlk : meth.locks = false) (hmc : cells + 1 ≤ mcc) (hms : slots + 6 ≤ mss) (hxx : ∀ (E : String) (H1 : Heap), ((fun E H => ((E = "java/lang/IndexOutOfBoundsException" ∧ ¬ ix x (n 1))) ∧ GW D B ad (Vw cy de ad S n T k th X) H)) E H1 → GX E H1) (k0 : ∀ (a9 : Nat), (a9 < n 1) → (x = nI a9) → ∀ (H1 : Heap) (locs1 : List Loc), GW D B ad (Vw cy de ad S n T k th X) H1 → va_S (AB B) s.heap H1 locs1 → W p l e R s m args below meth c H1 locs1 (cells + 1) (slots + 6) (vx_MQ below Qc (oX B GX) args s mcc mss (AB B)) (F0 m (pc + 3) ls (.ref (ad 6 a9 0) :: rest))) : W p l e R s m args below meth c H locs cells slots (vx_MQ below Qc (oX B GX) args s mcc mss (AB B)) (F0 m pc ls (.int x :: .ref (ad 0 0 0) :: rest)) :=
  vx_callq (xV hC hS hG h0 (As := [.int x]) (c_X6_needClassifier l hfl) ⟨rfl, rfl⟩ wl im_X6_needClassifier sl_X6_X6_needClassifier in_X6 cd_X6_needClassifier (n := 1) (by decide +kernel) hR (recv hC hG (q := (RX6, TX6, 6)) rfl V_games) rfl hsz hst rfl hdg hcs) hS (fun _ _ h => h) (fun _ h => h) (fun _ _ h => h) (fun E ce q9 u t H1 locs1 ht hv hp hB hz hq hS1 hce hcv hcl => prop_out hS1 hex hlk (hxx E H1 (by dsimp only at hB; rw [ht] at hB; exact hB)) hce hcv hcl hmc hms) (fun r u t H1 locs1 ht _ hr hB _ _ hS1 => by
      subst hr
      have hB9 := hB; try dsimp only at hB9
      rw [ht] at hB9
      rcases hB9 with ⟨a9, q0, q1, rfl, hG1⟩
      · exact k0 a9 q0 q1 _ _ hG1 hS1)
set_option maxHeartbeats 4000000 in
set_option maxRecDepth 100000 in
theorem c_X6_kindAround (l : Launch) {D : va_G} {cy : Nat → ClassId} {sa : Nat → Nat} {de B : Nat} {ad : Ad} {S : St} {n : Nat → Nat} {T : St} {k : Nat → Nat} {th : Int32} {X : Rl} {i j : Nat}  : Met l yX6_kindAround (Cond.code yX6_kindAround cX6_kindAround 3 (Option.some (Jvm.ClassFile.FieldType.object "EvenstartGames$Kind")) :: G0) ({ frames := 3, cells := 0, slots := 0, locals := 64 } : Room) (va_Pc [.ref (ad 0 0 0), .ref (ad 4 i j)] (PW D cy sa de B ad (Vw cy de ad S n T k th X) (i < n 4 ∧ j < 3 ∧ WF S n))) (va_Sq (fun r => (kbel S n (fMea S i j) = -1 ∧ r = none) ∨ (∃ (q9 : Nat), q9 < n 2 ∧ kbel S n (fMea S i j) = nI q9 ∧ r = some (ad 7 q9 0)))) 0 0 (fun _ => False) := by
  refine E_met (own := RX6) rfl rfl (Nat.le_of_ble_eq_true rfl) ?_
  intro p e s m below meth c hC hr hlk hnm hG h0 ls hl
  have hx := hC.x
  have hb := hC.b
  have hS : va_S (AB B) s.heap s.heap [] := va_S.rf
  have hl : lo ls 3 [some (.ref (ad 0 0 0)), some (.ref (ad 4 i j)), none] := lo_of hl
  obtain ⟨hi, hj, hW⟩ := h0
  have hW9 := hW
  obtain ⟨hB0, hB1, hB2, hB3, hB4, hB5, hB6, hB7, hKI, hEI, hKY⟩ := hW9
  refine lv_iconst (v := 0) hx hb dX6_kindAround_0 (by decide) ?_
  refine o_istore_n hx hb dX6_kindAround_1 hl (by decide) rfl (fun ls hl => ?_)
  have loop2 : ∀ (q9 : Nat) (y : Nat), y ≤ n 2 ∧ n 2 < y + q9 → (kbel S n (fMea S i j) = fK (fun q => holdsP S q (fMea S i j)) y (n 2 - y)) → ∀ ls : Array Slot, lo ls 3 [some (.ref (ad 0 0 0)), some (.ref (ad 4 i j)), some (.int (nI y))] → W p l e ({ frames := 3, cells := 0, slots := 0, locals := 64 } : Room) s m [.ref (ad 0 0 0), .ref (ad 4 i j)].toArray below meth c s.heap [] 0 0 (MQ below (va_Sq (fun r => (kbel S n (fMea S i j) = -1 ∧ r = none) ∨ (∃ (q9 : Nat), q9 < n 2 ∧ kbel S n (fMea S i j) = nI q9 ∧ r = some (ad 7 q9 0)))) [.ref (ad 0 0 0), .ref (ad 4 i j)].toArray s 0 0 (fun _ => False)) (F0 m 2 ls []) := by
    intro q9
    induction q9 with
    | zero => intro y hq9; exact absurd hq9 (by omega)
    | succ q9 ih2 =>
      intro y hq9 hf  ls hl
      refine o_iload_n hx hb dX6_kindAround_2 hl rfl ?_
      refine o_aload_n hx hb dX6_kindAround_3 hl rfl ?_
      refine g_get hC hG us_X6 rfl 2 (by decide) fl_X6_19 V_games rfl dX6_kindAround_4 ?_
      refine k_Jx4a65c_size_8abf5 (q := 2) hC hS hG (by omega) ml_X6_33 ⟨Nat.le_of_ble_eq_true rfl, Nat.le_of_ble_eq_true rfl⟩ hl.1 (Nat.le_of_ble_eq_true rfl) dX6_kindAround_7 ⟨Nat.le_of_ble_eq_true rfl, Nat.le_of_ble_eq_true rfl⟩ ?_
      refine n_icmp_ge (tgt := 49) hx hb y (n 2) rfl rfl (by omega) (by omega) dX6_kindAround_10 (by decide) (fun h10 => ?_) (fun h10 => ?_)
      · skip
        refine lv_null hx hb dX6_kindAround_49 ?_
        exact R_q hC hr (Or.inl ⟨_, rfl⟩) (v := none) hlk (Or.inl ⟨hf.trans (fK_end (by omega)), rfl⟩) dX6_kindAround_50
      · skip
        refine o_aload_n hx hb dX6_kindAround_13 hl rfl ?_
        refine g_get hC hG us_X6 rfl 2 (by decide) fl_X6_19 V_games rfl dX6_kindAround_14 ?_
        refine o_iload_n hx hb dX6_kindAround_17 hl rfl ?_
        refine k_Jx4a65c_get_915e3 (q := 2) hC hS hG ⟨by omega, by omega, by omega⟩ (show elT 2 = 7 from rfl) ml_X6_185 ⟨Nat.le_of_ble_eq_true rfl, Nat.le_of_ble_eq_true rfl⟩ hl.1 (Nat.le_of_ble_eq_true rfl) dX6_kindAround_18 ⟨Nat.le_of_ble_eq_true rfl, Nat.le_of_ble_eq_true rfl⟩ ?_
        refine va_castS hx hb hC.o (hC.t _ cl_X6_111) (hC.K.1 5 _ rfl).2 (recv hC hG (q := (RX4, TX4, 6)) rfl (V_kind (by omega))) dX6_kindAround_21 ?_
        obtain ⟨a, ha5, hka⟩ := hKY y (by omega)
        refine o_aload_n hx hb dX6_kindAround_24 hl rfl ?_
        refine k_X4_holds hC hS hG ⟨by omega, by omega, by omega, by omega, by assumption⟩ ml_X6_189 ⟨Nat.le_of_ble_eq_true rfl, Nat.le_of_ble_eq_true rfl⟩ hl.1 (Nat.le_of_ble_eq_true rfl) dX6_kindAround_25 ⟨Nat.le_of_ble_eq_true rfl, Nat.le_of_ble_eq_true rfl⟩ (fun h25 => ?_) (fun h25 => ?_)
        · skip
          refine lv_if_eq (tgt := 43) hx hb dX6_kindAround_28 (by decide) (fun h28 => ?_) (fun h28 => ?_)
          · exact absurd h28 (by decide)
          · skip
            refine o_aload_n hx hb dX6_kindAround_31 hl rfl ?_
            refine g_get hC hG us_X6 rfl 2 (by decide) fl_X6_19 V_games rfl dX6_kindAround_32 ?_
            refine o_iload_n hx hb dX6_kindAround_35 hl rfl ?_
            refine k_Jx4a65c_get_915e3 (q := 2) hC hS hG ⟨by omega, by omega, by omega⟩ (show elT 2 = 7 from rfl) ml_X6_185 ⟨Nat.le_of_ble_eq_true rfl, Nat.le_of_ble_eq_true rfl⟩ hl.1 (Nat.le_of_ble_eq_true rfl) dX6_kindAround_36 ⟨Nat.le_of_ble_eq_true rfl, Nat.le_of_ble_eq_true rfl⟩ ?_
            refine va_castS hx hb hC.o (hC.t _ cl_X6_111) (hC.K.1 5 _ rfl).2 (recv hC hG (q := (RX4, TX4, 6)) rfl (V_kind (by omega))) dX6_kindAround_39 ?_
            exact R_q hC hr (Or.inl ⟨_, rfl⟩) (v := some (ad 7 y 0)) hlk (Or.inr ⟨y, by omega, hf.trans (fK_yes (by omega) h25), rfl⟩) dX6_kindAround_42
        · skip
          refine lv_if_eq (tgt := 43) hx hb dX6_kindAround_28 (by decide) (fun h28 => ?_) (fun h28 => ?_)
          · skip
            refine o_iinc1 hx hb dX6_kindAround_43 hl rfl (by decide) rfl (fun ls hl => ?_)
            refine lv_goto (tgt := 2) hx hb dX6_kindAround_46 (by decide) ?_
            exact ih2 (y + 1) (by omega) (hf.trans (fK_no (by omega) h25)) ls hl
          · exact absurd h28 (by decide)
  exact loop2 (n 2 + 1) 0 (by omega) rfl ls hl
theorem k_X6_kindAround {p : Program} {l : Launch} {e : Env} {R : Room} {s : State} {m : MethodId} {args : Array Value} {below : List Frame} {meth : Method} {c : Code} {H : Heap} {locs : List Loc} {cells slots : Nat} {Q : State → Prop} {cc : ByteArray} {pc nL : Nat} {ls : Array Slot} {rest : List Value} {own : String} {D : va_G} {cy : Nat → ClassId} {sa : Nat → Nat} {de B : Nat} {ad : Ad} {S : St} {n : Nat → Nat} {T : St} {k : Nat → Nat} {th : Int32} {X : Rl} {i j : Nat}  (hC : Cx p m c cc nL s args own D cy sa de B) (hS : va_S (AB B) s.heap H locs) (hG : GW D B ad (Vw cy de ad S n T k th X) H) (h0 : i < n 4 ∧ j < 3 ∧ WF S n)  {idx : Nat} (wl : Cond.methodLink own idx yX6_kindAround ∈ G0) (hR : 3 + 1 ≤ R.frames ∧ 8 + (3 + 11) + 64 ≤ R.locals) (hsz : ls.size = nL) (hst : (rest.map fun v => v.category).sum ≤ 8) (hdg : decode cc pc = .ok (.invokevirtual idx, 3)) (hcs : cells + 0 ≤ R.cells ∧ slots + 0 ≤ R.slots) (k0 : (kbel S n (fMea S i j) = -1) → W p l e R s m args below meth c H locs cells slots Q (F0 m (pc + 3) ls (.null :: rest))) (k1 : ∀ (q9 : Nat), (q9 < n 2) → (kbel S n (fMea S i j) = nI q9) → W p l e R s m args below meth c H locs cells slots Q (F0 m (pc + 3) ls (.ref (ad 7 q9 0) :: rest))) : W p l e R s m args below meth c H locs cells slots Q (F0 m pc ls (.ref (ad 4 i j) :: .ref (ad 0 0 0) :: rest)) :=
  va_csq (va_Run.run (rV hC hS hG h0 (As := [.ref (ad 4 i j)]) (c_X6_kindAround l) ⟨rfl, rfl⟩ wl im_X6_kindAround sl_X6_X6_kindAround in_X6 cd_X6_kindAround (n := 1) (by decide +kernel) hR (recv hC hG (q := (RX6, TX6, 6)) rfl V_games) rfl hsz hst rfl hdg hcs)) (fun r hr => by
      rcases hr with ⟨q0, rfl⟩ | ⟨q9, q0, q1, rfl⟩
      · exact k0 q0
      · exact k1 q9 q0 q1)
