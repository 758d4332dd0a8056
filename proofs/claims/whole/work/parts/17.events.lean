set_option maxHeartbeats 4000000 in
set_option maxRecDepth 100000 in
theorem c_J6_bitCount_0f7a4 (l : Launch) {D : va_G} {cy : Nat → ClassId} {sa : Nat → Nat} {de B : Nat} {ad : Ad} {S : St} {n : Nat → Nat} {T : St} {k : Nat → Nat} {th : Int32} {X : Rl} {x : Int32}  : Met l yJ6_bitCount_0f7a4 (Cond.code yJ6_bitCount_0f7a4 cJ6_bitCount_0f7a4 1 (Option.some Jvm.ClassFile.FieldType.int) :: G0) ({ frames := 0, cells := 0, slots := 0, locals := 0 } : Room) (va_Pc [.int x] (PW D cy sa de B ad (Vw cy de ad S n T k th X) (True))) (vp_Si (fun r => r = bcF x)) 0 0 (fun _ => False) := by
  refine E_met (own := RJ6) rfl rfl (Nat.le_of_ble_eq_true rfl) ?_
  intro p e s m below meth c hC hr hlk hnm hG h0 ls hl
  have hx := hC.x
  have hb := hC.b
  have hS : va_S (AB B) s.heap s.heap [] := va_S.rf
  have hl : lo ls 1 [some (.int x)] := lo_of hl
  refine o_iload_n hx hb dJ6_bitCount_0f7a4_0 hl rfl ?_
  refine o_iload_n hx hb dJ6_bitCount_0f7a4_1 hl rfl ?_
  refine lv_iconst (v := 1) hx hb dJ6_bitCount_0f7a4_2 (by decide) ?_
  refine lv_iushr hx hb dJ6_bitCount_0f7a4_3 rfl ?_
  refine lv_ldcw hx hb hC.o (hC.t _ ct_J6_265) dJ6_bitCount_0f7a4_4 ?_
  refine lv_iand hx hb dJ6_bitCount_0f7a4_7 ?_
  refine lv_isub hx hb dJ6_bitCount_0f7a4_8 ?_
  refine o_istore_n hx hb dJ6_bitCount_0f7a4_9 hl (by decide) rfl (fun ls hl => ?_)
  refine o_iload_n hx hb dJ6_bitCount_0f7a4_10 hl rfl ?_
  refine lv_ldcw hx hb hC.o (hC.t _ ct_J6_266) dJ6_bitCount_0f7a4_11 ?_
  refine lv_iand hx hb dJ6_bitCount_0f7a4_14 ?_
  refine o_iload_n hx hb dJ6_bitCount_0f7a4_15 hl rfl ?_
  refine lv_iconst (v := 2) hx hb dJ6_bitCount_0f7a4_16 (by decide) ?_
  refine lv_iushr hx hb dJ6_bitCount_0f7a4_17 rfl ?_
  refine lv_ldcw hx hb hC.o (hC.t _ ct_J6_266) dJ6_bitCount_0f7a4_18 ?_
  refine lv_iand hx hb dJ6_bitCount_0f7a4_21 ?_
  refine lv_iadd hx hb dJ6_bitCount_0f7a4_22 ?_
  refine o_istore_n hx hb dJ6_bitCount_0f7a4_23 hl (by decide) rfl (fun ls hl => ?_)
  refine o_iload_n hx hb dJ6_bitCount_0f7a4_24 hl rfl ?_
  refine o_iload_n hx hb dJ6_bitCount_0f7a4_25 hl rfl ?_
  refine lv_iconst (v := 4) hx hb dJ6_bitCount_0f7a4_26 (by decide) ?_
  refine lv_iushr hx hb dJ6_bitCount_0f7a4_27 rfl ?_
  refine lv_iadd hx hb dJ6_bitCount_0f7a4_28 ?_
  refine lv_ldcw hx hb hC.o (hC.t _ ct_J6_267) dJ6_bitCount_0f7a4_29 ?_
  refine lv_iand hx hb dJ6_bitCount_0f7a4_32 ?_
  refine o_istore_n hx hb dJ6_bitCount_0f7a4_33 hl (by decide) rfl (fun ls hl => ?_)
  refine o_iload_n hx hb dJ6_bitCount_0f7a4_34 hl rfl ?_
  refine o_iload_n hx hb dJ6_bitCount_0f7a4_35 hl rfl ?_
  refine lv_bipush (v := 8) hx hb dJ6_bitCount_0f7a4_36 (by decide) ?_
  refine lv_iushr hx hb dJ6_bitCount_0f7a4_38 rfl ?_
  refine lv_iadd hx hb dJ6_bitCount_0f7a4_39 ?_
  refine o_istore_n hx hb dJ6_bitCount_0f7a4_40 hl (by decide) rfl (fun ls hl => ?_)
  refine o_iload_n hx hb dJ6_bitCount_0f7a4_41 hl rfl ?_
  refine o_iload_n hx hb dJ6_bitCount_0f7a4_42 hl rfl ?_
  refine lv_bipush (v := 16) hx hb dJ6_bitCount_0f7a4_43 (by decide) ?_
  refine lv_iushr hx hb dJ6_bitCount_0f7a4_45 rfl ?_
  refine lv_iadd hx hb dJ6_bitCount_0f7a4_46 ?_
  refine o_istore_n hx hb dJ6_bitCount_0f7a4_47 hl (by decide) rfl (fun ls hl => ?_)
  refine o_iload_n hx hb dJ6_bitCount_0f7a4_48 hl rfl ?_
  refine lv_bipush (v := 63) hx hb dJ6_bitCount_0f7a4_49 (by decide) ?_
  refine lv_iand hx hb dJ6_bitCount_0f7a4_51 ?_
  exact R_i hC hr hlk rfl (rfl) dJ6_bitCount_0f7a4_52
theorem k_J6_bitCount_0f7a4 {p : Program} {l : Launch} {e : Env} {R : Room} {s : State} {m : MethodId} {args : Array Value} {below : List Frame} {meth : Method} {c : Code} {H : Heap} {locs : List Loc} {cells slots : Nat} {Q : State → Prop} {cc : ByteArray} {pc nL : Nat} {ls : Array Slot} {rest : List Value} {own : String} {D : va_G} {cy : Nat → ClassId} {sa : Nat → Nat} {de B : Nat} {ad : Ad} {S : St} {n : Nat → Nat} {T : St} {k : Nat → Nat} {th : Int32} {X : Rl} {x : Int32}  (hC : Cx p m c cc nL s args own D cy sa de B) (hS : va_S (AB B) s.heap H locs) (hG : GW D B ad (Vw cy de ad S n T k th X) H) (h0 : True)  {idx : Nat} (wl : Cond.methodLink own idx yJ6_bitCount_0f7a4 ∈ G0) (hR : 0 + 1 ≤ R.frames ∧ 8 + (1 + 11) + 0 ≤ R.locals) (hsz : ls.size = nL) (hst : (rest.map fun v => v.category).sum ≤ 8) (hdg : decode cc pc = .ok (.invokestatic idx, 3)) (hcs : cells + 0 ≤ R.cells ∧ slots + 0 ≤ R.slots) (kk : W p l e R s m args below meth c H locs cells slots Q (F0 m (pc + 3) ls (.int (bcF x) :: rest))) : W p l e R s m args below meth c H locs cells slots Q (F0 m pc ls (.int x :: rest)) :=
  vp_callSi (va_Run.run (rS hC hS hG h0 (As := [.int x]) (c_J6_bitCount_0f7a4 l) ⟨rfl, rfl⟩ wl sm_J6_bitCount_0f7a4 in_J6 cd_J6_bitCount_0f7a4 (n := 1) (by decide +kernel) hR rfl hsz hst rfl hdg hcs)) (fun r hr => by subst hr; exact kk)
set_option maxHeartbeats 4000000 in
set_option maxRecDepth 100000 in
theorem c_X3_isFor (l : Launch) {D : va_G} {cy : Nat → ClassId} {sa : Nat → Nat} {de B : Nat} {ad : Ad} {S : St} {n : Nat → Nat} {T : St} {k : Nat → Nat} {th : Int32} {X : Rl} {e9 : Nat} {x : Int32}  : Met l yX3_isFor (Cond.code yX3_isFor cX3_isFor 2 (Option.some Jvm.ClassFile.FieldType.boolean) :: G0) ({ frames := 1, cells := 0, slots := 0, locals := 21 } : Room) (va_Pc [.ref (ad 8 e9 0), .int x] (PW D cy sa de B ad (Vw cy de ad S n T k th X) (e9 < n 7))) (vp_Si (fun r => (r = 1 ∧ forP S e9 x) ∨ (r = 0 ∧ ¬ forP S e9 x))) 0 0 (fun _ => False) := by
  refine E_met (own := RX3) rfl rfl (Nat.le_of_ble_eq_true rfl) ?_
  intro p e s m below meth c hC hr hlk hnm hG h0 ls hl
  have hx := hC.x
  have hb := hC.b
  have hS : va_S (AB B) s.heap s.heap [] := va_S.rf
  have hl : lo ls 2 [some (.ref (ad 8 e9 0)), some (.int x)] := lo_of hl
  refine o_iload_n hx hb dX3_isFor_0 hl rfl ?_
  refine lv_if_lt (tgt := 25) hx hb dX3_isFor_1 (by decide) (fun h1 => ?_) (fun h1 => ?_)
  · skip
    refine lv_iconst (v := 0) hx hb dX3_isFor_25 (by decide) ?_
    exact R_i hC hr hlk rfl (by first | exact Or.inl ⟨rfl, ix_of (N := 8) (by decide) h1 (Int32.not_le.mp h7), h15⟩ | exact Or.inr ⟨rfl, fun z => h15 z.2⟩ | exact Or.inr ⟨rfl, fun z => nix_neg (by decide) h1 z.1⟩ | exact Or.inr ⟨rfl, fun z => nix_ge (N := 8) (by decide) (Int32.not_lt.mpr h7) z.1⟩) dX3_isFor_26
  · skip
    refine o_iload_n hx hb dX3_isFor_4 hl rfl ?_
    refine lv_bipush (v := 8) hx hb dX3_isFor_5 (by decide) ?_
    refine lv_icmp_ge (tgt := 25) hx hb dX3_isFor_7 (by decide) (fun h7 => ?_) (fun h7 => ?_)
    · skip
      refine lv_iconst (v := 0) hx hb dX3_isFor_25 (by decide) ?_
      exact R_i hC hr hlk rfl (by first | exact Or.inl ⟨rfl, ix_of (N := 8) (by decide) h1 (Int32.not_le.mp h7), h15⟩ | exact Or.inr ⟨rfl, fun z => h15 z.2⟩ | exact Or.inr ⟨rfl, fun z => nix_neg (by decide) h1 z.1⟩ | exact Or.inr ⟨rfl, fun z => nix_ge (N := 8) (by decide) (Int32.not_lt.mpr h7) z.1⟩) dX3_isFor_26
    · skip
      refine o_aload_n hx hb dX3_isFor_10 hl rfl ?_
      refine g_get hC hG us_X3 rfl 0 (by decide) fl_X3_21 (V_event (by omega)) rfl dX3_isFor_11 ?_
      refine o_iload_n hx hb dX3_isFor_14 hl rfl ?_
      refine k_X6_hasBitN hC hS hG trivial  ⟨Nat.le_of_ble_eq_true rfl, Nat.le_of_ble_eq_true rfl⟩ hl.1 (Nat.le_of_ble_eq_true rfl) dX3_isFor_15 ⟨Nat.le_of_ble_eq_true rfl, Nat.le_of_ble_eq_true rfl⟩ (fun h15 => ?_) (fun h15 => ?_)
      · skip
        refine lv_if_eq (tgt := 25) hx hb dX3_isFor_18 (by decide) (fun h18 => ?_) (fun h18 => ?_)
        · exact absurd h18 (by decide)
        · skip
          refine lv_iconst (v := 1) hx hb dX3_isFor_21 (by decide) ?_
          refine lv_goto (tgt := 26) hx hb dX3_isFor_22 (by decide) ?_
          exact R_i hC hr hlk rfl (by first | exact Or.inl ⟨rfl, ix_of (N := 8) (by decide) h1 (Int32.not_le.mp h7), h15⟩ | exact Or.inr ⟨rfl, fun z => h15 z.2⟩ | exact Or.inr ⟨rfl, fun z => nix_neg (by decide) h1 z.1⟩ | exact Or.inr ⟨rfl, fun z => nix_ge (N := 8) (by decide) (Int32.not_lt.mpr h7) z.1⟩) dX3_isFor_26
      · skip
        refine lv_if_eq (tgt := 25) hx hb dX3_isFor_18 (by decide) (fun h18 => ?_) (fun h18 => ?_)
        · skip
          refine lv_iconst (v := 0) hx hb dX3_isFor_25 (by decide) ?_
          exact R_i hC hr hlk rfl (by first | exact Or.inl ⟨rfl, ix_of (N := 8) (by decide) h1 (Int32.not_le.mp h7), h15⟩ | exact Or.inr ⟨rfl, fun z => h15 z.2⟩ | exact Or.inr ⟨rfl, fun z => nix_neg (by decide) h1 z.1⟩ | exact Or.inr ⟨rfl, fun z => nix_ge (N := 8) (by decide) (Int32.not_lt.mpr h7) z.1⟩) dX3_isFor_26
        · exact absurd h18 (by decide)
theorem k_X3_isFor {p : Program} {l : Launch} {e : Env} {R : Room} {s : State} {m : MethodId} {args : Array Value} {below : List Frame} {meth : Method} {c : Code} {H : Heap} {locs : List Loc} {cells slots : Nat} {Q : State → Prop} {cc : ByteArray} {pc nL : Nat} {ls : Array Slot} {rest : List Value} {own : String} {D : va_G} {cy : Nat → ClassId} {sa : Nat → Nat} {de B : Nat} {ad : Ad} {S : St} {n : Nat → Nat} {T : St} {k : Nat → Nat} {th : Int32} {X : Rl} {e9 : Nat} {x : Int32}  (hC : Cx p m c cc nL s args own D cy sa de B) (hS : va_S (AB B) s.heap H locs) (hG : GW D B ad (Vw cy de ad S n T k th X) H) (h0 : e9 < n 7)  {idx : Nat} (wl : Cond.methodLink own idx yX3_isFor ∈ G0) (hR : 1 + 1 ≤ R.frames ∧ 8 + (2 + 11) + 21 ≤ R.locals) (hsz : ls.size = nL) (hst : (rest.map fun v => v.category).sum ≤ 8) (hdg : decode cc pc = .ok (.invokevirtual idx, 3)) (hcs : cells + 0 ≤ R.cells ∧ slots + 0 ≤ R.slots) (kt : (forP S e9 x) → W p l e R s m args below meth c H locs cells slots Q (F0 m (pc + 3) ls (.int 1 :: rest))) (kf : ¬ (forP S e9 x) → W p l e R s m args below meth c H locs cells slots Q (F0 m (pc + 3) ls (.int 0 :: rest))) : W p l e R s m args below meth c H locs cells slots Q (F0 m pc ls (.int x :: .ref (ad 8 e9 0) :: rest)) :=
  vp_callSi (va_Run.run (rV hC hS hG h0 (As := [.int x]) (c_X3_isFor l) ⟨rfl, rfl⟩ wl im_X3_isFor sl_X3_X3_isFor in_X3 cd_X3_isFor (n := 1) (by decide +kernel) hR (recv hC hG (q := (RX3, TX3, 5)) rfl (V_event h0)) rfl hsz hst rfl hdg hcs)) (fun r hr => by rcases hr with ⟨rfl, hp⟩ | ⟨rfl, hp⟩; exact kt hp; exact kf hp)
set_option maxHeartbeats 4000000 in
set_option maxRecDepth 100000 in
theorem c_X3_factorOf (l : Launch) {D : va_G} {cy : Nat → ClassId} {sa : Nat → Nat} {de B : Nat} {ad : Ad} {S : St} {n : Nat → Nat} {T : St} {k : Nat → Nat} {th : Int32} {X : Rl} {e9 q : Nat}  : Met l yX3_factorOf (Cond.code yX3_factorOf cX3_factorOf 2 (Option.some Jvm.ClassFile.FieldType.int) :: G0) ({ frames := 0, cells := 0, slots := 0, locals := 0 } : Room) (va_Pc [.ref (ad 8 e9 0), .int (nI q)] (PW D cy sa de B ad (Vw cy de ad S n T k th X) (e9 < n 7 ∧ q < 8))) (vp_Si (fun r => r = S 17 e9 q)) 0 0 (fun _ => False) := by
  refine E_met (own := RX3) rfl rfl (Nat.le_of_ble_eq_true rfl) ?_
  intro p e s m below meth c hC hr hlk hnm hG h0 ls hl
  have hx := hC.x
  have hb := hC.b
  have hS : va_S (AB B) s.heap s.heap [] := va_S.rf
  have hl : lo ls 2 [some (.ref (ad 8 e9 0)), some (.int (nI q))] := lo_of hl
  obtain ⟨he, hq⟩ := h0
  refine o_iload_n hx hb dX3_factorOf_0 hl rfl ?_
  refine lv_if_lt (tgt := 22) hx hb dX3_factorOf_1 (by decide) (fun h1 => ?_) (fun h1 => ?_)
  · exact absurd h1 (nI_pos (by omega))
  · skip
    refine o_iload_n hx hb dX3_factorOf_4 hl rfl ?_
    refine o_aload_n hx hb dX3_factorOf_5 hl rfl ?_
    refine g_get hC hG us_X3 rfl 1 (by decide) fl_X3_9 (V_event (by omega)) rfl dX3_factorOf_6 ?_
    refine g_alen hC hG 0 rfl (V_fac (by omega)) (v := nI 8) rfl dX3_factorOf_9 ?_
    refine n_icmp_ge (tgt := 22) hx hb q 8 rfl rfl (by omega) (by omega) dX3_factorOf_10 (by decide) (fun h10 => ?_) (fun h10 => ?_)
    · exact absurd h10 (by omega)
    · skip
      refine o_aload_n hx hb dX3_factorOf_13 hl rfl ?_
      refine g_get hC hG us_X3 rfl 1 (by decide) fl_X3_9 (V_event (by omega)) rfl dX3_factorOf_14 ?_
      refine o_iload_n hx hb dX3_factorOf_17 hl rfl ?_
      refine g_iald hC hG (V_fac (by omega)) _ rfl (by omega) (by omega) dX3_factorOf_18 ?_
      refine lv_goto (tgt := 24) hx hb dX3_factorOf_19 (by decide) ?_
      exact R_i hC hr hlk rfl (rfl) dX3_factorOf_24
theorem k_X3_factorOf {p : Program} {l : Launch} {e : Env} {R : Room} {s : State} {m : MethodId} {args : Array Value} {below : List Frame} {meth : Method} {c : Code} {H : Heap} {locs : List Loc} {cells slots : Nat} {Q : State → Prop} {cc : ByteArray} {pc nL : Nat} {ls : Array Slot} {rest : List Value} {own : String} {D : va_G} {cy : Nat → ClassId} {sa : Nat → Nat} {de B : Nat} {ad : Ad} {S : St} {n : Nat → Nat} {T : St} {k : Nat → Nat} {th : Int32} {X : Rl} {e9 q : Nat}  (hC : Cx p m c cc nL s args own D cy sa de B) (hS : va_S (AB B) s.heap H locs) (hG : GW D B ad (Vw cy de ad S n T k th X) H) (h0 : e9 < n 7 ∧ q < 8)  {idx : Nat} (wl : Cond.methodLink own idx yX3_factorOf ∈ G0) (hR : 0 + 1 ≤ R.frames ∧ 8 + (2 + 11) + 0 ≤ R.locals) (hsz : ls.size = nL) (hst : (rest.map fun v => v.category).sum ≤ 8) (hdg : decode cc pc = .ok (.invokevirtual idx, 3)) (hcs : cells + 0 ≤ R.cells ∧ slots + 0 ≤ R.slots) (kk : W p l e R s m args below meth c H locs cells slots Q (F0 m (pc + 3) ls (.int (S 17 e9 q) :: rest))) : W p l e R s m args below meth c H locs cells slots Q (F0 m pc ls (.int (nI q) :: .ref (ad 8 e9 0) :: rest)) :=
  vp_callSi (va_Run.run (rV hC hS hG h0 (As := [.int (nI q)]) (c_X3_factorOf l) ⟨rfl, rfl⟩ wl im_X3_factorOf sl_X3_X3_factorOf in_X3 cd_X3_factorOf (n := 1) (by decide +kernel) hR (recv hC hG (q := (RX3, TX3, 5)) rfl (V_event h0.1)) rfl hsz hst rfl hdg hcs)) (fun r hr => by subst hr; exact kk)
set_option maxHeartbeats 4000000 in
set_option maxRecDepth 100000 in
theorem c_X3_tellFactor (l : Launch) {D : va_G} {cy : Nat → ClassId} {sa : Nat → Nat} {de B : Nat} {ad : Ad} {S : St} {n : Nat → Nat} {T : St} {k : Nat → Nat} {th : Int32} {X : Rl} {e9 q : Nat} {v : Int32}  : Met l yX3_tellFactor (Cond.code yX3_tellFactor cX3_tellFactor 3 (Option.none : Option Jvm.ClassFile.FieldType) :: G0) ({ frames := 0, cells := 0, slots := 0, locals := 0 } : Room) (va_Pc [.ref (ad 8 e9 0), .int (nI q), .int v] (PW D cy sa de B ad (Vw cy de ad S n T k th X) (e9 < n 7 ∧ q < 8))) (oV B (fun H => GW D B ad (Vw cy de ad (up3 S 17 e9 q v) n T k th X) H)) 0 0 (AB B) := by
  refine E_met (own := RX3) rfl rfl (Nat.le_of_ble_eq_true rfl) ?_
  intro p e s m below meth c hC hr hlk hnm hG h0 ls hl
  have hx := hC.x
  have hb := hC.b
  have hS : va_S (AB B) s.heap s.heap [] := va_S.rf
  have hl : lo ls 3 [some (.ref (ad 8 e9 0)), some (.int (nI q)), some (.int v)] := lo_of hl
  obtain ⟨he, hq⟩ := h0
  refine o_iload_n hx hb dX3_tellFactor_0 hl rfl ?_
  refine lv_if_lt (tgt := 20) hx hb dX3_tellFactor_1 (by decide) (fun h1 => ?_) (fun h1 => ?_)
  · exact absurd h1 (nI_pos (by omega))
  · skip
    refine o_iload_n hx hb dX3_tellFactor_4 hl rfl ?_
    refine o_aload_n hx hb dX3_tellFactor_5 hl rfl ?_
    refine g_get hC hG us_X3 rfl 1 (by decide) fl_X3_9 (V_event (by omega)) rfl dX3_tellFactor_6 ?_
    refine g_alen hC hG 0 rfl (V_fac (by omega)) (v := nI 8) rfl dX3_tellFactor_9 ?_
    refine n_icmp_ge (tgt := 20) hx hb q 8 rfl rfl (by omega) (by omega) dX3_tellFactor_10 (by decide) (fun h10 => ?_) (fun h10 => ?_)
    · exact absurd h10 (by omega)
    · skip
      refine o_aload_n hx hb dX3_tellFactor_13 hl rfl ?_
      refine g_get hC hG us_X3 rfl 1 (by decide) fl_X3_9 (V_event (by omega)) rfl dX3_tellFactor_14 ?_
      refine o_iload_n hx hb dX3_tellFactor_17 hl rfl ?_
      refine o_iload_n hx hb dX3_tellFactor_18 hl rfl ?_
      refine g_iast hC hG hS (V_fac (by omega)) _ rfl (by omega) (by omega) (P_fac he) dX3_tellFactor_19 (fun H locs hG hS => ?_)
      exact R_V hC hS hr hlk (hG) (Nat.le_of_ble_eq_true rfl) (Nat.le_of_ble_eq_true rfl) dX3_tellFactor_20
theorem k_X3_tellFactor {p : Program} {l : Launch} {e : Env} {R : Room} {s : State} {m : MethodId} {args : Array Value} {below : List Frame} {meth : Method} {c : Code} {H : Heap} {locs : List Loc} {cells slots : Nat} {Q : State → Prop} {cc : ByteArray} {pc nL : Nat} {ls : Array Slot} {rest : List Value} {own : String} {D : va_G} {cy : Nat → ClassId} {sa : Nat → Nat} {de B : Nat} {ad : Ad} {S : St} {n : Nat → Nat} {T : St} {k : Nat → Nat} {th : Int32} {X : Rl} {e9 q : Nat} {v : Int32}  (hC : Cx p m c cc nL s args own D cy sa de B) (hS : va_S (AB B) s.heap H locs) (hG : GW D B ad (Vw cy de ad S n T k th X) H) (h0 : e9 < n 7 ∧ q < 8)  {idx : Nat} (wl : Cond.methodLink own idx yX3_tellFactor ∈ G0) (hR : 0 + 1 ≤ R.frames ∧ 8 + (3 + 11) + 0 ≤ R.locals) (hsz : ls.size = nL) (hst : (rest.map fun v => v.category).sum ≤ 8) (hdg : decode cc pc = .ok (.invokevirtual idx, 3)) (hcs : cells + 0 ≤ R.cells ∧ slots + 0 ≤ R.slots) (kk : ∀ (H1 : Heap) (locs1 : List Loc), ((fun H => GW D B ad (Vw cy de ad (up3 S 17 e9 q v) n T k th X) H)) H1 → va_S (AB B) s.heap H1 locs1 → W p l e R s m args below meth c H1 locs1 cells slots Q (F0 m (pc + 3) ls (rest))) : W p l e R s m args below meth c H locs cells slots Q (F0 m pc ls (.int v :: .int (nI q) :: .ref (ad 8 e9 0) :: rest)) :=
  va_callv (rV hC hS hG h0 (As := [.int (nI q), .int v]) (c_X3_tellFactor l) ⟨rfl, rfl⟩ wl im_X3_tellFactor sl_X3_X3_tellFactor in_X3 cd_X3_tellFactor (n := 2) (by decide +kernel) hR (recv hC hG (q := (RX3, TX3, 5)) rfl (V_event h0.1)) rfl hsz hst rfl hdg hcs) hS (fun _ _ h => h) (fun _ h => h) (fun u t H1 locs1 ht _ _ hB _ _ hS1 => kk H1 locs1 (by dsimp only at hB; rw [ht] at hB; exact hB) hS1)
set_option maxHeartbeats 4000000 in
set_option maxRecDepth 100000 in
theorem c_X3_entryOf (l : Launch) {D : va_G} {cy : Nat → ClassId} {sa : Nat → Nat} {de B : Nat} {ad : Ad} {S : St} {n : Nat → Nat} {T : St} {k : Nat → Nat} {th : Int32} {X : Rl} {e9 i : Nat}  : Met l yX3_entryOf (Cond.code yX3_entryOf cX3_entryOf 3 (Option.some (Jvm.ClassFile.FieldType.object "EvenstartGames$Entry")) :: G0) ({ frames := 0, cells := 0, slots := 0, locals := 0 } : Room) (va_Pc [.ref (ad 8 e9 0), .ref (ad 3 i 0)] (PW D cy sa de B ad (Vw cy de ad S n T k th X) (e9 < n 7 ∧ i < n 4 ∧ WF S n))) (va_Sq (fun r => (S 20 e9 i = -1 ∧ r = none) ∨ (∃ (q9 : Nat), q9 < n 2 ∧ S 20 e9 i = nI q9 ∧ neg (S 20 e9 i) = false ∧ r = some (ad 11 e9 i)))) 0 0 (fun _ => False) := by
  refine E_met (own := RX3) rfl rfl (Nat.le_of_ble_eq_true rfl) ?_
  intro p e s m below meth c hC hr hlk hnm hG h0 ls hl
  have hx := hC.x
  have hb := hC.b
  have hS : va_S (AB B) s.heap s.heap [] := va_S.rf
  have hl : lo ls 3 [some (.ref (ad 8 e9 0)), some (.ref (ad 3 i 0)), none] := lo_of hl
  obtain ⟨he, hi, hW⟩ := h0
  have hW9 := hW
  obtain ⟨hB0, hB1, hB2, hB3, hB4, hB5, hB6, hB7, hKI, hEI, hKY⟩ := hW9
  refine o_aload_n hx hb dX3_entryOf_0 hl rfl ?_
  refine g_get hC hG us_X0 rfl 0 (by decide) fl_X3_29 (V_ath (by omega)) rfl dX3_entryOf_1 ?_
  refine o_istore_n hx hb dX3_entryOf_4 hl (by decide) rfl (fun ls hl => ?_)
  refine o_iload_n hx hb dX3_entryOf_5 hl rfl ?_
  refine lv_if_lt (tgt := 27) hx hb dX3_entryOf_6 (by decide) (fun h6 => ?_) (fun h6 => ?_)
  · exact absurd h6 (nI_pos (by omega))
  · skip
    refine o_iload_n hx hb dX3_entryOf_9 hl rfl ?_
    refine o_aload_n hx hb dX3_entryOf_10 hl rfl ?_
    refine g_get hC hG us_X3 rfl 2 (by decide) fl_X3_17 (V_event (by omega)) rfl dX3_entryOf_11 ?_
    refine g_alen hC hG 5 rfl (V_entA (by omega)) (v := nI 16) rfl dX3_entryOf_14 ?_
    refine n_icmp_ge (tgt := 27) hx hb i 16 rfl rfl (by omega) (by omega) dX3_entryOf_15 (by decide) (fun h15 => ?_) (fun h15 => ?_)
    · exact absurd h15 (by omega)
    · skip
      refine o_aload_n hx hb dX3_entryOf_18 hl rfl ?_
      refine g_get hC hG us_X3 rfl 2 (by decide) fl_X3_17 (V_event (by omega)) rfl dX3_entryOf_19 ?_
      refine o_iload_n hx hb dX3_entryOf_22 hl rfl ?_
      refine g_aald hC hG 5 rfl rfl (V_entA (by omega)) _ rfl (by omega) (by omega) dX3_entryOf_23 ?_
      rcases hEI e9 i with hn23 | ⟨he23, ha23, q23, hq23, hk23⟩
      · skip
        rw [fEnt_none (show _ = -1 by exact hn23)]
        refine lv_goto (tgt := 28) hx hb dX3_entryOf_24 (by decide) ?_
        exact R_q hC hr (Or.inl ⟨_, rfl⟩) (v := none) hlk (by first | exact Or.inl ⟨hn23, rfl⟩ | exact Or.inr ⟨q23, hq23, hk23, hng23, rfl⟩) dX3_entryOf_28
      · skip
        have hng23 : neg (S 20 e9 i) = false := by rw [hk23]; exact neg_nI (by omega)
        rw [fEnt_some (show neg _ = false by exact hng23)]
        refine lv_goto (tgt := 28) hx hb dX3_entryOf_24 (by decide) ?_
        exact R_q hC hr (Or.inl ⟨_, rfl⟩) (v := some (ad 11 e9 i)) hlk (by first | exact Or.inl ⟨hn23, rfl⟩ | exact Or.inr ⟨q23, hq23, hk23, hng23, rfl⟩) dX3_entryOf_28
theorem k_X3_entryOf {p : Program} {l : Launch} {e : Env} {R : Room} {s : State} {m : MethodId} {args : Array Value} {below : List Frame} {meth : Method} {c : Code} {H : Heap} {locs : List Loc} {cells slots : Nat} {Q : State → Prop} {cc : ByteArray} {pc nL : Nat} {ls : Array Slot} {rest : List Value} {own : String} {D : va_G} {cy : Nat → ClassId} {sa : Nat → Nat} {de B : Nat} {ad : Ad} {S : St} {n : Nat → Nat} {T : St} {k : Nat → Nat} {th : Int32} {X : Rl} {e9 i : Nat}  (hC : Cx p m c cc nL s args own D cy sa de B) (hS : va_S (AB B) s.heap H locs) (hG : GW D B ad (Vw cy de ad S n T k th X) H) (h0 : e9 < n 7 ∧ i < n 4 ∧ WF S n)  {idx : Nat} (wl : Cond.methodLink own idx yX3_entryOf ∈ G0) (hR : 0 + 1 ≤ R.frames ∧ 8 + (3 + 11) + 0 ≤ R.locals) (hsz : ls.size = nL) (hst : (rest.map fun v => v.category).sum ≤ 8) (hdg : decode cc pc = .ok (.invokevirtual idx, 3)) (hcs : cells + 0 ≤ R.cells ∧ slots + 0 ≤ R.slots) (k0 : (S 20 e9 i = -1) → W p l e R s m args below meth c H locs cells slots Q (F0 m (pc + 3) ls (.null :: rest))) (k1 : ∀ (q9 : Nat), (q9 < n 2) → (S 20 e9 i = nI q9) → (neg (S 20 e9 i) = false) → W p l e R s m args below meth c H locs cells slots Q (F0 m (pc + 3) ls (.ref (ad 11 e9 i) :: rest))) : W p l e R s m args below meth c H locs cells slots Q (F0 m pc ls (.ref (ad 3 i 0) :: .ref (ad 8 e9 0) :: rest)) :=
  va_csq (va_Run.run (rV hC hS hG h0 (As := [.ref (ad 3 i 0)]) (c_X3_entryOf l) ⟨rfl, rfl⟩ wl im_X3_entryOf sl_X3_X3_entryOf in_X3 cd_X3_entryOf (n := 1) (by decide +kernel) hR (recv hC hG (q := (RX3, TX3, 5)) rfl (V_event h0.1)) rfl hsz hst rfl hdg hcs)) (fun r hr => by
      rcases hr with ⟨q0, rfl⟩ | ⟨q9, q0, q1, q2, rfl⟩
      · exact k0 q0
      · exact k1 q9 q0 q1 q2)
set_option maxHeartbeats 4000000 in
set_option maxRecDepth 100000 in
theorem c_X3_countEntries (l : Launch) {D : va_G} {cy : Nat → ClassId} {sa : Nat → Nat} {de B : Nat} {ad : Ad} {S : St} {n : Nat → Nat} {T : St} {k : Nat → Nat} {th : Int32} {X : Rl} {e9 : Nat}   : Met l yX3_countEntries (Cond.code yX3_countEntries cX3_countEntries 3 (Option.some Jvm.ClassFile.FieldType.int) :: G0) ({ frames := 0, cells := 0, slots := 0, locals := 0 } : Room) (va_Pc [.ref (ad 8 e9 0)] (PW D cy sa de B ad (Vw cy de ad S n T k th X) (e9 < n 7 ∧ WF S n ∧ NE S))) (vp_Si (fun r => r = cnt (entP S e9) 16)) 0 0 (fun _ => False) := by
  refine E_met (own := RX3) rfl rfl (Nat.le_of_ble_eq_true rfl) ?_
  intro p e s m below meth c hC hr hlk hnm hG h0 ls hl
  have hx := hC.x
  have hb := hC.b
  have hS : va_S (AB B) s.heap s.heap [] := va_S.rf
  have hl : lo ls 3 [some (.ref (ad 8 e9 0)), none, none] := lo_of hl
  obtain ⟨he, hW, hNE⟩ := h0
  have hW9 := hW
  obtain ⟨hB0, hB1, hB2, hB3, hB4, hB5, hB6, hB7, hKI, hEI, hKY⟩ := hW9
  refine lv_iconst (v := 0) hx hb dX3_countEntries_0 (by decide) ?_
  refine o_istore_n hx hb dX3_countEntries_1 hl (by decide) rfl (fun ls hl => ?_)
  refine lv_iconst (v := 0) hx hb dX3_countEntries_2 (by decide) ?_
  refine o_istore_n hx hb dX3_countEntries_3 hl (by decide) rfl (fun ls hl => ?_)
  have loop4 : ∀ (q9 : Nat) (y : Nat), y ≤ 16 ∧ 16 < y + q9 → ∀ ls : Array Slot, lo ls 3 [some (.ref (ad 8 e9 0)), some (.int (cnt (entP S e9) y)), some (.int (nI y))] → W p l e ({ frames := 0, cells := 0, slots := 0, locals := 0 } : Room) s m [.ref (ad 8 e9 0)].toArray below meth c s.heap [] 0 0 (MQ below (vp_Si (fun r => r = cnt (entP S e9) 16)) [.ref (ad 8 e9 0)].toArray s 0 0 (fun _ => False)) (F0 m 4 ls []) := by
    intro q9
    induction q9 with
    | zero => intro y hq9; exact absurd hq9 (by omega)
    | succ q9 ih4 =>
      intro y hq9   ls hl
      refine o_iload_n hx hb dX3_countEntries_4 hl rfl ?_
      refine o_aload_n hx hb dX3_countEntries_5 hl rfl ?_
      refine g_get hC hG us_X3 rfl 2 (by decide) fl_X3_17 (V_event (by omega)) rfl dX3_countEntries_6 ?_
      refine g_alen hC hG 5 rfl (V_entA (by omega)) (v := nI 16) rfl dX3_countEntries_9 ?_
      refine n_icmp_ge (tgt := 31) hx hb y 16 rfl rfl (by omega) (by omega) dX3_countEntries_10 (by decide) (fun h10 => ?_) (fun h10 => ?_)
      · skip
        refine o_iload_n hx hb dX3_countEntries_31 hl rfl ?_
        exact R_i hC hr hlk rfl (by rw [show (16 : Nat) = y by omega]) dX3_countEntries_32
      · skip
        refine o_aload_n hx hb dX3_countEntries_13 hl rfl ?_
        refine g_get hC hG us_X3 rfl 2 (by decide) fl_X3_17 (V_event (by omega)) rfl dX3_countEntries_14 ?_
        refine o_iload_n hx hb dX3_countEntries_17 hl rfl ?_
        refine g_aald hC hG 5 rfl rfl (V_entA (by omega)) _ rfl (by omega) (by omega) dX3_countEntries_18 ?_
        rcases hEI e9 y with hn18 | ⟨he18, ha18, q18, hq18, hk18⟩
        · skip
          rw [fEnt_none (show _ = -1 by exact hn18)]
          refine lv_ifnullN (tgt := 25) hx hb dX3_countEntries_19 (by decide) ?_
          refine o_iinc1 hx hb dX3_countEntries_25 hl rfl (by decide) rfl (fun ls hl => ?_)
          refine lv_goto (tgt := 4) hx hb dX3_countEntries_28 (by decide) ?_
          exact ih4 (y + 1) (by omega) ls (by first | (rw [cnt_t (P := entP S e9) (show ¬ S 20 e9 y = -1 by rw [hk18]; exact nI_ne_m1 (by omega))]; exact hl) | (rw [cnt_f (P := entP S e9) (fun z => z hn18)]; exact hl))
        · skip
          have hng18 : neg (S 20 e9 y) = false := by rw [hk18]; exact neg_nI (by omega)
          rw [fEnt_some (show neg _ = false by exact hng18)]
          refine lv_ifnull hx hb dX3_countEntries_19 ?_
          refine o_iinc hx hb dX3_countEntries_22 hl rfl (show _ + 1 = _ from rfl) (by decide) rfl (fun ls hl => ?_)
          refine o_iinc1 hx hb dX3_countEntries_25 hl rfl (by decide) rfl (fun ls hl => ?_)
          refine lv_goto (tgt := 4) hx hb dX3_countEntries_28 (by decide) ?_
          exact ih4 (y + 1) (by omega) ls (by first | (rw [cnt_t (P := entP S e9) (show ¬ S 20 e9 y = -1 by rw [hk18]; exact nI_ne_m1 (by omega))]; exact hl) | (rw [cnt_f (P := entP S e9) (fun z => z hn18)]; exact hl))
  exact loop4 17 0 (by omega) ls hl
theorem k_X3_countEntries {p : Program} {l : Launch} {e : Env} {R : Room} {s : State} {m : MethodId} {args : Array Value} {below : List Frame} {meth : Method} {c : Code} {H : Heap} {locs : List Loc} {cells slots : Nat} {Q : State → Prop} {cc : ByteArray} {pc nL : Nat} {ls : Array Slot} {rest : List Value} {own : String} {D : va_G} {cy : Nat → ClassId} {sa : Nat → Nat} {de B : Nat} {ad : Ad} {S : St} {n : Nat → Nat} {T : St} {k : Nat → Nat} {th : Int32} {X : Rl} {e9 : Nat}   (hC : Cx p m c cc nL s args own D cy sa de B) (hS : va_S (AB B) s.heap H locs) (hG : GW D B ad (Vw cy de ad S n T k th X) H) (h0 : e9 < n 7 ∧ WF S n ∧ NE S)  {idx : Nat} (wl : Cond.methodLink own idx yX3_countEntries ∈ G0) (hR : 0 + 1 ≤ R.frames ∧ 8 + (3 + 11) + 0 ≤ R.locals) (hsz : ls.size = nL) (hst : (rest.map fun v => v.category).sum ≤ 8) (hdg : decode cc pc = .ok (.invokevirtual idx, 3)) (hcs : cells + 0 ≤ R.cells ∧ slots + 0 ≤ R.slots) (kk : W p l e R s m args below meth c H locs cells slots Q (F0 m (pc + 3) ls (.int (cnt (entP S e9) 16) :: rest))) : W p l e R s m args below meth c H locs cells slots Q (F0 m pc ls (.ref (ad 8 e9 0) :: rest)) :=
  vp_callSi (va_Run.run (rV hC hS hG h0 (As := []) (c_X3_countEntries l) ⟨rfl, rfl⟩ wl im_X3_countEntries sl_X3_X3_countEntries in_X3 cd_X3_countEntries (n := 0) (by decide +kernel) hR (recv hC hG (q := (RX3, TX3, 5)) rfl (V_event h0.1)) rfl hsz hst rfl hdg hcs)) (fun r hr => by subst hr; exact kk)
set_option maxHeartbeats 4000000 in
set_option maxRecDepth 100000 in
theorem c_X3_countNotFallen (l : Launch) {D : va_G} {cy : Nat → ClassId} {sa : Nat → Nat} {de B : Nat} {ad : Ad} {S : St} {n : Nat → Nat} {T : St} {k : Nat → Nat} {th : Int32} {X : Rl} {e9 : Nat}   : Met l yX3_countNotFallen (Cond.code yX3_countNotFallen cX3_countNotFallen 4 (Option.some Jvm.ClassFile.FieldType.int) :: G0) ({ frames := 0, cells := 0, slots := 0, locals := 0 } : Room) (va_Pc [.ref (ad 8 e9 0)] (PW D cy sa de B ad (Vw cy de ad S n T k th X) (e9 < n 7 ∧ WF S n ∧ NE S))) (vp_Si (fun r => r = cnt (stP S e9) 16)) 0 0 (fun _ => False) := by
  refine E_met (own := RX3) rfl rfl (Nat.le_of_ble_eq_true rfl) ?_
  intro p e s m below meth c hC hr hlk hnm hG h0 ls hl
  have hx := hC.x
  have hb := hC.b
  have hS : va_S (AB B) s.heap s.heap [] := va_S.rf
  have hl : lo ls 4 [some (.ref (ad 8 e9 0)), none, none, none] := lo_of hl
  obtain ⟨he, hW, hNE⟩ := h0
  have hW9 := hW
  obtain ⟨hB0, hB1, hB2, hB3, hB4, hB5, hB6, hB7, hKI, hEI, hKY⟩ := hW9
  refine lv_iconst (v := 0) hx hb dX3_countNotFallen_0 (by decide) ?_
  refine o_istore_n hx hb dX3_countNotFallen_1 hl (by decide) rfl (fun ls hl => ?_)
  refine lv_iconst (v := 0) hx hb dX3_countNotFallen_2 (by decide) ?_
  refine o_istore_n hx hb dX3_countNotFallen_3 hl (by decide) rfl (fun ls hl => ?_)
  have loop4 : ∀ (q9 : Nat) (y : Nat), y ≤ 16 ∧ 16 < y + q9 → ∀ ls : Array Slot, lo ls 4 [some (.ref (ad 8 e9 0)), some (.int (cnt (stP S e9) y)), some (.int (nI y)), none] → W p l e ({ frames := 0, cells := 0, slots := 0, locals := 0 } : Room) s m [.ref (ad 8 e9 0)].toArray below meth c s.heap [] 0 0 (MQ below (vp_Si (fun r => r = cnt (stP S e9) 16)) [.ref (ad 8 e9 0)].toArray s 0 0 (fun _ => False)) (F0 m 4 ls []) := by
    intro q9
    induction q9 with
    | zero => intro y hq9; exact absurd hq9 (by omega)
    | succ q9 ih4 =>
      intro y hq9   ls hl
      refine o_iload_n hx hb dX3_countNotFallen_4 hl rfl ?_
      refine o_aload_n hx hb dX3_countNotFallen_5 hl rfl ?_
      refine g_get hC hG us_X3 rfl 2 (by decide) fl_X3_17 (V_event (by omega)) rfl dX3_countNotFallen_6 ?_
      refine g_alen hC hG 5 rfl (V_entA (by omega)) (v := nI 16) rfl dX3_countNotFallen_9 ?_
      refine n_icmp_ge (tgt := 40) hx hb y 16 rfl rfl (by omega) (by omega) dX3_countNotFallen_10 (by decide) (fun h10 => ?_) (fun h10 => ?_)
      · skip
        refine o_iload_n hx hb dX3_countNotFallen_40 hl rfl ?_
        exact R_i hC hr hlk rfl (by rw [show (16 : Nat) = y by omega]) dX3_countNotFallen_41
      · skip
        refine o_aload_n hx hb dX3_countNotFallen_13 hl rfl ?_
        refine g_get hC hG us_X3 rfl 2 (by decide) fl_X3_17 (V_event (by omega)) rfl dX3_countNotFallen_14 ?_
        refine o_iload_n hx hb dX3_countNotFallen_17 hl rfl ?_
        refine g_aald hC hG 5 rfl rfl (V_entA (by omega)) _ rfl (by omega) (by omega) dX3_countNotFallen_18 ?_
        rcases hEI e9 y with hn18 | ⟨he18, ha18, q18, hq18, hk18⟩
        · skip
          rw [fEnt_none (show _ = -1 by exact hn18)]
          refine o_astore_nq (x := none) hx hb dX3_countNotFallen_19 hl (by decide) rfl (fun ls hl => ?_)
          refine o_aload_nq (x := none) hx hb dX3_countNotFallen_20 hl rfl ?_
          refine lv_ifnullN (tgt := 34) hx hb dX3_countNotFallen_21 (by decide) ?_
          refine o_iinc1 hx hb dX3_countNotFallen_34 hl rfl (by decide) rfl (fun ls hl => ?_)
          refine lv_goto (tgt := 4) hx hb dX3_countNotFallen_37 (by decide) ?_
          exact ih4 (y + 1) (by omega) ls (by first | (rw [cnt_t (P := stP S e9) ⟨(show ¬ S 20 e9 y = -1 by rw [hk18]; exact nI_ne_m1 (by omega)), Classical.not_not.mp h28⟩]; exact (lo_none (i := 3) hl)) | (rw [cnt_f (P := stP S e9) (fun z => h28 z.2)]; exact (lo_none (i := 3) hl)) | (rw [cnt_f (P := stP S e9) (fun z => z.1 hn18)]; exact (lo_none (i := 3) hl)) | (rw [cnt_t (P := stP S e9) ⟨(show ¬ S 20 e9 y = -1 by rw [hk18]; exact nI_ne_m1 (by omega)), h28⟩]; exact (lo_none (i := 3) hl)))
        · skip
          have hng18 : neg (S 20 e9 y) = false := by rw [hk18]; exact neg_nI (by omega)
          rw [fEnt_some (show neg _ = false by exact hng18)]
          refine o_astore_n hx hb dX3_countNotFallen_19 hl (by decide) rfl (fun ls hl => ?_)
          refine o_aload_n hx hb dX3_countNotFallen_20 hl rfl ?_
          refine lv_ifnull hx hb dX3_countNotFallen_21 ?_
          refine o_aload_n hx hb dX3_countNotFallen_24 hl rfl ?_
          refine g_get hC hG us_X2 rfl 2 (by decide) fl_X3_38 (V_ent (by omega) (by omega) (by assumption)) rfl dX3_countNotFallen_25 ?_
          refine lv_if_ne (tgt := 34) hx hb dX3_countNotFallen_28 (by decide) (fun h28 => ?_) (fun h28 => ?_)
          · skip
            refine o_iinc1 hx hb dX3_countNotFallen_34 hl rfl (by decide) rfl (fun ls hl => ?_)
            refine lv_goto (tgt := 4) hx hb dX3_countNotFallen_37 (by decide) ?_
            exact ih4 (y + 1) (by omega) ls (by first | (rw [cnt_t (P := stP S e9) ⟨(show ¬ S 20 e9 y = -1 by rw [hk18]; exact nI_ne_m1 (by omega)), Classical.not_not.mp h28⟩]; exact (lo_none (i := 3) hl)) | (rw [cnt_f (P := stP S e9) (fun z => h28 z.2)]; exact (lo_none (i := 3) hl)) | (rw [cnt_f (P := stP S e9) (fun z => z.1 hn18)]; exact (lo_none (i := 3) hl)) | (rw [cnt_t (P := stP S e9) ⟨(show ¬ S 20 e9 y = -1 by rw [hk18]; exact nI_ne_m1 (by omega)), h28⟩]; exact (lo_none (i := 3) hl)))
          · skip
            refine o_iinc hx hb dX3_countNotFallen_31 hl rfl (show _ + 1 = _ from rfl) (by decide) rfl (fun ls hl => ?_)
            refine o_iinc1 hx hb dX3_countNotFallen_34 hl rfl (by decide) rfl (fun ls hl => ?_)
            refine lv_goto (tgt := 4) hx hb dX3_countNotFallen_37 (by decide) ?_
            exact ih4 (y + 1) (by omega) ls (by first | (rw [cnt_t (P := stP S e9) ⟨(show ¬ S 20 e9 y = -1 by rw [hk18]; exact nI_ne_m1 (by omega)), Classical.not_not.mp h28⟩]; exact (lo_none (i := 3) hl)) | (rw [cnt_f (P := stP S e9) (fun z => h28 z.2)]; exact (lo_none (i := 3) hl)) | (rw [cnt_f (P := stP S e9) (fun z => z.1 hn18)]; exact (lo_none (i := 3) hl)) | (rw [cnt_t (P := stP S e9) ⟨(show ¬ S 20 e9 y = -1 by rw [hk18]; exact nI_ne_m1 (by omega)), h28⟩]; exact (lo_none (i := 3) hl)))
  exact loop4 17 0 (by omega) ls hl
theorem k_X3_countNotFallen {p : Program} {l : Launch} {e : Env} {R : Room} {s : State} {m : MethodId} {args : Array Value} {below : List Frame} {meth : Method} {c : Code} {H : Heap} {locs : List Loc} {cells slots : Nat} {Q : State → Prop} {cc : ByteArray} {pc nL : Nat} {ls : Array Slot} {rest : List Value} {own : String} {D : va_G} {cy : Nat → ClassId} {sa : Nat → Nat} {de B : Nat} {ad : Ad} {S : St} {n : Nat → Nat} {T : St} {k : Nat → Nat} {th : Int32} {X : Rl} {e9 : Nat}   (hC : Cx p m c cc nL s args own D cy sa de B) (hS : va_S (AB B) s.heap H locs) (hG : GW D B ad (Vw cy de ad S n T k th X) H) (h0 : e9 < n 7 ∧ WF S n ∧ NE S)  {idx : Nat} (wl : Cond.methodLink own idx yX3_countNotFallen ∈ G0) (hR : 0 + 1 ≤ R.frames ∧ 8 + (4 + 11) + 0 ≤ R.locals) (hsz : ls.size = nL) (hst : (rest.map fun v => v.category).sum ≤ 8) (hdg : decode cc pc = .ok (.invokevirtual idx, 3)) (hcs : cells + 0 ≤ R.cells ∧ slots + 0 ≤ R.slots) (kk : W p l e R s m args below meth c H locs cells slots Q (F0 m (pc + 3) ls (.int (cnt (stP S e9) 16) :: rest))) : W p l e R s m args below meth c H locs cells slots Q (F0 m pc ls (.ref (ad 8 e9 0) :: rest)) :=
  vp_callSi (va_Run.run (rV hC hS hG h0 (As := []) (c_X3_countNotFallen l) ⟨rfl, rfl⟩ wl im_X3_countNotFallen sl_X3_X3_countNotFallen in_X3 cd_X3_countNotFallen (n := 0) (by decide +kernel) hR (recv hC hG (q := (RX3, TX3, 5)) rfl (V_event h0.1)) rfl hsz hst rfl hdg hcs)) (fun r hr => by subst hr; exact kk)
set_option maxHeartbeats 4000000 in
set_option maxRecDepth 100000 in
theorem c_X3_countTimes (l : Launch) {D : va_G} {cy : Nat → ClassId} {sa : Nat → Nat} {de B : Nat} {ad : Ad} {S : St} {n : Nat → Nat} {T : St} {k : Nat → Nat} {th : Int32} {X : Rl} {e9 : Nat}   : Met l yX3_countTimes (Cond.code yX3_countTimes cX3_countTimes 4 (Option.some Jvm.ClassFile.FieldType.int) :: G0) ({ frames := 1, cells := 0, slots := 0, locals := 20 } : Room) (va_Pc [.ref (ad 8 e9 0)] (PW D cy sa de B ad (Vw cy de ad S n T k th X) (e9 < n 7 ∧ WF S n ∧ NE S))) (vp_Si (fun r => r = cnt (timeP S e9) 16)) 0 0 (fun _ => False) := by
  refine E_met (own := RX3) rfl rfl (Nat.le_of_ble_eq_true rfl) ?_
  intro p e s m below meth c hC hr hlk hnm hG h0 ls hl
  have hx := hC.x
  have hb := hC.b
  have hS : va_S (AB B) s.heap s.heap [] := va_S.rf
  have hl : lo ls 4 [some (.ref (ad 8 e9 0)), none, none, none] := lo_of hl
  obtain ⟨he, hW, hNE⟩ := h0
  have hW9 := hW
  obtain ⟨hB0, hB1, hB2, hB3, hB4, hB5, hB6, hB7, hKI, hEI, hKY⟩ := hW9
  refine lv_iconst (v := 0) hx hb dX3_countTimes_0 (by decide) ?_
  refine o_istore_n hx hb dX3_countTimes_1 hl (by decide) rfl (fun ls hl => ?_)
  refine lv_iconst (v := 0) hx hb dX3_countTimes_2 (by decide) ?_
  refine o_istore_n hx hb dX3_countTimes_3 hl (by decide) rfl (fun ls hl => ?_)
  have loop4 : ∀ (q9 : Nat) (y : Nat), y ≤ 16 ∧ 16 < y + q9 → ∀ ls : Array Slot, lo ls 4 [some (.ref (ad 8 e9 0)), some (.int (cnt (timeP S e9) y)), some (.int (nI y)), none] → W p l e ({ frames := 1, cells := 0, slots := 0, locals := 20 } : Room) s m [.ref (ad 8 e9 0)].toArray below meth c s.heap [] 0 0 (MQ below (vp_Si (fun r => r = cnt (timeP S e9) 16)) [.ref (ad 8 e9 0)].toArray s 0 0 (fun _ => False)) (F0 m 4 ls []) := by
    intro q9
    induction q9 with
    | zero => intro y hq9; exact absurd hq9 (by omega)
    | succ q9 ih4 =>
      intro y hq9   ls hl
      refine o_iload_n hx hb dX3_countTimes_4 hl rfl ?_
      refine o_aload_n hx hb dX3_countTimes_5 hl rfl ?_
      refine g_get hC hG us_X3 rfl 2 (by decide) fl_X3_17 (V_event (by omega)) rfl dX3_countTimes_6 ?_
      refine g_alen hC hG 5 rfl (V_entA (by omega)) (v := nI 16) rfl dX3_countTimes_9 ?_
      refine n_icmp_ge (tgt := 40) hx hb y 16 rfl rfl (by omega) (by omega) dX3_countTimes_10 (by decide) (fun h10 => ?_) (fun h10 => ?_)
      · skip
        refine o_iload_n hx hb dX3_countTimes_40 hl rfl ?_
        exact R_i hC hr hlk rfl (by rw [show (16 : Nat) = y by omega]) dX3_countTimes_41
      · skip
        refine o_aload_n hx hb dX3_countTimes_13 hl rfl ?_
        refine g_get hC hG us_X3 rfl 2 (by decide) fl_X3_17 (V_event (by omega)) rfl dX3_countTimes_14 ?_
        refine o_iload_n hx hb dX3_countTimes_17 hl rfl ?_
        refine g_aald hC hG 5 rfl rfl (V_entA (by omega)) _ rfl (by omega) (by omega) dX3_countTimes_18 ?_
        rcases hEI e9 y with hn18 | ⟨he18, ha18, q18, hq18, hk18⟩
        · skip
          rw [fEnt_none (show _ = -1 by exact hn18)]
          refine o_astore_nq (x := none) hx hb dX3_countTimes_19 hl (by decide) rfl (fun ls hl => ?_)
          refine o_aload_nq (x := none) hx hb dX3_countTimes_20 hl rfl ?_
          refine lv_ifnullN (tgt := 34) hx hb dX3_countTimes_21 (by decide) ?_
          refine o_iinc1 hx hb dX3_countTimes_34 hl rfl (by decide) rfl (fun ls hl => ?_)
          refine lv_goto (tgt := 4) hx hb dX3_countTimes_37 (by decide) ?_
          exact ih4 (y + 1) (by omega) ls (by first | (rw [cnt_t (P := timeP S e9) h25]; exact (lo_none (i := 3) hl)) | (rw [cnt_f (P := timeP S e9) h25]; exact (lo_none (i := 3) hl)) | (rw [cnt_f (P := timeP S e9) (fun z => z (hNE _ _ hn18).1)]; exact (lo_none (i := 3) hl)))
        · skip
          have hng18 : neg (S 20 e9 y) = false := by rw [hk18]; exact neg_nI (by omega)
          rw [fEnt_some (show neg _ = false by exact hng18)]
          refine o_astore_n hx hb dX3_countTimes_19 hl (by decide) rfl (fun ls hl => ?_)
          refine o_aload_n hx hb dX3_countTimes_20 hl rfl ?_
          refine lv_ifnull hx hb dX3_countTimes_21 ?_
          refine o_aload_n hx hb dX3_countTimes_24 hl rfl ?_
          refine k_X2_hasTime hC hS hG ⟨by omega, by omega, by assumption⟩ ml_X3_51 ⟨Nat.le_of_ble_eq_true rfl, Nat.le_of_ble_eq_true rfl⟩ hl.1 (Nat.le_of_ble_eq_true rfl) dX3_countTimes_25 ⟨Nat.le_of_ble_eq_true rfl, Nat.le_of_ble_eq_true rfl⟩ (fun h25 => ?_) (fun h25 => ?_)
          · skip
            refine lv_if_eq (tgt := 34) hx hb dX3_countTimes_28 (by decide) (fun h28 => ?_) (fun h28 => ?_)
            · exact absurd h28 (by decide)
            · skip
              refine o_iinc hx hb dX3_countTimes_31 hl rfl (show _ + 1 = _ from rfl) (by decide) rfl (fun ls hl => ?_)
              refine o_iinc1 hx hb dX3_countTimes_34 hl rfl (by decide) rfl (fun ls hl => ?_)
              refine lv_goto (tgt := 4) hx hb dX3_countTimes_37 (by decide) ?_
              exact ih4 (y + 1) (by omega) ls (by first | (rw [cnt_t (P := timeP S e9) h25]; exact (lo_none (i := 3) hl)) | (rw [cnt_f (P := timeP S e9) h25]; exact (lo_none (i := 3) hl)) | (rw [cnt_f (P := timeP S e9) (fun z => z (hNE _ _ hn18).1)]; exact (lo_none (i := 3) hl)))
          · skip
            refine lv_if_eq (tgt := 34) hx hb dX3_countTimes_28 (by decide) (fun h28 => ?_) (fun h28 => ?_)
            · skip
              refine o_iinc1 hx hb dX3_countTimes_34 hl rfl (by decide) rfl (fun ls hl => ?_)
              refine lv_goto (tgt := 4) hx hb dX3_countTimes_37 (by decide) ?_
              exact ih4 (y + 1) (by omega) ls (by first | (rw [cnt_t (P := timeP S e9) h25]; exact (lo_none (i := 3) hl)) | (rw [cnt_f (P := timeP S e9) h25]; exact (lo_none (i := 3) hl)) | (rw [cnt_f (P := timeP S e9) (fun z => z (hNE _ _ hn18).1)]; exact (lo_none (i := 3) hl)))
            · exact absurd h28 (by decide)
  exact loop4 17 0 (by omega) ls hl
theorem k_X3_countTimes {p : Program} {l : Launch} {e : Env} {R : Room} {s : State} {m : MethodId} {args : Array Value} {below : List Frame} {meth : Method} {c : Code} {H : Heap} {locs : List Loc} {cells slots : Nat} {Q : State → Prop} {cc : ByteArray} {pc nL : Nat} {ls : Array Slot} {rest : List Value} {own : String} {D : va_G} {cy : Nat → ClassId} {sa : Nat → Nat} {de B : Nat} {ad : Ad} {S : St} {n : Nat → Nat} {T : St} {k : Nat → Nat} {th : Int32} {X : Rl} {e9 : Nat}   (hC : Cx p m c cc nL s args own D cy sa de B) (hS : va_S (AB B) s.heap H locs) (hG : GW D B ad (Vw cy de ad S n T k th X) H) (h0 : e9 < n 7 ∧ WF S n ∧ NE S)  {idx : Nat} (wl : Cond.methodLink own idx yX3_countTimes ∈ G0) (hR : 1 + 1 ≤ R.frames ∧ 8 + (4 + 11) + 20 ≤ R.locals) (hsz : ls.size = nL) (hst : (rest.map fun v => v.category).sum ≤ 8) (hdg : decode cc pc = .ok (.invokevirtual idx, 3)) (hcs : cells + 0 ≤ R.cells ∧ slots + 0 ≤ R.slots) (kk : W p l e R s m args below meth c H locs cells slots Q (F0 m (pc + 3) ls (.int (cnt (timeP S e9) 16) :: rest))) : W p l e R s m args below meth c H locs cells slots Q (F0 m pc ls (.ref (ad 8 e9 0) :: rest)) :=
  vp_callSi (va_Run.run (rV hC hS hG h0 (As := []) (c_X3_countTimes l) ⟨rfl, rfl⟩ wl im_X3_countTimes sl_X3_X3_countTimes in_X3 cd_X3_countTimes (n := 0) (by decide +kernel) hR (recv hC hG (q := (RX3, TX3, 5)) rfl (V_event h0.1)) rfl hsz hst rfl hdg hcs)) (fun r hr => by subst hr; exact kk)
set_option maxHeartbeats 4000000 in
set_option maxRecDepth 100000 in
theorem c_X3_countLandsNotFallen (l : Launch) {D : va_G} {cy : Nat → ClassId} {sa : Nat → Nat} {de B : Nat} {ad : Ad} {S : St} {n : Nat → Nat} {T : St} {k : Nat → Nat} {th : Int32} {X : Rl} {e9 : Nat}   : Met l yX3_countLandsNotFallen (Cond.code yX3_countLandsNotFallen cX3_countLandsNotFallen 4 (Option.some Jvm.ClassFile.FieldType.int) :: G0) ({ frames := 1, cells := 0, slots := 0, locals := 20 } : Room) (va_Pc [.ref (ad 8 e9 0)] (PW D cy sa de B ad (Vw cy de ad S n T k th X) (e9 < n 7 ∧ WF S n ∧ NE S))) (vp_Si (fun r => r = (bcF (lnd S e9 16)))) 0 0 (fun _ => False) := by
  refine E_met (own := RX3) rfl rfl (Nat.le_of_ble_eq_true rfl) ?_
  intro p e s m below meth c hC hr hlk hnm hG h0 ls hl
  have hx := hC.x
  have hb := hC.b
  have hS : va_S (AB B) s.heap s.heap [] := va_S.rf
  have hl : lo ls 4 [some (.ref (ad 8 e9 0)), none, none, none] := lo_of hl
  obtain ⟨he, hW, hNE⟩ := h0
  have hW9 := hW
  obtain ⟨hB0, hB1, hB2, hB3, hB4, hB5, hB6, hB7, hKI, hEI, hKY⟩ := hW9
  refine lv_iconst (v := 0) hx hb dX3_countLandsNotFallen_0 (by decide) ?_
  refine o_istore_n hx hb dX3_countLandsNotFallen_1 hl (by decide) rfl (fun ls hl => ?_)
  refine lv_iconst (v := 0) hx hb dX3_countLandsNotFallen_2 (by decide) ?_
  refine o_istore_n hx hb dX3_countLandsNotFallen_3 hl (by decide) rfl (fun ls hl => ?_)
  have loop4 : ∀ (q9 : Nat) (y : Nat), y ≤ 16 ∧ 16 < y + q9 → ∀ ls : Array Slot, lo ls 4 [some (.ref (ad 8 e9 0)), some (.int (lnd S e9 y)), some (.int (nI y)), none] → W p l e ({ frames := 1, cells := 0, slots := 0, locals := 20 } : Room) s m [.ref (ad 8 e9 0)].toArray below meth c s.heap [] 0 0 (MQ below (vp_Si (fun r => r = (bcF (lnd S e9 16)))) [.ref (ad 8 e9 0)].toArray s 0 0 (fun _ => False)) (F0 m 4 ls []) := by
    intro q9
    induction q9 with
    | zero => intro y hq9; exact absurd hq9 (by omega)
    | succ q9 ih4 =>
      intro y hq9   ls hl
      refine o_iload_n hx hb dX3_countLandsNotFallen_4 hl rfl ?_
      refine o_aload_n hx hb dX3_countLandsNotFallen_5 hl rfl ?_
      refine g_get hC hG us_X3 rfl 2 (by decide) fl_X3_17 (V_event (by omega)) rfl dX3_countLandsNotFallen_6 ?_
      refine g_alen hC hG 5 rfl (V_entA (by omega)) (v := nI 16) rfl dX3_countLandsNotFallen_9 ?_
      refine n_icmp_ge (tgt := 49) hx hb y 16 rfl rfl (by omega) (by omega) dX3_countLandsNotFallen_10 (by decide) (fun h10 => ?_) (fun h10 => ?_)
      · skip
        refine o_iload_n hx hb dX3_countLandsNotFallen_49 hl rfl ?_
        refine k_J6_bitCount_0f7a4 hC hS hG trivial ml_X3_45 ⟨Nat.le_of_ble_eq_true rfl, Nat.le_of_ble_eq_true rfl⟩ hl.1 (Nat.le_of_ble_eq_true rfl) dX3_countLandsNotFallen_50 ⟨Nat.le_of_ble_eq_true rfl, Nat.le_of_ble_eq_true rfl⟩ ?_
        exact R_i hC hr hlk rfl (by rw [show (16 : Nat) = y by omega]) dX3_countLandsNotFallen_53
      · skip
        refine o_aload_n hx hb dX3_countLandsNotFallen_13 hl rfl ?_
        refine g_get hC hG us_X3 rfl 2 (by decide) fl_X3_17 (V_event (by omega)) rfl dX3_countLandsNotFallen_14 ?_
        refine o_iload_n hx hb dX3_countLandsNotFallen_17 hl rfl ?_
        refine g_aald hC hG 5 rfl rfl (V_entA (by omega)) _ rfl (by omega) (by omega) dX3_countLandsNotFallen_18 ?_
        rcases hEI e9 y with hn18 | ⟨he18, ha18, q18, hq18, hk18⟩
        · skip
          rw [fEnt_none (show _ = -1 by exact hn18)]
          refine o_astore_nq (x := none) hx hb dX3_countLandsNotFallen_19 hl (by decide) rfl (fun ls hl => ?_)
          refine o_aload_nq (x := none) hx hb dX3_countLandsNotFallen_20 hl rfl ?_
          refine lv_ifnullN (tgt := 43) hx hb dX3_countLandsNotFallen_21 (by decide) ?_
          refine o_iinc1 hx hb dX3_countLandsNotFallen_43 hl rfl (by decide) rfl (fun ls hl => ?_)
          refine lv_goto (tgt := 4) hx hb dX3_countLandsNotFallen_46 (by decide) ?_
          exact ih4 (y + 1) (by omega) ls (by first | (rw [lnd_t (S := S) (e := e9) ⟨(show ¬ S 20 e9 y = -1 by rw [hk18]; exact nI_ne_m1 (by omega)), Classical.not_not.mp h28⟩]; exact (lo_none (i := 3) hl)) | (rw [lnd_f (S := S) (e := e9) (fun z => h28 z.2)]; exact (lo_none (i := 3) hl)) | (rw [lnd_f (S := S) (e := e9) (fun z => z.1 hn18)]; exact (lo_none (i := 3) hl)) | (rw [lnd_t (S := S) (e := e9) ⟨(show ¬ S 20 e9 y = -1 by rw [hk18]; exact nI_ne_m1 (by omega)), h28⟩]; exact (lo_none (i := 3) hl)))
        · skip
          have hng18 : neg (S 20 e9 y) = false := by rw [hk18]; exact neg_nI (by omega)
          rw [fEnt_some (show neg _ = false by exact hng18)]
          refine o_astore_n hx hb dX3_countLandsNotFallen_19 hl (by decide) rfl (fun ls hl => ?_)
          refine o_aload_n hx hb dX3_countLandsNotFallen_20 hl rfl ?_
          refine lv_ifnull hx hb dX3_countLandsNotFallen_21 ?_
          refine o_aload_n hx hb dX3_countLandsNotFallen_24 hl rfl ?_
          refine g_get hC hG us_X2 rfl 2 (by decide) fl_X3_38 (V_ent (by omega) (by omega) (by assumption)) rfl dX3_countLandsNotFallen_25 ?_
          refine lv_if_ne (tgt := 43) hx hb dX3_countLandsNotFallen_28 (by decide) (fun h28 => ?_) (fun h28 => ?_)
          · skip
            refine o_iinc1 hx hb dX3_countLandsNotFallen_43 hl rfl (by decide) rfl (fun ls hl => ?_)
            refine lv_goto (tgt := 4) hx hb dX3_countLandsNotFallen_46 (by decide) ?_
            exact ih4 (y + 1) (by omega) ls (by first | (rw [lnd_t (S := S) (e := e9) ⟨(show ¬ S 20 e9 y = -1 by rw [hk18]; exact nI_ne_m1 (by omega)), Classical.not_not.mp h28⟩]; exact (lo_none (i := 3) hl)) | (rw [lnd_f (S := S) (e := e9) (fun z => h28 z.2)]; exact (lo_none (i := 3) hl)) | (rw [lnd_f (S := S) (e := e9) (fun z => z.1 hn18)]; exact (lo_none (i := 3) hl)) | (rw [lnd_t (S := S) (e := e9) ⟨(show ¬ S 20 e9 y = -1 by rw [hk18]; exact nI_ne_m1 (by omega)), h28⟩]; exact (lo_none (i := 3) hl)))
          · skip
            refine o_iload_n hx hb dX3_countLandsNotFallen_31 hl rfl ?_
            refine lv_iconst (v := 1) hx hb dX3_countLandsNotFallen_32 (by decide) ?_
            refine o_aload_n hx hb dX3_countLandsNotFallen_33 hl rfl ?_
            refine g_get hC hG us_X2 rfl 0 (by decide) fl_X3_34 (V_ent (by omega) (by omega) (by assumption)) rfl dX3_countLandsNotFallen_34 ?_
            refine g_get hC hG us_X0 rfl 1 (by decide) fl_X3_42 (V_ath (by omega)) rfl dX3_countLandsNotFallen_37 ?_
            refine lv_ishl hx hb dX3_countLandsNotFallen_40 ?_
            refine lv_ior hx hb dX3_countLandsNotFallen_41 ?_
            refine o_istore_n hx hb dX3_countLandsNotFallen_42 hl (by decide) rfl (fun ls hl => ?_)
            refine o_iinc1 hx hb dX3_countLandsNotFallen_43 hl rfl (by decide) rfl (fun ls hl => ?_)
            refine lv_goto (tgt := 4) hx hb dX3_countLandsNotFallen_46 (by decide) ?_
            exact ih4 (y + 1) (by omega) ls (by first | (rw [lnd_t (S := S) (e := e9) ⟨(show ¬ S 20 e9 y = -1 by rw [hk18]; exact nI_ne_m1 (by omega)), Classical.not_not.mp h28⟩]; exact (lo_none (i := 3) hl)) | (rw [lnd_f (S := S) (e := e9) (fun z => h28 z.2)]; exact (lo_none (i := 3) hl)) | (rw [lnd_f (S := S) (e := e9) (fun z => z.1 hn18)]; exact (lo_none (i := 3) hl)) | (rw [lnd_t (S := S) (e := e9) ⟨(show ¬ S 20 e9 y = -1 by rw [hk18]; exact nI_ne_m1 (by omega)), h28⟩]; exact (lo_none (i := 3) hl)))
  exact loop4 17 0 (by omega) ls hl
theorem k_X3_countLandsNotFallen {p : Program} {l : Launch} {e : Env} {R : Room} {s : State} {m : MethodId} {args : Array Value} {below : List Frame} {meth : Method} {c : Code} {H : Heap} {locs : List Loc} {cells slots : Nat} {Q : State → Prop} {cc : ByteArray} {pc nL : Nat} {ls : Array Slot} {rest : List Value} {own : String} {D : va_G} {cy : Nat → ClassId} {sa : Nat → Nat} {de B : Nat} {ad : Ad} {S : St} {n : Nat → Nat} {T : St} {k : Nat → Nat} {th : Int32} {X : Rl} {e9 : Nat}   (hC : Cx p m c cc nL s args own D cy sa de B) (hS : va_S (AB B) s.heap H locs) (hG : GW D B ad (Vw cy de ad S n T k th X) H) (h0 : e9 < n 7 ∧ WF S n ∧ NE S)  {idx : Nat} (wl : Cond.methodLink own idx yX3_countLandsNotFallen ∈ G0) (hR : 1 + 1 ≤ R.frames ∧ 8 + (4 + 11) + 20 ≤ R.locals) (hsz : ls.size = nL) (hst : (rest.map fun v => v.category).sum ≤ 8) (hdg : decode cc pc = .ok (.invokevirtual idx, 3)) (hcs : cells + 0 ≤ R.cells ∧ slots + 0 ≤ R.slots) (kk : W p l e R s m args below meth c H locs cells slots Q (F0 m (pc + 3) ls (.int (bcF (lnd S e9 16)) :: rest))) : W p l e R s m args below meth c H locs cells slots Q (F0 m pc ls (.ref (ad 8 e9 0) :: rest)) :=
  vp_callSi (va_Run.run (rV hC hS hG h0 (As := []) (c_X3_countLandsNotFallen l) ⟨rfl, rfl⟩ wl im_X3_countLandsNotFallen sl_X3_X3_countLandsNotFallen in_X3 cd_X3_countLandsNotFallen (n := 0) (by decide +kernel) hR (recv hC hG (q := (RX3, TX3, 5)) rfl (V_event h0.1)) rfl hsz hst rfl hdg hcs)) (fun r hr => by subst hr; exact kk)
set_option maxHeartbeats 4000000 in
set_option maxRecDepth 100000 in
theorem c_X3_countFaster (l : Launch) {D : va_G} {cy : Nat → ClassId} {sa : Nat → Nat} {de B : Nat} {ad : Ad} {S : St} {n : Nat → Nat} {T : St} {k : Nat → Nat} {th : Int32} {X : Rl} {e9 : Nat} {b : Nat}  : Met l yX3_countFaster (Cond.code yX3_countFaster cX3_countFaster 5 (Option.some Jvm.ClassFile.FieldType.int) :: G0) ({ frames := 1, cells := 0, slots := 0, locals := 20 } : Room) (va_Pc [.ref (ad 8 e9 0), .ref (ad 11 e9 b)] (PW D cy sa de B ad (Vw cy de ad S n T k th X) (e9 < n 7 ∧ WF S n ∧ NE S ∧ timeP S e9 b))) (vp_Si (fun r => r = cnt (fasP S e9 b) 16)) 0 0 (fun _ => False) := by
  refine E_met (own := RX3) rfl rfl (Nat.le_of_ble_eq_true rfl) ?_
  intro p e s m below meth c hC hr hlk hnm hG h0 ls hl
  have hx := hC.x
  have hb := hC.b
  have hS : va_S (AB B) s.heap s.heap [] := va_S.rf
  have hl : lo ls 5 [some (.ref (ad 8 e9 0)), some (.ref (ad 11 e9 b)), none, none, none] := lo_of hl
  obtain ⟨he, hW, hNE, htb⟩ := h0
  obtain ⟨-, hb4, hb16, hnb, qb, hqb, hkb⟩ := live hW hNE htb
  have hW9 := hW
  obtain ⟨hB0, hB1, hB2, hB3, hB4, hB5, hB6, hB7, hKI, hEI, hKY⟩ := hW9
  refine lv_iconst (v := 0) hx hb dX3_countFaster_0 (by decide) ?_
  refine o_istore_n hx hb dX3_countFaster_1 hl (by decide) rfl (fun ls hl => ?_)
  refine lv_iconst (v := 0) hx hb dX3_countFaster_2 (by decide) ?_
  refine o_istore_n hx hb dX3_countFaster_3 hl (by decide) rfl (fun ls hl => ?_)
  have loop4 : ∀ (q9 : Nat) (y : Nat), y ≤ 16 ∧ 16 < y + q9 → ∀ ls : Array Slot, lo ls 5 [some (.ref (ad 8 e9 0)), some (.ref (ad 11 e9 b)), some (.int (cnt (fasP S e9 b) y)), some (.int (nI y)), none] → W p l e ({ frames := 1, cells := 0, slots := 0, locals := 20 } : Room) s m [.ref (ad 8 e9 0), .ref (ad 11 e9 b)].toArray below meth c s.heap [] 0 0 (MQ below (vp_Si (fun r => r = cnt (fasP S e9 b) 16)) [.ref (ad 8 e9 0), .ref (ad 11 e9 b)].toArray s 0 0 (fun _ => False)) (F0 m 4 ls []) := by
    intro q9
    induction q9 with
    | zero => intro y hq9; exact absurd hq9 (by omega)
    | succ q9 ih4 =>
      intro y hq9   ls hl
      refine o_iload_n hx hb dX3_countFaster_4 hl rfl ?_
      refine o_aload_n hx hb dX3_countFaster_5 hl rfl ?_
      refine g_get hC hG us_X3 rfl 2 (by decide) fl_X3_17 (V_event (by omega)) rfl dX3_countFaster_6 ?_
      refine g_alen hC hG 5 rfl (V_entA (by omega)) (v := nI 16) rfl dX3_countFaster_9 ?_
      refine n_icmp_ge (tgt := 55) hx hb y 16 rfl rfl (by omega) (by omega) dX3_countFaster_10 (by decide) (fun h10 => ?_) (fun h10 => ?_)
      · skip
        refine o_iload_n hx hb dX3_countFaster_55 hl rfl ?_
        exact R_i hC hr hlk rfl (by rw [show (16 : Nat) = y by omega]) dX3_countFaster_56
      · skip
        refine o_aload_n hx hb dX3_countFaster_13 hl rfl ?_
        refine g_get hC hG us_X3 rfl 2 (by decide) fl_X3_17 (V_event (by omega)) rfl dX3_countFaster_14 ?_
        refine o_iload_n hx hb dX3_countFaster_17 hl rfl ?_
        refine g_aald hC hG 5 rfl rfl (V_entA (by omega)) _ rfl (by omega) (by omega) dX3_countFaster_18 ?_
        rcases hEI e9 y with hn18 | ⟨he18, ha18, q18, hq18, hk18⟩
        · skip
          rw [fEnt_none (show _ = -1 by exact hn18)]
          refine o_astoreq (x := none) hx hb dX3_countFaster_19 hl (by decide) rfl (fun ls hl => ?_)
          refine o_aloadq (x := none) hx hb dX3_countFaster_21 hl rfl ?_
          refine lv_ifnullN (tgt := 49) hx hb dX3_countFaster_23 (by decide) ?_
          refine o_iinc1 hx hb dX3_countFaster_49 hl rfl (by decide) rfl (fun ls hl => ?_)
          refine lv_goto (tgt := 4) hx hb dX3_countFaster_52 (by decide) ?_
          exact ih4 (y + 1) (by omega) ls (by first | (rw [cnt_t (P := fasP S e9 b) ⟨h28, Int32.not_le.mp h43⟩]; exact (lo_none (i := 4) hl)) | (rw [cnt_f (P := fasP S e9 b) (fun z => absurd z.2 (Int32.not_lt.mpr h43))]; exact (lo_none (i := 4) hl)) | (rw [cnt_f (P := fasP S e9 b) (fun z => h28 z.1)]; exact (lo_none (i := 4) hl)) | (rw [cnt_f (P := fasP S e9 b) (fun z => z.1 (hNE _ _ hn18).1)]; exact (lo_none (i := 4) hl)))
        · skip
          have hng18 : neg (S 20 e9 y) = false := by rw [hk18]; exact neg_nI (by omega)
          rw [fEnt_some (show neg _ = false by exact hng18)]
          refine o_astore hx hb dX3_countFaster_19 hl (by decide) rfl (fun ls hl => ?_)
          refine o_aload hx hb dX3_countFaster_21 hl rfl ?_
          refine lv_ifnull hx hb dX3_countFaster_23 ?_
          refine o_aload hx hb dX3_countFaster_26 hl rfl ?_
          refine k_X2_hasTime hC hS hG ⟨by omega, by omega, by assumption⟩ ml_X3_51 ⟨Nat.le_of_ble_eq_true rfl, Nat.le_of_ble_eq_true rfl⟩ hl.1 (Nat.le_of_ble_eq_true rfl) dX3_countFaster_28 ⟨Nat.le_of_ble_eq_true rfl, Nat.le_of_ble_eq_true rfl⟩ (fun h28 => ?_) (fun h28 => ?_)
          · skip
            refine lv_if_eq (tgt := 49) hx hb dX3_countFaster_31 (by decide) (fun h31 => ?_) (fun h31 => ?_)
            · exact absurd h31 (by decide)
            · skip
              refine o_aload hx hb dX3_countFaster_34 hl rfl ?_
              refine g_get hC hG us_X2 rfl 3 (by decide) fl_X3_55 (V_ent (by omega) (by omega) (by assumption)) rfl dX3_countFaster_36 ?_
              refine o_aload_n hx hb dX3_countFaster_39 hl rfl ?_
              refine g_get hC hG us_X2 rfl 3 (by decide) fl_X3_55 (V_ent (by omega) (by omega) (by assumption)) rfl dX3_countFaster_40 ?_
              refine lv_icmp_ge (tgt := 49) hx hb dX3_countFaster_43 (by decide) (fun h43 => ?_) (fun h43 => ?_)
              · skip
                refine o_iinc1 hx hb dX3_countFaster_49 hl rfl (by decide) rfl (fun ls hl => ?_)
                refine lv_goto (tgt := 4) hx hb dX3_countFaster_52 (by decide) ?_
                exact ih4 (y + 1) (by omega) ls (by first | (rw [cnt_t (P := fasP S e9 b) ⟨h28, Int32.not_le.mp h43⟩]; exact (lo_none (i := 4) hl)) | (rw [cnt_f (P := fasP S e9 b) (fun z => absurd z.2 (Int32.not_lt.mpr h43))]; exact (lo_none (i := 4) hl)) | (rw [cnt_f (P := fasP S e9 b) (fun z => h28 z.1)]; exact (lo_none (i := 4) hl)) | (rw [cnt_f (P := fasP S e9 b) (fun z => z.1 (hNE _ _ hn18).1)]; exact (lo_none (i := 4) hl)))
              · skip
                refine o_iinc hx hb dX3_countFaster_46 hl rfl (show _ + 1 = _ from rfl) (by decide) rfl (fun ls hl => ?_)
                refine o_iinc1 hx hb dX3_countFaster_49 hl rfl (by decide) rfl (fun ls hl => ?_)
                refine lv_goto (tgt := 4) hx hb dX3_countFaster_52 (by decide) ?_
                exact ih4 (y + 1) (by omega) ls (by first | (rw [cnt_t (P := fasP S e9 b) ⟨h28, Int32.not_le.mp h43⟩]; exact (lo_none (i := 4) hl)) | (rw [cnt_f (P := fasP S e9 b) (fun z => absurd z.2 (Int32.not_lt.mpr h43))]; exact (lo_none (i := 4) hl)) | (rw [cnt_f (P := fasP S e9 b) (fun z => h28 z.1)]; exact (lo_none (i := 4) hl)) | (rw [cnt_f (P := fasP S e9 b) (fun z => z.1 (hNE _ _ hn18).1)]; exact (lo_none (i := 4) hl)))
          · skip
            refine lv_if_eq (tgt := 49) hx hb dX3_countFaster_31 (by decide) (fun h31 => ?_) (fun h31 => ?_)
            · skip
              refine o_iinc1 hx hb dX3_countFaster_49 hl rfl (by decide) rfl (fun ls hl => ?_)
              refine lv_goto (tgt := 4) hx hb dX3_countFaster_52 (by decide) ?_
              exact ih4 (y + 1) (by omega) ls (by first | (rw [cnt_t (P := fasP S e9 b) ⟨h28, Int32.not_le.mp h43⟩]; exact (lo_none (i := 4) hl)) | (rw [cnt_f (P := fasP S e9 b) (fun z => absurd z.2 (Int32.not_lt.mpr h43))]; exact (lo_none (i := 4) hl)) | (rw [cnt_f (P := fasP S e9 b) (fun z => h28 z.1)]; exact (lo_none (i := 4) hl)) | (rw [cnt_f (P := fasP S e9 b) (fun z => z.1 (hNE _ _ hn18).1)]; exact (lo_none (i := 4) hl)))
            · exact absurd h31 (by decide)
  exact loop4 17 0 (by omega) ls hl
theorem k_X3_countFaster {p : Program} {l : Launch} {e : Env} {R : Room} {s : State} {m : MethodId} {args : Array Value} {below : List Frame} {meth : Method} {c : Code} {H : Heap} {locs : List Loc} {cells slots : Nat} {Q : State → Prop} {cc : ByteArray} {pc nL : Nat} {ls : Array Slot} {rest : List Value} {own : String} {D : va_G} {cy : Nat → ClassId} {sa : Nat → Nat} {de B : Nat} {ad : Ad} {S : St} {n : Nat → Nat} {T : St} {k : Nat → Nat} {th : Int32} {X : Rl} {e9 : Nat} {b : Nat}  (hC : Cx p m c cc nL s args own D cy sa de B) (hS : va_S (AB B) s.heap H locs) (hG : GW D B ad (Vw cy de ad S n T k th X) H) (h0 : e9 < n 7 ∧ WF S n ∧ NE S ∧ timeP S e9 b)  {idx : Nat} (wl : Cond.methodLink own idx yX3_countFaster ∈ G0) (hR : 1 + 1 ≤ R.frames ∧ 8 + (5 + 11) + 20 ≤ R.locals) (hsz : ls.size = nL) (hst : (rest.map fun v => v.category).sum ≤ 8) (hdg : decode cc pc = .ok (.invokevirtual idx, 3)) (hcs : cells + 0 ≤ R.cells ∧ slots + 0 ≤ R.slots) (kk : W p l e R s m args below meth c H locs cells slots Q (F0 m (pc + 3) ls (.int (cnt (fasP S e9 b) 16) :: rest))) : W p l e R s m args below meth c H locs cells slots Q (F0 m pc ls (.ref (ad 11 e9 b) :: .ref (ad 8 e9 0) :: rest)) :=
  vp_callSi (va_Run.run (rV hC hS hG h0 (As := [.ref (ad 11 e9 b)]) (c_X3_countFaster l) ⟨rfl, rfl⟩ wl im_X3_countFaster sl_X3_X3_countFaster in_X3 cd_X3_countFaster (n := 1) (by decide +kernel) hR (recv hC hG (q := (RX3, TX3, 5)) rfl (V_event h0.1)) rfl hsz hst rfl hdg hcs)) (fun r hr => by subst hr; exact kk)
set_option maxHeartbeats 4000000 in
set_option maxRecDepth 100000 in
theorem c_X3_countOfLandAhead (l : Launch) {D : va_G} {cy : Nat → ClassId} {sa : Nat → Nat} {de B : Nat} {ad : Ad} {S : St} {n : Nat → Nat} {T : St} {k : Nat → Nat} {th : Int32} {X : Rl} {e9 : Nat} {b : Nat}  : Met l yX3_countOfLandAhead (Cond.code yX3_countOfLandAhead cX3_countOfLandAhead 5 (Option.some Jvm.ClassFile.FieldType.int) :: G0) ({ frames := 1, cells := 0, slots := 0, locals := 21 } : Room) (va_Pc [.ref (ad 8 e9 0), .ref (ad 11 e9 b)] (PW D cy sa de B ad (Vw cy de ad S n T k th X) (e9 < n 7 ∧ WF S n ∧ NE S ∧ timeP S e9 b))) (vp_Si (fun r => r = cnt (lanP S e9 b) 16)) 0 0 (fun _ => False) := by
  refine E_met (own := RX3) rfl rfl (Nat.le_of_ble_eq_true rfl) ?_
  intro p e s m below meth c hC hr hlk hnm hG h0 ls hl
  have hx := hC.x
  have hb := hC.b
  have hS : va_S (AB B) s.heap s.heap [] := va_S.rf
  have hl : lo ls 5 [some (.ref (ad 8 e9 0)), some (.ref (ad 11 e9 b)), none, none, none] := lo_of hl
  obtain ⟨he, hW, hNE, htb⟩ := h0
  obtain ⟨-, hb4, hb16, hnb, qb, hqb, hkb⟩ := live hW hNE htb
  have hW9 := hW
  obtain ⟨hB0, hB1, hB2, hB3, hB4, hB5, hB6, hB7, hKI, hEI, hKY⟩ := hW9
  refine lv_iconst (v := 0) hx hb dX3_countOfLandAhead_0 (by decide) ?_
  refine o_istore_n hx hb dX3_countOfLandAhead_1 hl (by decide) rfl (fun ls hl => ?_)
  refine lv_iconst (v := 0) hx hb dX3_countOfLandAhead_2 (by decide) ?_
  refine o_istore_n hx hb dX3_countOfLandAhead_3 hl (by decide) rfl (fun ls hl => ?_)
  have loop4 : ∀ (q9 : Nat) (y : Nat), y ≤ 16 ∧ 16 < y + q9 → ∀ ls : Array Slot, lo ls 5 [some (.ref (ad 8 e9 0)), some (.ref (ad 11 e9 b)), some (.int (cnt (lanP S e9 b) y)), some (.int (nI y)), none] → W p l e ({ frames := 1, cells := 0, slots := 0, locals := 21 } : Room) s m [.ref (ad 8 e9 0), .ref (ad 11 e9 b)].toArray below meth c s.heap [] 0 0 (MQ below (vp_Si (fun r => r = cnt (lanP S e9 b) 16)) [.ref (ad 8 e9 0), .ref (ad 11 e9 b)].toArray s 0 0 (fun _ => False)) (F0 m 4 ls []) := by
    intro q9
    induction q9 with
    | zero => intro y hq9; exact absurd hq9 (by omega)
    | succ q9 ih4 =>
      intro y hq9   ls hl
      refine o_iload_n hx hb dX3_countOfLandAhead_4 hl rfl ?_
      refine o_aload_n hx hb dX3_countOfLandAhead_5 hl rfl ?_
      refine g_get hC hG us_X3 rfl 2 (by decide) fl_X3_17 (V_event (by omega)) rfl dX3_countOfLandAhead_6 ?_
      refine g_alen hC hG 5 rfl (V_entA (by omega)) (v := nI 16) rfl dX3_countOfLandAhead_9 ?_
      refine n_icmp_ge (tgt := 70) hx hb y 16 rfl rfl (by omega) (by omega) dX3_countOfLandAhead_10 (by decide) (fun h10 => ?_) (fun h10 => ?_)
      · skip
        refine o_iload_n hx hb dX3_countOfLandAhead_70 hl rfl ?_
        exact R_i hC hr hlk rfl (by rw [show (16 : Nat) = y by omega]) dX3_countOfLandAhead_71
      · skip
        refine o_aload_n hx hb dX3_countOfLandAhead_13 hl rfl ?_
        refine g_get hC hG us_X3 rfl 2 (by decide) fl_X3_17 (V_event (by omega)) rfl dX3_countOfLandAhead_14 ?_
        refine o_iload_n hx hb dX3_countOfLandAhead_17 hl rfl ?_
        refine g_aald hC hG 5 rfl rfl (V_entA (by omega)) _ rfl (by omega) (by omega) dX3_countOfLandAhead_18 ?_
        rcases hEI e9 y with hn18 | ⟨he18, ha18, q18, hq18, hk18⟩
        · skip
          rw [fEnt_none (show _ = -1 by exact hn18)]
          refine o_astoreq (x := none) hx hb dX3_countOfLandAhead_19 hl (by decide) rfl (fun ls hl => ?_)
          refine o_aloadq (x := none) hx hb dX3_countOfLandAhead_21 hl rfl ?_
          refine lv_ifnullN (tgt := 64) hx hb dX3_countOfLandAhead_23 (by decide) ?_
          refine o_iinc1 hx hb dX3_countOfLandAhead_64 hl rfl (by decide) rfl (fun ls hl => ?_)
          refine lv_goto (tgt := 4) hx hb dX3_countOfLandAhead_67 (by decide) ?_
          exact ih4 (y + 1) (by omega) ls (by first | (rw [cnt_t (P := lanP S e9 b) ⟨h28, Classical.not_not.mp h49, h55⟩]; exact (lo_none (i := 4) hl)) | (rw [cnt_t (P := lanP S e9 b) ⟨h28, h49, h55⟩]; exact (lo_none (i := 4) hl)) | (rw [cnt_f (P := lanP S e9 b) (fun z => h55 z.2.2)]; exact (lo_none (i := 4) hl)) | (rw [cnt_f (P := lanP S e9 b) (fun z => h49 z.2.1)]; exact (lo_none (i := 4) hl)) | (rw [cnt_f (P := lanP S e9 b) (fun z => h28 z.1)]; exact (lo_none (i := 4) hl)) | (rw [cnt_f (P := lanP S e9 b) (fun z => z.1 (hNE _ _ hn18).1)]; exact (lo_none (i := 4) hl)))
        · skip
          have hng18 : neg (S 20 e9 y) = false := by rw [hk18]; exact neg_nI (by omega)
          rw [fEnt_some (show neg _ = false by exact hng18)]
          refine o_astore hx hb dX3_countOfLandAhead_19 hl (by decide) rfl (fun ls hl => ?_)
          refine o_aload hx hb dX3_countOfLandAhead_21 hl rfl ?_
          refine lv_ifnull hx hb dX3_countOfLandAhead_23 ?_
          refine o_aload hx hb dX3_countOfLandAhead_26 hl rfl ?_
          refine k_X2_hasTime hC hS hG ⟨by omega, by omega, by assumption⟩ ml_X3_51 ⟨Nat.le_of_ble_eq_true rfl, Nat.le_of_ble_eq_true rfl⟩ hl.1 (Nat.le_of_ble_eq_true rfl) dX3_countOfLandAhead_28 ⟨Nat.le_of_ble_eq_true rfl, Nat.le_of_ble_eq_true rfl⟩ (fun h28 => ?_) (fun h28 => ?_)
          · skip
            refine lv_if_eq (tgt := 64) hx hb dX3_countOfLandAhead_31 (by decide) (fun h31 => ?_) (fun h31 => ?_)
            · exact absurd h31 (by decide)
            · skip
              refine o_aload hx hb dX3_countOfLandAhead_34 hl rfl ?_
              refine g_get hC hG us_X2 rfl 0 (by decide) fl_X3_34 (V_ent (by omega) (by omega) (by assumption)) rfl dX3_countOfLandAhead_36 ?_
              refine g_get hC hG us_X0 rfl 1 (by decide) fl_X3_42 (V_ath (by omega)) rfl dX3_countOfLandAhead_39 ?_
              refine o_aload_n hx hb dX3_countOfLandAhead_42 hl rfl ?_
              refine g_get hC hG us_X2 rfl 0 (by decide) fl_X3_34 (V_ent (by omega) (by omega) (by assumption)) rfl dX3_countOfLandAhead_43 ?_
              refine g_get hC hG us_X0 rfl 1 (by decide) fl_X3_42 (V_ath (by omega)) rfl dX3_countOfLandAhead_46 ?_
              refine lv_icmp_ne (tgt := 64) hx hb dX3_countOfLandAhead_49 (by decide) (fun h49 => ?_) (fun h49 => ?_)
              · skip
                refine o_iinc1 hx hb dX3_countOfLandAhead_64 hl rfl (by decide) rfl (fun ls hl => ?_)
                refine lv_goto (tgt := 4) hx hb dX3_countOfLandAhead_67 (by decide) ?_
                exact ih4 (y + 1) (by omega) ls (by first | (rw [cnt_t (P := lanP S e9 b) ⟨h28, Classical.not_not.mp h49, h55⟩]; exact (lo_none (i := 4) hl)) | (rw [cnt_t (P := lanP S e9 b) ⟨h28, h49, h55⟩]; exact (lo_none (i := 4) hl)) | (rw [cnt_f (P := lanP S e9 b) (fun z => h55 z.2.2)]; exact (lo_none (i := 4) hl)) | (rw [cnt_f (P := lanP S e9 b) (fun z => h49 z.2.1)]; exact (lo_none (i := 4) hl)) | (rw [cnt_f (P := lanP S e9 b) (fun z => h28 z.1)]; exact (lo_none (i := 4) hl)) | (rw [cnt_f (P := lanP S e9 b) (fun z => z.1 (hNE _ _ hn18).1)]; exact (lo_none (i := 4) hl)))
              · skip
                refine o_aload hx hb dX3_countOfLandAhead_52 hl rfl ?_
                refine o_aload_n hx hb dX3_countOfLandAhead_54 hl rfl ?_
                refine k_X2_isAheadOf hC hS hG ⟨by omega, by omega, by assumption, by omega, by assumption, by omega, by omega⟩ ml_X3_58 ⟨Nat.le_of_ble_eq_true rfl, Nat.le_of_ble_eq_true rfl⟩ hl.1 (Nat.le_of_ble_eq_true rfl) dX3_countOfLandAhead_55 ⟨Nat.le_of_ble_eq_true rfl, Nat.le_of_ble_eq_true rfl⟩ (fun h55 => ?_) (fun h55 => ?_)
                · skip
                  refine lv_if_eq (tgt := 64) hx hb dX3_countOfLandAhead_58 (by decide) (fun h58 => ?_) (fun h58 => ?_)
                  · exact absurd h58 (by decide)
                  · skip
                    refine o_iinc hx hb dX3_countOfLandAhead_61 hl rfl (show _ + 1 = _ from rfl) (by decide) rfl (fun ls hl => ?_)
                    refine o_iinc1 hx hb dX3_countOfLandAhead_64 hl rfl (by decide) rfl (fun ls hl => ?_)
                    refine lv_goto (tgt := 4) hx hb dX3_countOfLandAhead_67 (by decide) ?_
                    exact ih4 (y + 1) (by omega) ls (by first | (rw [cnt_t (P := lanP S e9 b) ⟨h28, Classical.not_not.mp h49, h55⟩]; exact (lo_none (i := 4) hl)) | (rw [cnt_t (P := lanP S e9 b) ⟨h28, h49, h55⟩]; exact (lo_none (i := 4) hl)) | (rw [cnt_f (P := lanP S e9 b) (fun z => h55 z.2.2)]; exact (lo_none (i := 4) hl)) | (rw [cnt_f (P := lanP S e9 b) (fun z => h49 z.2.1)]; exact (lo_none (i := 4) hl)) | (rw [cnt_f (P := lanP S e9 b) (fun z => h28 z.1)]; exact (lo_none (i := 4) hl)) | (rw [cnt_f (P := lanP S e9 b) (fun z => z.1 (hNE _ _ hn18).1)]; exact (lo_none (i := 4) hl)))
                · skip
                  refine lv_if_eq (tgt := 64) hx hb dX3_countOfLandAhead_58 (by decide) (fun h58 => ?_) (fun h58 => ?_)
                  · skip
                    refine o_iinc1 hx hb dX3_countOfLandAhead_64 hl rfl (by decide) rfl (fun ls hl => ?_)
                    refine lv_goto (tgt := 4) hx hb dX3_countOfLandAhead_67 (by decide) ?_
                    exact ih4 (y + 1) (by omega) ls (by first | (rw [cnt_t (P := lanP S e9 b) ⟨h28, Classical.not_not.mp h49, h55⟩]; exact (lo_none (i := 4) hl)) | (rw [cnt_t (P := lanP S e9 b) ⟨h28, h49, h55⟩]; exact (lo_none (i := 4) hl)) | (rw [cnt_f (P := lanP S e9 b) (fun z => h55 z.2.2)]; exact (lo_none (i := 4) hl)) | (rw [cnt_f (P := lanP S e9 b) (fun z => h49 z.2.1)]; exact (lo_none (i := 4) hl)) | (rw [cnt_f (P := lanP S e9 b) (fun z => h28 z.1)]; exact (lo_none (i := 4) hl)) | (rw [cnt_f (P := lanP S e9 b) (fun z => z.1 (hNE _ _ hn18).1)]; exact (lo_none (i := 4) hl)))
                  · exact absurd h58 (by decide)
          · skip
            refine lv_if_eq (tgt := 64) hx hb dX3_countOfLandAhead_31 (by decide) (fun h31 => ?_) (fun h31 => ?_)
            · skip
              refine o_iinc1 hx hb dX3_countOfLandAhead_64 hl rfl (by decide) rfl (fun ls hl => ?_)
              refine lv_goto (tgt := 4) hx hb dX3_countOfLandAhead_67 (by decide) ?_
              exact ih4 (y + 1) (by omega) ls (by first | (rw [cnt_t (P := lanP S e9 b) ⟨h28, Classical.not_not.mp h49, h55⟩]; exact (lo_none (i := 4) hl)) | (rw [cnt_t (P := lanP S e9 b) ⟨h28, h49, h55⟩]; exact (lo_none (i := 4) hl)) | (rw [cnt_f (P := lanP S e9 b) (fun z => h55 z.2.2)]; exact (lo_none (i := 4) hl)) | (rw [cnt_f (P := lanP S e9 b) (fun z => h49 z.2.1)]; exact (lo_none (i := 4) hl)) | (rw [cnt_f (P := lanP S e9 b) (fun z => h28 z.1)]; exact (lo_none (i := 4) hl)) | (rw [cnt_f (P := lanP S e9 b) (fun z => z.1 (hNE _ _ hn18).1)]; exact (lo_none (i := 4) hl)))
            · exact absurd h31 (by decide)
  exact loop4 17 0 (by omega) ls hl
theorem k_X3_countOfLandAhead {p : Program} {l : Launch} {e : Env} {R : Room} {s : State} {m : MethodId} {args : Array Value} {below : List Frame} {meth : Method} {c : Code} {H : Heap} {locs : List Loc} {cells slots : Nat} {Q : State → Prop} {cc : ByteArray} {pc nL : Nat} {ls : Array Slot} {rest : List Value} {own : String} {D : va_G} {cy : Nat → ClassId} {sa : Nat → Nat} {de B : Nat} {ad : Ad} {S : St} {n : Nat → Nat} {T : St} {k : Nat → Nat} {th : Int32} {X : Rl} {e9 : Nat} {b : Nat}  (hC : Cx p m c cc nL s args own D cy sa de B) (hS : va_S (AB B) s.heap H locs) (hG : GW D B ad (Vw cy de ad S n T k th X) H) (h0 : e9 < n 7 ∧ WF S n ∧ NE S ∧ timeP S e9 b)  {idx : Nat} (wl : Cond.methodLink own idx yX3_countOfLandAhead ∈ G0) (hR : 1 + 1 ≤ R.frames ∧ 8 + (5 + 11) + 21 ≤ R.locals) (hsz : ls.size = nL) (hst : (rest.map fun v => v.category).sum ≤ 8) (hdg : decode cc pc = .ok (.invokevirtual idx, 3)) (hcs : cells + 0 ≤ R.cells ∧ slots + 0 ≤ R.slots) (kk : W p l e R s m args below meth c H locs cells slots Q (F0 m (pc + 3) ls (.int (cnt (lanP S e9 b) 16) :: rest))) : W p l e R s m args below meth c H locs cells slots Q (F0 m pc ls (.ref (ad 11 e9 b) :: .ref (ad 8 e9 0) :: rest)) :=
  vp_callSi (va_Run.run (rV hC hS hG h0 (As := [.ref (ad 11 e9 b)]) (c_X3_countOfLandAhead l) ⟨rfl, rfl⟩ wl im_X3_countOfLandAhead sl_X3_X3_countOfLandAhead in_X3 cd_X3_countOfLandAhead (n := 1) (by decide +kernel) hR (recv hC hG (q := (RX3, TX3, 5)) rfl (V_event h0.1)) rfl hsz hst rfl hdg hcs)) (fun r hr => by subst hr; exact kk)
