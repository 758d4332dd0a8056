set_option maxHeartbeats 4000000 in
set_option maxRecDepth 100000 in
theorem c_X7_thrown (l : Launch) {D : va_G} {cy : Nat → ClassId} {sa : Nat → Nat} {de B : Nat} {ad : Ad} {S : St} {n : Nat → Nat} {T : St} {k : Nat → Nat} {th : Int32} {X : Rl}   : Met l yX7_thrown (Cond.code yX7_thrown cX7_thrown 1 (Option.some Jvm.ClassFile.FieldType.int) :: G0) ({ frames := 0, cells := 0, slots := 0, locals := 0 } : Room) (va_Pc [.ref (ad 13 0 0)] (PW D cy sa de B ad (Vw cy de ad S n T k th X) (True))) (vp_Si (fun r => r = th)) 0 0 (fun _ => False) := by
  refine E_met (own := RX7) rfl rfl (Nat.le_of_ble_eq_true rfl) ?_
  intro p e s m below meth c hC hr hlk hnm hG h0 ls hl
  have hx := hC.x
  have hb := hC.b
  have hS : va_S (AB B) s.heap s.heap [] := va_S.rf
  have hl : lo ls 1 [some (.ref (ad 13 0 0))] := lo_of hl
  refine o_aload_n hx hb dX7_thrown_0 hl rfl ?_
  refine g_get hC hG us_X7 rfl 25 (by decide) fl_X7_76 V_model rfl dX7_thrown_1 ?_
  exact R_i hC hr hlk rfl (rfl) dX7_thrown_4
theorem k_X7_thrown {p : Program} {l : Launch} {e : Env} {R : Room} {s : State} {m : MethodId} {args : Array Value} {below : List Frame} {meth : Method} {c : Code} {H : Heap} {locs : List Loc} {cells slots : Nat} {Q : State → Prop} {cc : ByteArray} {pc nL : Nat} {ls : Array Slot} {rest : List Value} {own : String} {D : va_G} {cy : Nat → ClassId} {sa : Nat → Nat} {de B : Nat} {ad : Ad} {S : St} {n : Nat → Nat} {T : St} {k : Nat → Nat} {th : Int32} {X : Rl}   (hC : Cx p m c cc nL s args own D cy sa de B) (hS : va_S (AB B) s.heap H locs) (hG : GW D B ad (Vw cy de ad S n T k th X) H) (h0 : True)  {idx : Nat} (wl : Cond.methodLink own idx yX7_thrown ∈ G0) (hR : 0 + 1 ≤ R.frames ∧ 8 + (1 + 11) + 0 ≤ R.locals) (hsz : ls.size = nL) (hst : (rest.map fun v => v.category).sum ≤ 8) (hdg : decode cc pc = .ok (.invokevirtual idx, 3)) (hcs : cells + 0 ≤ R.cells ∧ slots + 0 ≤ R.slots) (kk : W p l e R s m args below meth c H locs cells slots Q (F0 m (pc + 3) ls (.int th :: rest))) : W p l e R s m args below meth c H locs cells slots Q (F0 m pc ls (.ref (ad 13 0 0) :: rest)) :=
  vp_callSi (va_Run.run (rV hC hS hG h0 (As := []) (c_X7_thrown l) ⟨rfl, rfl⟩ wl im_X7_thrown sl_X7_X7_thrown in_X7 cd_X7_thrown (n := 0) (by decide +kernel) hR (recv hC hG (q := (RX7, TX7, 26)) rfl V_model) rfl hsz hst rfl hdg hcs)) (fun r hr => by subst hr; exact kk)
set_option maxHeartbeats 4000000 in
set_option maxRecDepth 100000 in
theorem c_X7_isThrown (l : Launch) {D : va_G} {cy : Nat → ClassId} {sa : Nat → Nat} {de B : Nat} {ad : Ad} {S : St} {n : Nat → Nat} {T : St} {k : Nat → Nat} {th : Int32} {X : Rl} {g w : Int32}  : Met l yX7_isThrown (Cond.code yX7_isThrown cX7_isThrown 3 (Option.some Jvm.ClassFile.FieldType.boolean) :: G0) ({ frames := 0, cells := 0, slots := 0, locals := 0 } : Room) (va_Pc [.ref (ad 13 0 0), .int g, .int w] (PW D cy sa de B ad (Vw cy de ad S n T k th X) (g = 0 ∨ g = 1))) (oI B (fun r H => (g = 1 ∧ r = 1 ∧ GW D B ad (Vw cy de ad S n T k w X) H) ∨ (g = 0 ∧ r = 0 ∧ GW D B ad (Vw cy de ad S n T k 0 X) H))) 0 0 (AB B) := by
  by_cases hcz : g = 0
  · skip
    subst hcz
    refine E_met (own := RX7) rfl rfl (Nat.le_of_ble_eq_true rfl) ?_
    intro p e s m below meth c hC hr hlk hnm hG h0 ls hl
    have hx := hC.x
    have hb := hC.b
    have hS : va_S (AB B) s.heap s.heap [] := va_S.rf
    have hl : lo ls 3 [some (.ref (ad 13 0 0)), some (.int 0), some (.int w)] := lo_of hl
    refine o_aload_n hx hb dX7_isThrown_0 hl rfl ?_
    refine o_iload_n hx hb dX7_isThrown_1 hl rfl ?_
    refine lv_if_eq (tgt := 9) hx hb dX7_isThrown_2 (by decide) (fun h2 => ?_) (fun h2 => ?_)
    · skip
      refine lv_iconst (v := 0) hx hb dX7_isThrown_9 (by decide) ?_
      refine g_put hC hG hS us_X7 tyX7_ok nmX7 rfl 25 (by decide) fl_X7_76 rfl V_model rfl rfl (Nat.le_of_ble_eq_true rfl) P_thrown dX7_isThrown_10 (fun H locs hG hS => ?_)
      refine o_iload_n hx hb dX7_isThrown_13 hl rfl ?_
      exact R_I hC hS hr hlk rfl (by first | exact Or.inl ⟨rfl, rfl, hG⟩ | exact Or.inr ⟨rfl, rfl, hG⟩) (Nat.le_of_ble_eq_true rfl) (Nat.le_of_ble_eq_true rfl) dX7_isThrown_14
    · exact absurd h2 (by decide)
  · skip
    by_cases hco : g = 1
    · skip
      subst hco
      refine E_met (own := RX7) rfl rfl (Nat.le_of_ble_eq_true rfl) ?_
      intro p e s m below meth c hC hr hlk hnm hG h0 ls hl
      have hx := hC.x
      have hb := hC.b
      have hS : va_S (AB B) s.heap s.heap [] := va_S.rf
      have hl : lo ls 3 [some (.ref (ad 13 0 0)), some (.int 1), some (.int w)] := lo_of hl
      refine o_aload_n hx hb dX7_isThrown_0 hl rfl ?_
      refine o_iload_n hx hb dX7_isThrown_1 hl rfl ?_
      refine lv_if_eq (tgt := 9) hx hb dX7_isThrown_2 (by decide) (fun h2 => ?_) (fun h2 => ?_)
      · exact absurd h2 (by decide)
      · skip
        refine o_iload_n hx hb dX7_isThrown_5 hl rfl ?_
        refine lv_goto (tgt := 10) hx hb dX7_isThrown_6 (by decide) ?_
        refine g_put hC hG hS us_X7 tyX7_ok nmX7 rfl 25 (by decide) fl_X7_76 rfl V_model rfl rfl (Nat.le_of_ble_eq_true rfl) P_thrown dX7_isThrown_10 (fun H locs hG hS => ?_)
        refine o_iload_n hx hb dX7_isThrown_13 hl rfl ?_
        exact R_I hC hS hr hlk rfl (by first | exact Or.inl ⟨rfl, rfl, hG⟩ | exact Or.inr ⟨rfl, rfl, hG⟩) (Nat.le_of_ble_eq_true rfl) (Nat.le_of_ble_eq_true rfl) dX7_isThrown_14
    · skip
      refine E_met (own := RX7) rfl rfl (Nat.le_of_ble_eq_true rfl) ?_
      intro p e s m below meth c hC hr hlk hnm hG h0
      exact (h0.elim hcz hco).elim
theorem k_X7_isThrown {p : Program} {l : Launch} {e : Env} {R : Room} {s : State} {m : MethodId} {args : Array Value} {below : List Frame} {meth : Method} {c : Code} {H : Heap} {locs : List Loc} {cells slots : Nat} {Q : State → Prop} {cc : ByteArray} {pc nL : Nat} {ls : Array Slot} {rest : List Value} {own : String} {D : va_G} {cy : Nat → ClassId} {sa : Nat → Nat} {de B : Nat} {ad : Ad} {S : St} {n : Nat → Nat} {T : St} {k : Nat → Nat} {th : Int32} {X : Rl} {g w : Int32}  (hC : Cx p m c cc nL s args own D cy sa de B) (hS : va_S (AB B) s.heap H locs) (hG : GW D B ad (Vw cy de ad S n T k th X) H) (h0 : g = 0 ∨ g = 1)  {idx : Nat} (wl : Cond.methodLink own idx yX7_isThrown ∈ G0) (hR : 0 + 1 ≤ R.frames ∧ 8 + (3 + 11) + 0 ≤ R.locals) (hsz : ls.size = nL) (hst : (rest.map fun v => v.category).sum ≤ 8) (hdg : decode cc pc = .ok (.invokevirtual idx, 3)) (hcs : cells + 0 ≤ R.cells ∧ slots + 0 ≤ R.slots) (k0 : (g = 1) → ∀ (H1 : Heap) (locs1 : List Loc), GW D B ad (Vw cy de ad S n T k w X) H1 → va_S (AB B) s.heap H1 locs1 → W p l e R s m args below meth c H1 locs1 cells slots Q (F0 m (pc + 3) ls (.int 1 :: rest))) (k1 : (g = 0) → ∀ (H1 : Heap) (locs1 : List Loc), GW D B ad (Vw cy de ad S n T k 0 X) H1 → va_S (AB B) s.heap H1 locs1 → W p l e R s m args below meth c H1 locs1 cells slots Q (F0 m (pc + 3) ls (.int 0 :: rest))) : W p l e R s m args below meth c H locs cells slots Q (F0 m pc ls (.int w :: .int g :: .ref (ad 13 0 0) :: rest)) :=
  va_calli (rV hC hS hG h0 (As := [.int g, .int w]) (c_X7_isThrown l) ⟨rfl, rfl⟩ wl im_X7_isThrown sl_X7_X7_isThrown in_X7 cd_X7_isThrown (n := 2) (by decide +kernel) hR (recv hC hG (q := (RX7, TX7, 26)) rfl V_model) rfl hsz hst rfl hdg hcs) hS (fun _ _ h => h) (fun _ h => h) (fun r u t H1 locs1 ht _ hr hB _ _ hS1 => by
      subst hr
      have hB9 := hB; try dsimp only at hB9
      rw [ht] at hB9
      rcases hB9 with ⟨q0, rfl, hG1⟩ | ⟨q0, rfl, hG1⟩
      · exact k0 q0 _ _ hG1 hS1
      · exact k1 q0 _ _ hG1 hS1)
set_option maxHeartbeats 4000000 in
set_option maxRecDepth 100000 in
theorem c_X7_isIn (l : Launch) {D : va_G} {cy : Nat → ClassId} {sa : Nat → Nat} {de B : Nat} {ad : Ad} {S : St} {n : Nat → Nat} {T : St} {k : Nat → Nat} {th : Int32} {X : Rl} {x a b : Int32}  : Met l yX7_isIn (Cond.code yX7_isIn cX7_isIn 3 (Option.some Jvm.ClassFile.FieldType.boolean) :: G0) ({ frames := 0, cells := 0, slots := 0, locals := 0 } : Room) (va_Pc [.int x, .int a, .int b] (PW D cy sa de B ad (Vw cy de ad S n T k th X) (True))) (vp_Si (fun r => (r = 1 ∧ (a ≤ x ∧ x ≤ b)) ∨ (r = 0 ∧ ¬ (a ≤ x ∧ x ≤ b)))) 0 0 (fun _ => False) := by
  refine E_met (own := RX7) rfl rfl (Nat.le_of_ble_eq_true rfl) ?_
  intro p e s m below meth c hC hr hlk hnm hG h0 ls hl
  have hx := hC.x
  have hb := hC.b
  have hS : va_S (AB B) s.heap s.heap [] := va_S.rf
  have hl : lo ls 3 [some (.int x), some (.int a), some (.int b)] := lo_of hl
  refine o_iload_n hx hb dX7_isIn_0 hl rfl ?_
  refine o_iload_n hx hb dX7_isIn_1 hl rfl ?_
  refine lv_icmp_lt (tgt := 14) hx hb dX7_isIn_2 (by decide) (fun h2 => ?_) (fun h2 => ?_)
  · skip
    refine lv_iconst (v := 0) hx hb dX7_isIn_14 (by decide) ?_
    exact R_i hC hr hlk rfl (by first | exact Or.inl ⟨rfl, Int32.not_lt.mp h2, Int32.not_lt.mp h7⟩ | exact Or.inr ⟨rfl, fun z => absurd h2 (Int32.not_lt.mpr z.1)⟩ | exact Or.inr ⟨rfl, fun z => absurd h7 (Int32.not_lt.mpr z.2)⟩) dX7_isIn_15
  · skip
    refine o_iload_n hx hb dX7_isIn_5 hl rfl ?_
    refine o_iload_n hx hb dX7_isIn_6 hl rfl ?_
    refine lv_icmp_gt (tgt := 14) hx hb dX7_isIn_7 (by decide) (fun h7 => ?_) (fun h7 => ?_)
    · skip
      refine lv_iconst (v := 0) hx hb dX7_isIn_14 (by decide) ?_
      exact R_i hC hr hlk rfl (by first | exact Or.inl ⟨rfl, Int32.not_lt.mp h2, Int32.not_lt.mp h7⟩ | exact Or.inr ⟨rfl, fun z => absurd h2 (Int32.not_lt.mpr z.1)⟩ | exact Or.inr ⟨rfl, fun z => absurd h7 (Int32.not_lt.mpr z.2)⟩) dX7_isIn_15
    · skip
      refine lv_iconst (v := 1) hx hb dX7_isIn_10 (by decide) ?_
      refine lv_goto (tgt := 15) hx hb dX7_isIn_11 (by decide) ?_
      exact R_i hC hr hlk rfl (by first | exact Or.inl ⟨rfl, Int32.not_lt.mp h2, Int32.not_lt.mp h7⟩ | exact Or.inr ⟨rfl, fun z => absurd h2 (Int32.not_lt.mpr z.1)⟩ | exact Or.inr ⟨rfl, fun z => absurd h7 (Int32.not_lt.mpr z.2)⟩) dX7_isIn_15
theorem k_X7_isIn {p : Program} {l : Launch} {e : Env} {R : Room} {s : State} {m : MethodId} {args : Array Value} {below : List Frame} {meth : Method} {c : Code} {H : Heap} {locs : List Loc} {cells slots : Nat} {Q : State → Prop} {cc : ByteArray} {pc nL : Nat} {ls : Array Slot} {rest : List Value} {own : String} {D : va_G} {cy : Nat → ClassId} {sa : Nat → Nat} {de B : Nat} {ad : Ad} {S : St} {n : Nat → Nat} {T : St} {k : Nat → Nat} {th : Int32} {X : Rl} {x a b : Int32}  (hC : Cx p m c cc nL s args own D cy sa de B) (hS : va_S (AB B) s.heap H locs) (hG : GW D B ad (Vw cy de ad S n T k th X) H) (h0 : True)  {idx : Nat} (wl : Cond.methodLink own idx yX7_isIn ∈ G0) (hR : 0 + 1 ≤ R.frames ∧ 8 + (3 + 11) + 0 ≤ R.locals) (hsz : ls.size = nL) (hst : (rest.map fun v => v.category).sum ≤ 8) (hdg : decode cc pc = .ok (.invokestatic idx, 3)) (hcs : cells + 0 ≤ R.cells ∧ slots + 0 ≤ R.slots) (kt : (a ≤ x ∧ x ≤ b) → W p l e R s m args below meth c H locs cells slots Q (F0 m (pc + 3) ls (.int 1 :: rest))) (kf : ¬ (a ≤ x ∧ x ≤ b) → W p l e R s m args below meth c H locs cells slots Q (F0 m (pc + 3) ls (.int 0 :: rest))) : W p l e R s m args below meth c H locs cells slots Q (F0 m pc ls (.int b :: .int a :: .int x :: rest)) :=
  vp_callSi (va_Run.run (rS hC hS hG h0 (As := [.int x, .int a, .int b]) (c_X7_isIn l) ⟨rfl, rfl⟩ wl sm_X7_isIn in_X7 cd_X7_isIn (n := 3) (by decide +kernel) hR rfl hsz hst rfl hdg hcs)) (fun r hr => by rcases hr with ⟨rfl, hp⟩ | ⟨rfl, hp⟩; exact kt hp; exact kf hp)
set_option maxHeartbeats 4000000 in
set_option maxRecDepth 100000 in
theorem c_X7_isNoAthlete (l : Launch) {D : va_G} {cy : Nat → ClassId} {sa : Nat → Nat} {de B : Nat} {ad : Ad} {S : St} {n : Nat → Nat} {T : St} {k : Nat → Nat} {th : Int32} {X : Rl} {x : Int32}  : Met l yX7_isNoAthlete (Cond.code yX7_isNoAthlete cX7_isNoAthlete 2 (Option.some Jvm.ClassFile.FieldType.boolean) :: G0) ({ frames := 1, cells := 0, slots := 0, locals := 22 } : Room) (va_Pc [.ref (ad 13 0 0), .int x] (PW D cy sa de B ad (Vw cy de ad S n T k th X) (MB k))) (vp_Si (fun r => (r = 1 ∧ (¬ ix x (k 0))) ∨ (r = 0 ∧ ¬ (¬ ix x (k 0))))) 0 0 (fun _ => False) := by
  refine E_met (own := RX7) rfl rfl (Nat.le_of_ble_eq_true rfl) ?_
  intro p e s m below meth c hC hr hlk hnm hG h0 ls hl
  have hx := hC.x
  have hb := hC.b
  have hS : va_S (AB B) s.heap s.heap [] := va_S.rf
  have hl : lo ls 2 [some (.ref (ad 13 0 0)), some (.int x)] := lo_of hl
  have hMB := h0
  have hMB9 := hMB
  obtain ⟨hM0, hM1, hM2, hM3⟩ := hMB9
  refine o_iload_n hx hb dX7_isNoAthlete_0 hl rfl ?_
  refine lv_iconst (v := 0) hx hb dX7_isNoAthlete_1 (by decide) ?_
  refine o_aload_n hx hb dX7_isNoAthlete_2 hl rfl ?_
  refine g_get hC hG us_X7 rfl 20 (by decide) fl_X7_80 V_model rfl dX7_isNoAthlete_3 ?_
  refine lv_iconst (v := 1) hx hb dX7_isNoAthlete_6 (by decide) ?_
  refine lv_isub hx hb dX7_isNoAthlete_7 ?_
  refine k_X7_isIn hC hS hG trivial ml_X7_83 ⟨Nat.le_of_ble_eq_true rfl, Nat.le_of_ble_eq_true rfl⟩ hl.1 (Nat.le_of_ble_eq_true rfl) dX7_isNoAthlete_8 ⟨Nat.le_of_ble_eq_true rfl, Nat.le_of_ble_eq_true rfl⟩ (fun h8 => ?_) (fun h8 => ?_)
  · skip
    refine lv_if_ne (tgt := 18) hx hb dX7_isNoAthlete_11 (by decide) (fun h11 => ?_) (fun h11 => ?_)
    · skip
      refine lv_iconst (v := 0) hx hb dX7_isNoAthlete_18 (by decide) ?_
      exact R_i hC hr hlk rfl (by first | exact Or.inl ⟨rfl, fun z => h8 ((isin_ix (by omega)).mpr z)⟩ | exact Or.inr ⟨rfl, fun z => z ((isin_ix (by omega)).mp h8)⟩) dX7_isNoAthlete_19
    · exact absurd h11 (by decide)
  · skip
    refine lv_if_ne (tgt := 18) hx hb dX7_isNoAthlete_11 (by decide) (fun h11 => ?_) (fun h11 => ?_)
    · exact absurd h11 (by decide)
    · skip
      refine lv_iconst (v := 1) hx hb dX7_isNoAthlete_14 (by decide) ?_
      refine lv_goto (tgt := 19) hx hb dX7_isNoAthlete_15 (by decide) ?_
      exact R_i hC hr hlk rfl (by first | exact Or.inl ⟨rfl, fun z => h8 ((isin_ix (by omega)).mpr z)⟩ | exact Or.inr ⟨rfl, fun z => z ((isin_ix (by omega)).mp h8)⟩) dX7_isNoAthlete_19
theorem k_X7_isNoAthlete {p : Program} {l : Launch} {e : Env} {R : Room} {s : State} {m : MethodId} {args : Array Value} {below : List Frame} {meth : Method} {c : Code} {H : Heap} {locs : List Loc} {cells slots : Nat} {Q : State → Prop} {cc : ByteArray} {pc nL : Nat} {ls : Array Slot} {rest : List Value} {own : String} {D : va_G} {cy : Nat → ClassId} {sa : Nat → Nat} {de B : Nat} {ad : Ad} {S : St} {n : Nat → Nat} {T : St} {k : Nat → Nat} {th : Int32} {X : Rl} {x : Int32}  (hC : Cx p m c cc nL s args own D cy sa de B) (hS : va_S (AB B) s.heap H locs) (hG : GW D B ad (Vw cy de ad S n T k th X) H) (h0 : MB k)  {idx : Nat} (wl : Cond.methodLink own idx yX7_isNoAthlete ∈ G0) (hR : 1 + 1 ≤ R.frames ∧ 8 + (2 + 11) + 22 ≤ R.locals) (hsz : ls.size = nL) (hst : (rest.map fun v => v.category).sum ≤ 8) (hdg : decode cc pc = .ok (.invokevirtual idx, 3)) (hcs : cells + 0 ≤ R.cells ∧ slots + 0 ≤ R.slots) (kt : (¬ ix x (k 0)) → W p l e R s m args below meth c H locs cells slots Q (F0 m (pc + 3) ls (.int 1 :: rest))) (kf : ¬ (¬ ix x (k 0)) → W p l e R s m args below meth c H locs cells slots Q (F0 m (pc + 3) ls (.int 0 :: rest))) : W p l e R s m args below meth c H locs cells slots Q (F0 m pc ls (.int x :: .ref (ad 13 0 0) :: rest)) :=
  vp_callSi (va_Run.run (rV hC hS hG h0 (As := [.int x]) (c_X7_isNoAthlete l) ⟨rfl, rfl⟩ wl im_X7_isNoAthlete sl_X7_X7_isNoAthlete in_X7 cd_X7_isNoAthlete (n := 1) (by decide +kernel) hR (recv hC hG (q := (RX7, TX7, 26)) rfl V_model) rfl hsz hst rfl hdg hcs)) (fun r hr => by rcases hr with ⟨rfl, hp⟩ | ⟨rfl, hp⟩; exact kt hp; exact kf hp)
set_option maxHeartbeats 4000000 in
set_option maxRecDepth 100000 in
theorem c_X7_isNoKind (l : Launch) {D : va_G} {cy : Nat → ClassId} {sa : Nat → Nat} {de B : Nat} {ad : Ad} {S : St} {n : Nat → Nat} {T : St} {k : Nat → Nat} {th : Int32} {X : Rl} {x : Int32}  : Met l yX7_isNoKind (Cond.code yX7_isNoKind cX7_isNoKind 2 (Option.some Jvm.ClassFile.FieldType.boolean) :: G0) ({ frames := 1, cells := 0, slots := 0, locals := 22 } : Room) (va_Pc [.ref (ad 13 0 0), .int x] (PW D cy sa de B ad (Vw cy de ad S n T k th X) (MB k))) (vp_Si (fun r => (r = 1 ∧ (¬ ix x (k 2))) ∨ (r = 0 ∧ ¬ (¬ ix x (k 2))))) 0 0 (fun _ => False) := by
  refine E_met (own := RX7) rfl rfl (Nat.le_of_ble_eq_true rfl) ?_
  intro p e s m below meth c hC hr hlk hnm hG h0 ls hl
  have hx := hC.x
  have hb := hC.b
  have hS : va_S (AB B) s.heap s.heap [] := va_S.rf
  have hl : lo ls 2 [some (.ref (ad 13 0 0)), some (.int x)] := lo_of hl
  have hMB := h0
  have hMB9 := hMB
  obtain ⟨hM0, hM1, hM2, hM3⟩ := hMB9
  refine o_iload_n hx hb dX7_isNoKind_0 hl rfl ?_
  refine lv_iconst (v := 0) hx hb dX7_isNoKind_1 (by decide) ?_
  refine o_aload_n hx hb dX7_isNoKind_2 hl rfl ?_
  refine g_get hC hG us_X7 rfl 22 (by decide) fl_X7_87 V_model rfl dX7_isNoKind_3 ?_
  refine lv_iconst (v := 1) hx hb dX7_isNoKind_6 (by decide) ?_
  refine lv_isub hx hb dX7_isNoKind_7 ?_
  refine k_X7_isIn hC hS hG trivial ml_X7_83 ⟨Nat.le_of_ble_eq_true rfl, Nat.le_of_ble_eq_true rfl⟩ hl.1 (Nat.le_of_ble_eq_true rfl) dX7_isNoKind_8 ⟨Nat.le_of_ble_eq_true rfl, Nat.le_of_ble_eq_true rfl⟩ (fun h8 => ?_) (fun h8 => ?_)
  · skip
    refine lv_if_ne (tgt := 18) hx hb dX7_isNoKind_11 (by decide) (fun h11 => ?_) (fun h11 => ?_)
    · skip
      refine lv_iconst (v := 0) hx hb dX7_isNoKind_18 (by decide) ?_
      exact R_i hC hr hlk rfl (by first | exact Or.inl ⟨rfl, fun z => h8 ((isin_ix (by omega)).mpr z)⟩ | exact Or.inr ⟨rfl, fun z => z ((isin_ix (by omega)).mp h8)⟩) dX7_isNoKind_19
    · exact absurd h11 (by decide)
  · skip
    refine lv_if_ne (tgt := 18) hx hb dX7_isNoKind_11 (by decide) (fun h11 => ?_) (fun h11 => ?_)
    · exact absurd h11 (by decide)
    · skip
      refine lv_iconst (v := 1) hx hb dX7_isNoKind_14 (by decide) ?_
      refine lv_goto (tgt := 19) hx hb dX7_isNoKind_15 (by decide) ?_
      exact R_i hC hr hlk rfl (by first | exact Or.inl ⟨rfl, fun z => h8 ((isin_ix (by omega)).mpr z)⟩ | exact Or.inr ⟨rfl, fun z => z ((isin_ix (by omega)).mp h8)⟩) dX7_isNoKind_19
theorem k_X7_isNoKind {p : Program} {l : Launch} {e : Env} {R : Room} {s : State} {m : MethodId} {args : Array Value} {below : List Frame} {meth : Method} {c : Code} {H : Heap} {locs : List Loc} {cells slots : Nat} {Q : State → Prop} {cc : ByteArray} {pc nL : Nat} {ls : Array Slot} {rest : List Value} {own : String} {D : va_G} {cy : Nat → ClassId} {sa : Nat → Nat} {de B : Nat} {ad : Ad} {S : St} {n : Nat → Nat} {T : St} {k : Nat → Nat} {th : Int32} {X : Rl} {x : Int32}  (hC : Cx p m c cc nL s args own D cy sa de B) (hS : va_S (AB B) s.heap H locs) (hG : GW D B ad (Vw cy de ad S n T k th X) H) (h0 : MB k)  {idx : Nat} (wl : Cond.methodLink own idx yX7_isNoKind ∈ G0) (hR : 1 + 1 ≤ R.frames ∧ 8 + (2 + 11) + 22 ≤ R.locals) (hsz : ls.size = nL) (hst : (rest.map fun v => v.category).sum ≤ 8) (hdg : decode cc pc = .ok (.invokevirtual idx, 3)) (hcs : cells + 0 ≤ R.cells ∧ slots + 0 ≤ R.slots) (kt : (¬ ix x (k 2)) → W p l e R s m args below meth c H locs cells slots Q (F0 m (pc + 3) ls (.int 1 :: rest))) (kf : ¬ (¬ ix x (k 2)) → W p l e R s m args below meth c H locs cells slots Q (F0 m (pc + 3) ls (.int 0 :: rest))) : W p l e R s m args below meth c H locs cells slots Q (F0 m pc ls (.int x :: .ref (ad 13 0 0) :: rest)) :=
  vp_callSi (va_Run.run (rV hC hS hG h0 (As := [.int x]) (c_X7_isNoKind l) ⟨rfl, rfl⟩ wl im_X7_isNoKind sl_X7_X7_isNoKind in_X7 cd_X7_isNoKind (n := 1) (by decide +kernel) hR (recv hC hG (q := (RX7, TX7, 26)) rfl V_model) rfl hsz hst rfl hdg hcs)) (fun r hr => by rcases hr with ⟨rfl, hp⟩ | ⟨rfl, hp⟩; exact kt hp; exact kf hp)
set_option maxHeartbeats 4000000 in
set_option maxRecDepth 100000 in
theorem c_X7_isNoEvent (l : Launch) {D : va_G} {cy : Nat → ClassId} {sa : Nat → Nat} {de B : Nat} {ad : Ad} {S : St} {n : Nat → Nat} {T : St} {k : Nat → Nat} {th : Int32} {X : Rl} {x : Int32}  : Met l yX7_isNoEvent (Cond.code yX7_isNoEvent cX7_isNoEvent 2 (Option.some Jvm.ClassFile.FieldType.boolean) :: G0) ({ frames := 1, cells := 0, slots := 0, locals := 22 } : Room) (va_Pc [.ref (ad 13 0 0), .int x] (PW D cy sa de B ad (Vw cy de ad S n T k th X) (MB k))) (vp_Si (fun r => (r = 1 ∧ (¬ ix x (k 3))) ∨ (r = 0 ∧ ¬ (¬ ix x (k 3))))) 0 0 (fun _ => False) := by
  refine E_met (own := RX7) rfl rfl (Nat.le_of_ble_eq_true rfl) ?_
  intro p e s m below meth c hC hr hlk hnm hG h0 ls hl
  have hx := hC.x
  have hb := hC.b
  have hS : va_S (AB B) s.heap s.heap [] := va_S.rf
  have hl : lo ls 2 [some (.ref (ad 13 0 0)), some (.int x)] := lo_of hl
  have hMB := h0
  have hMB9 := hMB
  obtain ⟨hM0, hM1, hM2, hM3⟩ := hMB9
  refine o_iload_n hx hb dX7_isNoEvent_0 hl rfl ?_
  refine lv_iconst (v := 0) hx hb dX7_isNoEvent_1 (by decide) ?_
  refine o_aload_n hx hb dX7_isNoEvent_2 hl rfl ?_
  refine g_get hC hG us_X7 rfl 23 (by decide) fl_X7_119 V_model rfl dX7_isNoEvent_3 ?_
  refine lv_iconst (v := 1) hx hb dX7_isNoEvent_6 (by decide) ?_
  refine lv_isub hx hb dX7_isNoEvent_7 ?_
  refine k_X7_isIn hC hS hG trivial ml_X7_83 ⟨Nat.le_of_ble_eq_true rfl, Nat.le_of_ble_eq_true rfl⟩ hl.1 (Nat.le_of_ble_eq_true rfl) dX7_isNoEvent_8 ⟨Nat.le_of_ble_eq_true rfl, Nat.le_of_ble_eq_true rfl⟩ (fun h8 => ?_) (fun h8 => ?_)
  · skip
    refine lv_if_ne (tgt := 18) hx hb dX7_isNoEvent_11 (by decide) (fun h11 => ?_) (fun h11 => ?_)
    · skip
      refine lv_iconst (v := 0) hx hb dX7_isNoEvent_18 (by decide) ?_
      exact R_i hC hr hlk rfl (by first | exact Or.inl ⟨rfl, fun z => h8 ((isin_ix (by omega)).mpr z)⟩ | exact Or.inr ⟨rfl, fun z => z ((isin_ix (by omega)).mp h8)⟩) dX7_isNoEvent_19
    · exact absurd h11 (by decide)
  · skip
    refine lv_if_ne (tgt := 18) hx hb dX7_isNoEvent_11 (by decide) (fun h11 => ?_) (fun h11 => ?_)
    · exact absurd h11 (by decide)
    · skip
      refine lv_iconst (v := 1) hx hb dX7_isNoEvent_14 (by decide) ?_
      refine lv_goto (tgt := 19) hx hb dX7_isNoEvent_15 (by decide) ?_
      exact R_i hC hr hlk rfl (by first | exact Or.inl ⟨rfl, fun z => h8 ((isin_ix (by omega)).mpr z)⟩ | exact Or.inr ⟨rfl, fun z => z ((isin_ix (by omega)).mp h8)⟩) dX7_isNoEvent_19
theorem k_X7_isNoEvent {p : Program} {l : Launch} {e : Env} {R : Room} {s : State} {m : MethodId} {args : Array Value} {below : List Frame} {meth : Method} {c : Code} {H : Heap} {locs : List Loc} {cells slots : Nat} {Q : State → Prop} {cc : ByteArray} {pc nL : Nat} {ls : Array Slot} {rest : List Value} {own : String} {D : va_G} {cy : Nat → ClassId} {sa : Nat → Nat} {de B : Nat} {ad : Ad} {S : St} {n : Nat → Nat} {T : St} {k : Nat → Nat} {th : Int32} {X : Rl} {x : Int32}  (hC : Cx p m c cc nL s args own D cy sa de B) (hS : va_S (AB B) s.heap H locs) (hG : GW D B ad (Vw cy de ad S n T k th X) H) (h0 : MB k)  {idx : Nat} (wl : Cond.methodLink own idx yX7_isNoEvent ∈ G0) (hR : 1 + 1 ≤ R.frames ∧ 8 + (2 + 11) + 22 ≤ R.locals) (hsz : ls.size = nL) (hst : (rest.map fun v => v.category).sum ≤ 8) (hdg : decode cc pc = .ok (.invokevirtual idx, 3)) (hcs : cells + 0 ≤ R.cells ∧ slots + 0 ≤ R.slots) (kt : (¬ ix x (k 3)) → W p l e R s m args below meth c H locs cells slots Q (F0 m (pc + 3) ls (.int 1 :: rest))) (kf : ¬ (¬ ix x (k 3)) → W p l e R s m args below meth c H locs cells slots Q (F0 m (pc + 3) ls (.int 0 :: rest))) : W p l e R s m args below meth c H locs cells slots Q (F0 m pc ls (.int x :: .ref (ad 13 0 0) :: rest)) :=
  vp_callSi (va_Run.run (rV hC hS hG h0 (As := [.int x]) (c_X7_isNoEvent l) ⟨rfl, rfl⟩ wl im_X7_isNoEvent sl_X7_X7_isNoEvent in_X7 cd_X7_isNoEvent (n := 1) (by decide +kernel) hR (recv hC hG (q := (RX7, TX7, 26)) rfl V_model) rfl hsz hst rfl hdg hcs)) (fun r hr => by rcases hr with ⟨rfl, hp⟩ | ⟨rfl, hp⟩; exact kt hp; exact kf hp)
set_option maxHeartbeats 4000000 in
set_option maxRecDepth 100000 in
theorem c_X7_isNoLand (l : Launch) {D : va_G} {cy : Nat → ClassId} {sa : Nat → Nat} {de B : Nat} {ad : Ad} {S : St} {n : Nat → Nat} {T : St} {k : Nat → Nat} {th : Int32} {X : Rl} {x : Int32}  : Met l yX7_isNoLand (Cond.code yX7_isNoLand cX7_isNoLand 1 (Option.some Jvm.ClassFile.FieldType.boolean) :: G0) ({ frames := 1, cells := 0, slots := 0, locals := 22 } : Room) (va_Pc [.int x] (PW D cy sa de B ad (Vw cy de ad S n T k th X) (True))) (vp_Si (fun r => (r = 1 ∧ (¬ ix x (6))) ∨ (r = 0 ∧ ¬ (¬ ix x (6))))) 0 0 (fun _ => False) := by
  refine E_met (own := RX7) rfl rfl (Nat.le_of_ble_eq_true rfl) ?_
  intro p e s m below meth c hC hr hlk hnm hG h0 ls hl
  have hx := hC.x
  have hb := hC.b
  have hS : va_S (AB B) s.heap s.heap [] := va_S.rf
  have hl : lo ls 1 [some (.int x)] := lo_of hl
  refine o_iload_n hx hb dX7_isNoLand_0 hl rfl ?_
  refine lv_iconst (v := 0) hx hb dX7_isNoLand_1 (by decide) ?_
  refine lv_iconst (v := 5) hx hb dX7_isNoLand_2 (by decide) ?_
  refine k_X7_isIn hC hS hG trivial ml_X7_83 ⟨Nat.le_of_ble_eq_true rfl, Nat.le_of_ble_eq_true rfl⟩ hl.1 (Nat.le_of_ble_eq_true rfl) dX7_isNoLand_3 ⟨Nat.le_of_ble_eq_true rfl, Nat.le_of_ble_eq_true rfl⟩ (fun h3 => ?_) (fun h3 => ?_)
  · skip
    refine lv_if_ne (tgt := 13) hx hb dX7_isNoLand_6 (by decide) (fun h6 => ?_) (fun h6 => ?_)
    · skip
      refine lv_iconst (v := 0) hx hb dX7_isNoLand_13 (by decide) ?_
      exact R_i hC hr hlk rfl (by first | exact Or.inl ⟨rfl, fun z => h3 ((isin_5).mpr z)⟩ | exact Or.inr ⟨rfl, fun z => z ((isin_5).mp h3)⟩) dX7_isNoLand_14
    · exact absurd h6 (by decide)
  · skip
    refine lv_if_ne (tgt := 13) hx hb dX7_isNoLand_6 (by decide) (fun h6 => ?_) (fun h6 => ?_)
    · exact absurd h6 (by decide)
    · skip
      refine lv_iconst (v := 1) hx hb dX7_isNoLand_9 (by decide) ?_
      refine lv_goto (tgt := 14) hx hb dX7_isNoLand_10 (by decide) ?_
      exact R_i hC hr hlk rfl (by first | exact Or.inl ⟨rfl, fun z => h3 ((isin_5).mpr z)⟩ | exact Or.inr ⟨rfl, fun z => z ((isin_5).mp h3)⟩) dX7_isNoLand_14
theorem k_X7_isNoLand {p : Program} {l : Launch} {e : Env} {R : Room} {s : State} {m : MethodId} {args : Array Value} {below : List Frame} {meth : Method} {c : Code} {H : Heap} {locs : List Loc} {cells slots : Nat} {Q : State → Prop} {cc : ByteArray} {pc nL : Nat} {ls : Array Slot} {rest : List Value} {own : String} {D : va_G} {cy : Nat → ClassId} {sa : Nat → Nat} {de B : Nat} {ad : Ad} {S : St} {n : Nat → Nat} {T : St} {k : Nat → Nat} {th : Int32} {X : Rl} {x : Int32}  (hC : Cx p m c cc nL s args own D cy sa de B) (hS : va_S (AB B) s.heap H locs) (hG : GW D B ad (Vw cy de ad S n T k th X) H) (h0 : True)  {idx : Nat} (wl : Cond.methodLink own idx yX7_isNoLand ∈ G0) (hR : 1 + 1 ≤ R.frames ∧ 8 + (1 + 11) + 22 ≤ R.locals) (hsz : ls.size = nL) (hst : (rest.map fun v => v.category).sum ≤ 8) (hdg : decode cc pc = .ok (.invokestatic idx, 3)) (hcs : cells + 0 ≤ R.cells ∧ slots + 0 ≤ R.slots) (kt : (¬ ix x (6)) → W p l e R s m args below meth c H locs cells slots Q (F0 m (pc + 3) ls (.int 1 :: rest))) (kf : ¬ (¬ ix x (6)) → W p l e R s m args below meth c H locs cells slots Q (F0 m (pc + 3) ls (.int 0 :: rest))) : W p l e R s m args below meth c H locs cells slots Q (F0 m pc ls (.int x :: rest)) :=
  vp_callSi (va_Run.run (rS hC hS hG h0 (As := [.int x]) (c_X7_isNoLand l) ⟨rfl, rfl⟩ wl sm_X7_isNoLand in_X7 cd_X7_isNoLand (n := 1) (by decide +kernel) hR rfl hsz hst rfl hdg hcs)) (fun r hr => by rcases hr with ⟨rfl, hp⟩ | ⟨rfl, hp⟩; exact kt hp; exact kf hp)
set_option maxHeartbeats 4000000 in
set_option maxRecDepth 100000 in
theorem c_X7_isMeasure (l : Launch) {D : va_G} {cy : Nat → ClassId} {sa : Nat → Nat} {de B : Nat} {ad : Ad} {S : St} {n : Nat → Nat} {T : St} {k : Nat → Nat} {th : Int32} {X : Rl} {x : Int32}  : Met l yX7_isMeasure (Cond.code yX7_isMeasure cX7_isMeasure 1 (Option.some Jvm.ClassFile.FieldType.boolean) :: G0) ({ frames := 1, cells := 0, slots := 0, locals := 22 } : Room) (va_Pc [.int x] (PW D cy sa de B ad (Vw cy de ad S n T k th X) (True))) (vp_Si (fun r => (r = 1 ∧ (ix x 5)) ∨ (r = 0 ∧ ¬ (ix x 5)))) 0 0 (fun _ => False) := by
  refine E_met (own := RX7) rfl rfl (Nat.le_of_ble_eq_true rfl) ?_
  intro p e s m below meth c hC hr hlk hnm hG h0 ls hl
  have hx := hC.x
  have hb := hC.b
  have hS : va_S (AB B) s.heap s.heap [] := va_S.rf
  have hl : lo ls 1 [some (.int x)] := lo_of hl
  refine o_iload_n hx hb dX7_isMeasure_0 hl rfl ?_
  refine lv_iconst (v := 0) hx hb dX7_isMeasure_1 (by decide) ?_
  refine lv_iconst (v := 4) hx hb dX7_isMeasure_2 (by decide) ?_
  refine k_X7_isIn hC hS hG trivial ml_X7_83 ⟨Nat.le_of_ble_eq_true rfl, Nat.le_of_ble_eq_true rfl⟩ hl.1 (Nat.le_of_ble_eq_true rfl) dX7_isMeasure_3 ⟨Nat.le_of_ble_eq_true rfl, Nat.le_of_ble_eq_true rfl⟩ (fun h3 => ?_) (fun h3 => ?_)
  · skip
    exact R_i hC hr hlk rfl (by first | exact Or.inl ⟨rfl, isin_4.mp h3⟩ | exact Or.inr ⟨rfl, fun z => h3 (isin_4.mpr z)⟩) dX7_isMeasure_6
  · skip
    exact R_i hC hr hlk rfl (by first | exact Or.inl ⟨rfl, isin_4.mp h3⟩ | exact Or.inr ⟨rfl, fun z => h3 (isin_4.mpr z)⟩) dX7_isMeasure_6
theorem k_X7_isMeasure {p : Program} {l : Launch} {e : Env} {R : Room} {s : State} {m : MethodId} {args : Array Value} {below : List Frame} {meth : Method} {c : Code} {H : Heap} {locs : List Loc} {cells slots : Nat} {Q : State → Prop} {cc : ByteArray} {pc nL : Nat} {ls : Array Slot} {rest : List Value} {own : String} {D : va_G} {cy : Nat → ClassId} {sa : Nat → Nat} {de B : Nat} {ad : Ad} {S : St} {n : Nat → Nat} {T : St} {k : Nat → Nat} {th : Int32} {X : Rl} {x : Int32}  (hC : Cx p m c cc nL s args own D cy sa de B) (hS : va_S (AB B) s.heap H locs) (hG : GW D B ad (Vw cy de ad S n T k th X) H) (h0 : True)  {idx : Nat} (wl : Cond.methodLink own idx yX7_isMeasure ∈ G0) (hR : 1 + 1 ≤ R.frames ∧ 8 + (1 + 11) + 22 ≤ R.locals) (hsz : ls.size = nL) (hst : (rest.map fun v => v.category).sum ≤ 8) (hdg : decode cc pc = .ok (.invokestatic idx, 3)) (hcs : cells + 0 ≤ R.cells ∧ slots + 0 ≤ R.slots) (kt : (ix x 5) → W p l e R s m args below meth c H locs cells slots Q (F0 m (pc + 3) ls (.int 1 :: rest))) (kf : ¬ (ix x 5) → W p l e R s m args below meth c H locs cells slots Q (F0 m (pc + 3) ls (.int 0 :: rest))) : W p l e R s m args below meth c H locs cells slots Q (F0 m pc ls (.int x :: rest)) :=
  vp_callSi (va_Run.run (rS hC hS hG h0 (As := [.int x]) (c_X7_isMeasure l) ⟨rfl, rfl⟩ wl sm_X7_isMeasure in_X7 cd_X7_isMeasure (n := 1) (by decide +kernel) hR rfl hsz hst rfl hdg hcs)) (fun r hr => by rcases hr with ⟨rfl, hp⟩ | ⟨rfl, hp⟩; exact kt hp; exact kf hp)
set_option maxHeartbeats 4000000 in
set_option maxRecDepth 100000 in
theorem c_X7_isNoPair (l : Launch) {D : va_G} {cy : Nat → ClassId} {sa : Nat → Nat} {de B : Nat} {ad : Ad} {S : St} {n : Nat → Nat} {T : St} {k : Nat → Nat} {th : Int32} {X : Rl} {x y : Int32}  : Met l yX7_isNoPair (Cond.code yX7_isNoPair cX7_isNoPair 3 (Option.some Jvm.ClassFile.FieldType.boolean) :: G0) ({ frames := 2, cells := 0, slots := 0, locals := 43 } : Room) (va_Pc [.ref (ad 13 0 0), .int x, .int y] (PW D cy sa de B ad (Vw cy de ad S n T k th X) (MB k))) (vp_Si (fun r => (r = 1 ∧ (¬ (ix x (k 3) ∧ ix y (k 0)))) ∨ (r = 0 ∧ ¬ (¬ (ix x (k 3) ∧ ix y (k 0)))))) 0 0 (fun _ => False) := by
  refine E_met (own := RX7) rfl rfl (Nat.le_of_ble_eq_true rfl) ?_
  intro p e s m below meth c hC hr hlk hnm hG h0 ls hl
  have hx := hC.x
  have hb := hC.b
  have hS : va_S (AB B) s.heap s.heap [] := va_S.rf
  have hl : lo ls 3 [some (.ref (ad 13 0 0)), some (.int x), some (.int y)] := lo_of hl
  have hMB := h0
  have hMB9 := hMB
  obtain ⟨hM0, hM1, hM2, hM3⟩ := hMB9
  refine o_aload_n hx hb dX7_isNoPair_0 hl rfl ?_
  refine o_iload_n hx hb dX7_isNoPair_1 hl rfl ?_
  refine k_X7_isNoEvent hC hS hG hMB ml_X7_139 ⟨Nat.le_of_ble_eq_true rfl, Nat.le_of_ble_eq_true rfl⟩ hl.1 (Nat.le_of_ble_eq_true rfl) dX7_isNoPair_2 ⟨Nat.le_of_ble_eq_true rfl, Nat.le_of_ble_eq_true rfl⟩ (fun h2 => ?_) (fun h2 => ?_)
  · skip
    refine lv_if_ne (tgt := 16) hx hb dX7_isNoPair_5 (by decide) (fun h5 => ?_) (fun h5 => ?_)
    · skip
      refine lv_iconst (v := 1) hx hb dX7_isNoPair_16 (by decide) ?_
      refine lv_goto (tgt := 21) hx hb dX7_isNoPair_17 (by decide) ?_
      exact R_i hC hr hlk rfl (by first | exact Or.inl ⟨rfl, fun z => h2 z.1⟩ | exact Or.inl ⟨rfl, fun z => h10 z.2⟩ | exact Or.inr ⟨rfl, fun z => z ⟨Classical.not_not.mp h2, Classical.not_not.mp h10⟩⟩) dX7_isNoPair_21
    · exact absurd h5 (by decide)
  · skip
    refine lv_if_ne (tgt := 16) hx hb dX7_isNoPair_5 (by decide) (fun h5 => ?_) (fun h5 => ?_)
    · exact absurd h5 (by decide)
    · skip
      refine o_aload_n hx hb dX7_isNoPair_8 hl rfl ?_
      refine o_iload_n hx hb dX7_isNoPair_9 hl rfl ?_
      refine k_X7_isNoAthlete hC hS hG hMB ml_X7_98 ⟨Nat.le_of_ble_eq_true rfl, Nat.le_of_ble_eq_true rfl⟩ hl.1 (Nat.le_of_ble_eq_true rfl) dX7_isNoPair_10 ⟨Nat.le_of_ble_eq_true rfl, Nat.le_of_ble_eq_true rfl⟩ (fun h10 => ?_) (fun h10 => ?_)
      · skip
        refine lv_if_eq (tgt := 20) hx hb dX7_isNoPair_13 (by decide) (fun h13 => ?_) (fun h13 => ?_)
        · exact absurd h13 (by decide)
        · skip
          refine lv_iconst (v := 1) hx hb dX7_isNoPair_16 (by decide) ?_
          refine lv_goto (tgt := 21) hx hb dX7_isNoPair_17 (by decide) ?_
          exact R_i hC hr hlk rfl (by first | exact Or.inl ⟨rfl, fun z => h2 z.1⟩ | exact Or.inl ⟨rfl, fun z => h10 z.2⟩ | exact Or.inr ⟨rfl, fun z => z ⟨Classical.not_not.mp h2, Classical.not_not.mp h10⟩⟩) dX7_isNoPair_21
      · skip
        refine lv_if_eq (tgt := 20) hx hb dX7_isNoPair_13 (by decide) (fun h13 => ?_) (fun h13 => ?_)
        · skip
          refine lv_iconst (v := 0) hx hb dX7_isNoPair_20 (by decide) ?_
          exact R_i hC hr hlk rfl (by first | exact Or.inl ⟨rfl, fun z => h2 z.1⟩ | exact Or.inl ⟨rfl, fun z => h10 z.2⟩ | exact Or.inr ⟨rfl, fun z => z ⟨Classical.not_not.mp h2, Classical.not_not.mp h10⟩⟩) dX7_isNoPair_21
        · exact absurd h13 (by decide)
theorem k_X7_isNoPair {p : Program} {l : Launch} {e : Env} {R : Room} {s : State} {m : MethodId} {args : Array Value} {below : List Frame} {meth : Method} {c : Code} {H : Heap} {locs : List Loc} {cells slots : Nat} {Q : State → Prop} {cc : ByteArray} {pc nL : Nat} {ls : Array Slot} {rest : List Value} {own : String} {D : va_G} {cy : Nat → ClassId} {sa : Nat → Nat} {de B : Nat} {ad : Ad} {S : St} {n : Nat → Nat} {T : St} {k : Nat → Nat} {th : Int32} {X : Rl} {x y : Int32}  (hC : Cx p m c cc nL s args own D cy sa de B) (hS : va_S (AB B) s.heap H locs) (hG : GW D B ad (Vw cy de ad S n T k th X) H) (h0 : MB k)  {idx : Nat} (wl : Cond.methodLink own idx yX7_isNoPair ∈ G0) (hR : 2 + 1 ≤ R.frames ∧ 8 + (3 + 11) + 43 ≤ R.locals) (hsz : ls.size = nL) (hst : (rest.map fun v => v.category).sum ≤ 8) (hdg : decode cc pc = .ok (.invokevirtual idx, 3)) (hcs : cells + 0 ≤ R.cells ∧ slots + 0 ≤ R.slots) (kt : (¬ (ix x (k 3) ∧ ix y (k 0))) → W p l e R s m args below meth c H locs cells slots Q (F0 m (pc + 3) ls (.int 1 :: rest))) (kf : ¬ (¬ (ix x (k 3) ∧ ix y (k 0))) → W p l e R s m args below meth c H locs cells slots Q (F0 m (pc + 3) ls (.int 0 :: rest))) : W p l e R s m args below meth c H locs cells slots Q (F0 m pc ls (.int y :: .int x :: .ref (ad 13 0 0) :: rest)) :=
  vp_callSi (va_Run.run (rV hC hS hG h0 (As := [.int x, .int y]) (c_X7_isNoPair l) ⟨rfl, rfl⟩ wl im_X7_isNoPair sl_X7_X7_isNoPair in_X7 cd_X7_isNoPair (n := 2) (by decide +kernel) hR (recv hC hG (q := (RX7, TX7, 26)) rfl V_model) rfl hsz hst rfl hdg hcs)) (fun r hr => by rcases hr with ⟨rfl, hp⟩ | ⟨rfl, hp⟩; exact kt hp; exact kf hp)
set_option maxHeartbeats 4000000 in
set_option maxRecDepth 100000 in
theorem c_X7_shownOf (l : Launch) {D : va_G} {cy : Nat → ClassId} {sa : Nat → Nat} {de B : Nat} {ad : Ad} {S : St} {n : Nat → Nat} {T : St} {k : Nat → Nat} {th : Int32} {X : Rl} {a y : Nat}  : Met l yX7_shownOf (Cond.code yX7_shownOf cX7_shownOf 3 (Option.some Jvm.ClassFile.FieldType.int) :: G0) ({ frames := 0, cells := 0, slots := 0, locals := 0 } : Room) (va_Pc [.ref (ad 13 0 0), .int (nI a), .int (nI y)] (PW D cy sa de B ad (Vw cy de ad S n T k th X) (a < 16 ∧ y < 5))) (vp_Si (fun r => r = shv T a y)) 0 0 (fun _ => False) := by
  refine E_met (own := RX7) rfl rfl (Nat.le_of_ble_eq_true rfl) ?_
  intro p e s m below meth c hC hr hlk hnm hG h0 ls hl
  have hx := hC.x
  have hb := hC.b
  have hS : va_S (AB B) s.heap s.heap [] := va_S.rf
  have hl : lo ls 3 [some (.ref (ad 13 0 0)), some (.int (nI a)), some (.int (nI y))] := lo_of hl
  obtain ⟨ha, hy⟩ := h0
  refine o_aload_n hx hb dX7_shownOf_0 hl rfl ?_
  refine g_get hC hG us_X7 rfl 2 (by decide) fl_X7_18 V_model rfl dX7_shownOf_1 ?_
  refine o_iload_n hx hb dX7_shownOf_4 hl rfl ?_
  refine g_aald hC hG 7 rfl rfl V_o2 _ rfl (by omega) (by omega) dX7_shownOf_5 ?_
  refine o_iload_n hx hb dX7_shownOf_6 hl rfl ?_
  refine g_iald hC hG (V_r2 (by omega)) _ rfl (by omega) (by omega) dX7_shownOf_7 ?_
  refine lv_iconst (v := (-1)) hx hb dX7_shownOf_8 (by decide) ?_
  refine lv_icmp_ne (tgt := 23) hx hb dX7_shownOf_9 (by decide) (fun h9 => ?_) (fun h9 => ?_)
  · skip
    refine o_aload_n hx hb dX7_shownOf_23 hl rfl ?_
    refine g_get hC hG us_X7 rfl 2 (by decide) fl_X7_18 V_model rfl dX7_shownOf_24 ?_
    refine o_iload_n hx hb dX7_shownOf_27 hl rfl ?_
    refine g_aald hC hG 7 rfl rfl V_o2 _ rfl (by omega) (by omega) dX7_shownOf_28 ?_
    refine o_iload_n hx hb dX7_shownOf_29 hl rfl ?_
    refine g_iald hC hG (V_r2 (by omega)) _ rfl (by omega) (by omega) dX7_shownOf_30 ?_
    exact R_i hC hr hlk rfl (by first | exact (if_pos h9).symm | exact (if_neg h9).symm) dX7_shownOf_31
  · skip
    refine o_aload_n hx hb dX7_shownOf_12 hl rfl ?_
    refine g_get hC hG us_X7 rfl 1 (by decide) fl_X7_15 V_model rfl dX7_shownOf_13 ?_
    refine o_iload_n hx hb dX7_shownOf_16 hl rfl ?_
    refine g_aald hC hG 7 rfl rfl V_o1 _ rfl (by omega) (by omega) dX7_shownOf_17 ?_
    refine o_iload_n hx hb dX7_shownOf_18 hl rfl ?_
    refine g_iald hC hG (V_r1 (by omega)) _ rfl (by omega) (by omega) dX7_shownOf_19 ?_
    refine lv_goto (tgt := 31) hx hb dX7_shownOf_20 (by decide) ?_
    exact R_i hC hr hlk rfl (by first | exact (if_pos h9).symm | exact (if_neg h9).symm) dX7_shownOf_31
theorem k_X7_shownOf {p : Program} {l : Launch} {e : Env} {R : Room} {s : State} {m : MethodId} {args : Array Value} {below : List Frame} {meth : Method} {c : Code} {H : Heap} {locs : List Loc} {cells slots : Nat} {Q : State → Prop} {cc : ByteArray} {pc nL : Nat} {ls : Array Slot} {rest : List Value} {own : String} {D : va_G} {cy : Nat → ClassId} {sa : Nat → Nat} {de B : Nat} {ad : Ad} {S : St} {n : Nat → Nat} {T : St} {k : Nat → Nat} {th : Int32} {X : Rl} {a y : Nat}  (hC : Cx p m c cc nL s args own D cy sa de B) (hS : va_S (AB B) s.heap H locs) (hG : GW D B ad (Vw cy de ad S n T k th X) H) (h0 : a < 16 ∧ y < 5)  {idx : Nat} (wl : Cond.methodLink own idx yX7_shownOf ∈ G0) (hR : 0 + 1 ≤ R.frames ∧ 8 + (3 + 11) + 0 ≤ R.locals) (hsz : ls.size = nL) (hst : (rest.map fun v => v.category).sum ≤ 8) (hdg : decode cc pc = .ok (.invokevirtual idx, 3)) (hcs : cells + 0 ≤ R.cells ∧ slots + 0 ≤ R.slots) (kk : W p l e R s m args below meth c H locs cells slots Q (F0 m (pc + 3) ls (.int (shv T a y) :: rest))) : W p l e R s m args below meth c H locs cells slots Q (F0 m pc ls (.int (nI y) :: .int (nI a) :: .ref (ad 13 0 0) :: rest)) :=
  vp_callSi (va_Run.run (rV hC hS hG h0 (As := [.int (nI a), .int (nI y)]) (c_X7_shownOf l) ⟨rfl, rfl⟩ wl im_X7_shownOf sl_X7_X7_shownOf in_X7 cd_X7_shownOf (n := 2) (by decide +kernel) hR (recv hC hG (q := (RX7, TX7, 26)) rfl V_model) rfl hsz hst rfl hdg hcs)) (fun r hr => by subst hr; exact kk)
set_option maxHeartbeats 4000000 in
set_option maxRecDepth 100000 in
theorem c_X7_hasClass (l : Launch) {D : va_G} {cy : Nat → ClassId} {sa : Nat → Nat} {de B : Nat} {ad : Ad} {S : St} {n : Nat → Nat} {T : St} {k : Nat → Nat} {th : Int32} {X : Rl} {a : Nat}  : Met l yX7_hasClass (Cond.code yX7_hasClass cX7_hasClass 2 (Option.some Jvm.ClassFile.FieldType.boolean) :: G0) ({ frames := 0, cells := 0, slots := 0, locals := 0 } : Room) (va_Pc [.ref (ad 13 0 0), .int (nI a)] (PW D cy sa de B ad (Vw cy de ad S n T k th X) (a < 16))) (vp_Si (fun r => (r = 1 ∧ (mayP T a)) ∨ (r = 0 ∧ ¬ (mayP T a)))) 0 0 (fun _ => False) := by
  refine E_met (own := RX7) rfl rfl (Nat.le_of_ble_eq_true rfl) ?_
  intro p e s m below meth c hC hr hlk hnm hG h0 ls hl
  have hx := hC.x
  have hb := hC.b
  have hS : va_S (AB B) s.heap s.heap [] := va_S.rf
  have hl : lo ls 2 [some (.ref (ad 13 0 0)), some (.int (nI a))] := lo_of hl
  refine o_aload_n hx hb dX7_hasClass_0 hl rfl ?_
  refine g_get hC hG us_X7 rfl 5 (by decide) fl_X7_28 V_model rfl dX7_hasClass_1 ?_
  refine o_iload_n hx hb dX7_hasClass_4 hl rfl ?_
  refine g_cald hC hG V_m5 _ rfl (by omega) (by omega) dX7_hasClass_5 ?_
  refine lv_bipush (v := 110) hx hb dX7_hasClass_6 (by decide) ?_
  refine lv_icmp_eq (tgt := 33) hx hb dX7_hasClass_8 (by decide) (fun h8 => ?_) (fun h8 => ?_)
  · skip
    refine lv_iconst (v := 1) hx hb dX7_hasClass_33 (by decide) ?_
    refine lv_goto (tgt := 38) hx hb dX7_hasClass_34 (by decide) ?_
    exact R_i hC hr hlk rfl (by first | exact Or.inl ⟨rfl, Or.inl (by assumption)⟩ | exact Or.inl ⟨rfl, Or.inr (Or.inl (by assumption))⟩ | exact Or.inl ⟨rfl, Or.inr (Or.inr ((by assumption)))⟩ | exact Or.inr ⟨rfl, fun h => by rcases h with h | h | h <;> contradiction⟩) dX7_hasClass_38
  · skip
    refine o_aload_n hx hb dX7_hasClass_11 hl rfl ?_
    refine g_get hC hG us_X7 rfl 5 (by decide) fl_X7_28 V_model rfl dX7_hasClass_12 ?_
    refine o_iload_n hx hb dX7_hasClass_15 hl rfl ?_
    refine g_cald hC hG V_m5 _ rfl (by omega) (by omega) dX7_hasClass_16 ?_
    refine lv_bipush (v := 99) hx hb dX7_hasClass_17 (by decide) ?_
    refine lv_icmp_eq (tgt := 33) hx hb dX7_hasClass_19 (by decide) (fun h19 => ?_) (fun h19 => ?_)
    · skip
      refine lv_iconst (v := 1) hx hb dX7_hasClass_33 (by decide) ?_
      refine lv_goto (tgt := 38) hx hb dX7_hasClass_34 (by decide) ?_
      exact R_i hC hr hlk rfl (by first | exact Or.inl ⟨rfl, Or.inl (by assumption)⟩ | exact Or.inl ⟨rfl, Or.inr (Or.inl (by assumption))⟩ | exact Or.inl ⟨rfl, Or.inr (Or.inr ((by assumption)))⟩ | exact Or.inr ⟨rfl, fun h => by rcases h with h | h | h <;> contradiction⟩) dX7_hasClass_38
    · skip
      refine o_aload_n hx hb dX7_hasClass_22 hl rfl ?_
      refine g_get hC hG us_X7 rfl 5 (by decide) fl_X7_28 V_model rfl dX7_hasClass_23 ?_
      refine o_iload_n hx hb dX7_hasClass_26 hl rfl ?_
      refine g_cald hC hG V_m5 _ rfl (by omega) (by omega) dX7_hasClass_27 ?_
      refine lv_bipush (v := 114) hx hb dX7_hasClass_28 (by decide) ?_
      refine lv_icmp_ne (tgt := 37) hx hb dX7_hasClass_30 (by decide) (fun h30 => ?_) (fun h30 => ?_)
      · skip
        refine lv_iconst (v := 0) hx hb dX7_hasClass_37 (by decide) ?_
        exact R_i hC hr hlk rfl (by first | exact Or.inl ⟨rfl, Or.inl (by assumption)⟩ | exact Or.inl ⟨rfl, Or.inr (Or.inl (by assumption))⟩ | exact Or.inl ⟨rfl, Or.inr (Or.inr ((by assumption)))⟩ | exact Or.inr ⟨rfl, fun h => by rcases h with h | h | h <;> contradiction⟩) dX7_hasClass_38
      · skip
        refine lv_iconst (v := 1) hx hb dX7_hasClass_33 (by decide) ?_
        refine lv_goto (tgt := 38) hx hb dX7_hasClass_34 (by decide) ?_
        exact R_i hC hr hlk rfl (by first | exact Or.inl ⟨rfl, Or.inl (by assumption)⟩ | exact Or.inl ⟨rfl, Or.inr (Or.inl (by assumption))⟩ | exact Or.inl ⟨rfl, Or.inr (Or.inr ((by assumption)))⟩ | exact Or.inr ⟨rfl, fun h => by rcases h with h | h | h <;> contradiction⟩) dX7_hasClass_38
theorem k_X7_hasClass {p : Program} {l : Launch} {e : Env} {R : Room} {s : State} {m : MethodId} {args : Array Value} {below : List Frame} {meth : Method} {c : Code} {H : Heap} {locs : List Loc} {cells slots : Nat} {Q : State → Prop} {cc : ByteArray} {pc nL : Nat} {ls : Array Slot} {rest : List Value} {own : String} {D : va_G} {cy : Nat → ClassId} {sa : Nat → Nat} {de B : Nat} {ad : Ad} {S : St} {n : Nat → Nat} {T : St} {k : Nat → Nat} {th : Int32} {X : Rl} {a : Nat}  (hC : Cx p m c cc nL s args own D cy sa de B) (hS : va_S (AB B) s.heap H locs) (hG : GW D B ad (Vw cy de ad S n T k th X) H) (h0 : a < 16)  {idx : Nat} (wl : Cond.methodLink own idx yX7_hasClass ∈ G0) (hR : 0 + 1 ≤ R.frames ∧ 8 + (2 + 11) + 0 ≤ R.locals) (hsz : ls.size = nL) (hst : (rest.map fun v => v.category).sum ≤ 8) (hdg : decode cc pc = .ok (.invokevirtual idx, 3)) (hcs : cells + 0 ≤ R.cells ∧ slots + 0 ≤ R.slots) (kt : (mayP T a) → W p l e R s m args below meth c H locs cells slots Q (F0 m (pc + 3) ls (.int 1 :: rest))) (kf : ¬ (mayP T a) → W p l e R s m args below meth c H locs cells slots Q (F0 m (pc + 3) ls (.int 0 :: rest))) : W p l e R s m args below meth c H locs cells slots Q (F0 m pc ls (.int (nI a) :: .ref (ad 13 0 0) :: rest)) :=
  vp_callSi (va_Run.run (rV hC hS hG h0 (As := [.int (nI a)]) (c_X7_hasClass l) ⟨rfl, rfl⟩ wl im_X7_hasClass sl_X7_X7_hasClass in_X7 cd_X7_hasClass (n := 1) (by decide +kernel) hR (recv hC hG (q := (RX7, TX7, 26)) rfl V_model) rfl hsz hst rfl hdg hcs)) (fun r hr => by rcases hr with ⟨rfl, hp⟩ | ⟨rfl, hp⟩; exact kt hp; exact kf hp)
set_option maxHeartbeats 4000000 in
set_option maxRecDepth 100000 in
theorem c_X7_isStanding (l : Launch) {D : va_G} {cy : Nat → ClassId} {sa : Nat → Nat} {de B : Nat} {ad : Ad} {S : St} {n : Nat → Nat} {T : St} {k : Nat → Nat} {th : Int32} {X : Rl} {e9 a : Nat}  : Met l yX7_isStanding (Cond.code yX7_isStanding cX7_isStanding 3 (Option.some Jvm.ClassFile.FieldType.boolean) :: G0) ({ frames := 0, cells := 0, slots := 0, locals := 0 } : Room) (va_Pc [.ref (ad 13 0 0), .int (nI e9), .int (nI a)] (PW D cy sa de B ad (Vw cy de ad S n T k th X) (e9 < 8 ∧ a < 16))) (vp_Si (fun r => (r = 1 ∧ (stP T e9 a)) ∨ (r = 0 ∧ ¬ (stP T e9 a)))) 0 0 (fun _ => False) := by
  refine E_met (own := RX7) rfl rfl (Nat.le_of_ble_eq_true rfl) ?_
  intro p e s m below meth c hC hr hlk hnm hG h0 ls hl
  have hx := hC.x
  have hb := hC.b
  have hS : va_S (AB B) s.heap s.heap [] := va_S.rf
  have hl : lo ls 3 [some (.ref (ad 13 0 0)), some (.int (nI e9)), some (.int (nI a))] := lo_of hl
  obtain ⟨he, ha⟩ := h0
  refine o_aload_n hx hb dX7_isStanding_0 hl rfl ?_
  refine g_get hC hG us_X7 rfl 17 (by decide) fl_X7_65 V_model rfl dX7_isStanding_1 ?_
  refine o_iload_n hx hb dX7_isStanding_4 hl rfl ?_
  refine g_aald hC hG 7 rfl rfl V_o17 _ rfl (by omega) (by omega) dX7_isStanding_5 ?_
  refine o_iload_n hx hb dX7_isStanding_6 hl rfl ?_
  refine g_iald hC hG (V_r17 (by omega)) _ rfl (by omega) (by omega) dX7_isStanding_7 ?_
  refine lv_iconst (v := (-1)) hx hb dX7_isStanding_8 (by decide) ?_
  refine lv_icmp_eq (tgt := 27) hx hb dX7_isStanding_9 (by decide) (fun h9 => ?_) (fun h9 => ?_)
  · skip
    refine lv_iconst (v := 0) hx hb dX7_isStanding_27 (by decide) ?_
    exact R_i hC hr hlk rfl (by first | exact Or.inl ⟨rfl, h9, h20⟩ | exact Or.inr ⟨rfl, fun z => z.1 h9⟩ | exact Or.inr ⟨rfl, fun z => h20 z.2⟩) dX7_isStanding_28
  · skip
    refine o_aload_n hx hb dX7_isStanding_12 hl rfl ?_
    refine g_get hC hG us_X7 rfl 18 (by decide) fl_X7_70 V_model rfl dX7_isStanding_13 ?_
    refine o_iload_n hx hb dX7_isStanding_16 hl rfl ?_
    refine g_aald hC hG 8 rfl rfl V_o18 _ rfl (by omega) (by omega) dX7_isStanding_17 ?_
    refine o_iload_n hx hb dX7_isStanding_18 hl rfl ?_
    refine g_zald hC hG (V_r18 (by omega)) _ rfl (by omega) (by omega) dX7_isStanding_19 ?_
    refine lv_if_ne (tgt := 27) hx hb dX7_isStanding_20 (by decide) (fun h20 => ?_) (fun h20 => ?_)
    · skip
      refine lv_iconst (v := 0) hx hb dX7_isStanding_27 (by decide) ?_
      exact R_i hC hr hlk rfl (by first | exact Or.inl ⟨rfl, h9, h20⟩ | exact Or.inr ⟨rfl, fun z => z.1 h9⟩ | exact Or.inr ⟨rfl, fun z => h20 z.2⟩) dX7_isStanding_28
    · skip
      refine lv_iconst (v := 1) hx hb dX7_isStanding_23 (by decide) ?_
      refine lv_goto (tgt := 28) hx hb dX7_isStanding_24 (by decide) ?_
      exact R_i hC hr hlk rfl (by first | exact Or.inl ⟨rfl, h9, h20⟩ | exact Or.inr ⟨rfl, fun z => z.1 h9⟩ | exact Or.inr ⟨rfl, fun z => h20 z.2⟩) dX7_isStanding_28
theorem k_X7_isStanding {p : Program} {l : Launch} {e : Env} {R : Room} {s : State} {m : MethodId} {args : Array Value} {below : List Frame} {meth : Method} {c : Code} {H : Heap} {locs : List Loc} {cells slots : Nat} {Q : State → Prop} {cc : ByteArray} {pc nL : Nat} {ls : Array Slot} {rest : List Value} {own : String} {D : va_G} {cy : Nat → ClassId} {sa : Nat → Nat} {de B : Nat} {ad : Ad} {S : St} {n : Nat → Nat} {T : St} {k : Nat → Nat} {th : Int32} {X : Rl} {e9 a : Nat}  (hC : Cx p m c cc nL s args own D cy sa de B) (hS : va_S (AB B) s.heap H locs) (hG : GW D B ad (Vw cy de ad S n T k th X) H) (h0 : e9 < 8 ∧ a < 16)  {idx : Nat} (wl : Cond.methodLink own idx yX7_isStanding ∈ G0) (hR : 0 + 1 ≤ R.frames ∧ 8 + (3 + 11) + 0 ≤ R.locals) (hsz : ls.size = nL) (hst : (rest.map fun v => v.category).sum ≤ 8) (hdg : decode cc pc = .ok (.invokevirtual idx, 3)) (hcs : cells + 0 ≤ R.cells ∧ slots + 0 ≤ R.slots) (kt : (stP T e9 a) → W p l e R s m args below meth c H locs cells slots Q (F0 m (pc + 3) ls (.int 1 :: rest))) (kf : ¬ (stP T e9 a) → W p l e R s m args below meth c H locs cells slots Q (F0 m (pc + 3) ls (.int 0 :: rest))) : W p l e R s m args below meth c H locs cells slots Q (F0 m pc ls (.int (nI a) :: .int (nI e9) :: .ref (ad 13 0 0) :: rest)) :=
  vp_callSi (va_Run.run (rV hC hS hG h0 (As := [.int (nI e9), .int (nI a)]) (c_X7_isStanding l) ⟨rfl, rfl⟩ wl im_X7_isStanding sl_X7_X7_isStanding in_X7 cd_X7_isStanding (n := 2) (by decide +kernel) hR (recv hC hG (q := (RX7, TX7, 26)) rfl V_model) rfl hsz hst rfl hdg hcs)) (fun r hr => by rcases hr with ⟨rfl, hp⟩ | ⟨rfl, hp⟩; exact kt hp; exact kf hp)
set_option maxHeartbeats 4000000 in
set_option maxRecDepth 100000 in
theorem c_X7_isFor (l : Launch) {D : va_G} {cy : Nat → ClassId} {sa : Nat → Nat} {de B : Nat} {ad : Ad} {S : St} {n : Nat → Nat} {T : St} {k : Nat → Nat} {th : Int32} {X : Rl} {e9 : Nat} {x : Int32}  : Met l yX7_isFor (Cond.code yX7_isFor cX7_isFor 3 (Option.some Jvm.ClassFile.FieldType.boolean) :: G0) ({ frames := 0, cells := 0, slots := 0, locals := 0 } : Room) (va_Pc [.ref (ad 13 0 0), .int (nI e9), .int x] (PW D cy sa de B ad (Vw cy de ad S n T k th X) (e9 < 8 ∧ (x = -1 ∨ ∃ q, q < 8 ∧ x = nI q)))) (vp_Si (fun r => (r = 1 ∧ (forP T e9 x)) ∨ (r = 0 ∧ ¬ (forP T e9 x)))) 0 0 (fun _ => False) := by
  refine E_met (own := RX7) rfl rfl (Nat.le_of_ble_eq_true rfl) ?_
  intro p e s m below meth c hC hr hlk hnm hG h0 ls hl
  have hx := hC.x
  have hb := hC.b
  have hS : va_S (AB B) s.heap s.heap [] := va_S.rf
  have hl : lo ls 3 [some (.ref (ad 13 0 0)), some (.int (nI e9)), some (.int x)] := lo_of hl
  obtain ⟨he, hx9⟩ := h0
  rcases hx9 with rfl | ⟨q, hq, rfl⟩
  · skip
    skip
    refine o_iload_n hx hb dX7_isFor_0 hl rfl ?_
    refine lv_if_lt (tgt := 22) hx hb dX7_isFor_1 (by decide) (fun h1 => ?_) (fun h1 => ?_)
    · skip
      refine lv_iconst (v := 0) hx hb dX7_isFor_22 (by decide) ?_
      exact R_i hC hr hlk rfl (by first | exact absurd (by decide) h1 | exact Or.inr ⟨rfl, fun z => nix_neg (by decide) h1 z.1⟩ | exact Or.inl ⟨rfl, ix_nI hq, (bit_shr (by omega)).mp h15⟩ | exact Or.inr ⟨rfl, fun z => h15 ((bit_shr (by omega)).mpr z.2)⟩ | exact absurd h1 (nI_pos (by omega))) dX7_isFor_23
    · skip
      refine o_aload_n hx hb dX7_isFor_4 hl rfl ?_
      refine g_get hC hG us_X7 rfl 13 (by decide) fl_X7_53 V_model rfl dX7_isFor_5 ?_
      refine o_iload_n hx hb dX7_isFor_8 hl rfl ?_
      refine g_iald hC hG V_m13 _ rfl (by omega) (by omega) dX7_isFor_9 ?_
      refine o_iload_n hx hb dX7_isFor_10 hl rfl ?_
      refine lv_ishr hx hb dX7_isFor_11 ?_
      refine lv_iconst (v := 1) hx hb dX7_isFor_12 (by decide) ?_
      refine lv_iand hx hb dX7_isFor_13 ?_
      refine lv_iconst (v := 1) hx hb dX7_isFor_14 (by decide) ?_
      refine lv_icmp_ne (tgt := 22) hx hb dX7_isFor_15 (by decide) (fun h15 => ?_) (fun h15 => ?_)
      · skip
        refine lv_iconst (v := 0) hx hb dX7_isFor_22 (by decide) ?_
        exact R_i hC hr hlk rfl (by first | exact absurd (by decide) h1 | exact Or.inr ⟨rfl, fun z => nix_neg (by decide) h1 z.1⟩ | exact Or.inl ⟨rfl, ix_nI hq, (bit_shr (by omega)).mp h15⟩ | exact Or.inr ⟨rfl, fun z => h15 ((bit_shr (by omega)).mpr z.2)⟩ | exact absurd h1 (nI_pos (by omega))) dX7_isFor_23
      · skip
        refine lv_iconst (v := 1) hx hb dX7_isFor_18 (by decide) ?_
        refine lv_goto (tgt := 23) hx hb dX7_isFor_19 (by decide) ?_
        exact R_i hC hr hlk rfl (by first | exact absurd (by decide) h1 | exact Or.inr ⟨rfl, fun z => nix_neg (by decide) h1 z.1⟩ | exact Or.inl ⟨rfl, ix_nI hq, (bit_shr (by omega)).mp h15⟩ | exact Or.inr ⟨rfl, fun z => h15 ((bit_shr (by omega)).mpr z.2)⟩ | exact absurd h1 (nI_pos (by omega))) dX7_isFor_23
  · skip
    skip
    refine o_iload_n hx hb dX7_isFor_0 hl rfl ?_
    refine lv_if_lt (tgt := 22) hx hb dX7_isFor_1 (by decide) (fun h1 => ?_) (fun h1 => ?_)
    · skip
      refine lv_iconst (v := 0) hx hb dX7_isFor_22 (by decide) ?_
      exact R_i hC hr hlk rfl (by first | exact absurd (by decide) h1 | exact Or.inr ⟨rfl, fun z => nix_neg (by decide) h1 z.1⟩ | exact Or.inl ⟨rfl, ix_nI hq, (bit_shr (by omega)).mp h15⟩ | exact Or.inr ⟨rfl, fun z => h15 ((bit_shr (by omega)).mpr z.2)⟩ | exact absurd h1 (nI_pos (by omega))) dX7_isFor_23
    · skip
      refine o_aload_n hx hb dX7_isFor_4 hl rfl ?_
      refine g_get hC hG us_X7 rfl 13 (by decide) fl_X7_53 V_model rfl dX7_isFor_5 ?_
      refine o_iload_n hx hb dX7_isFor_8 hl rfl ?_
      refine g_iald hC hG V_m13 _ rfl (by omega) (by omega) dX7_isFor_9 ?_
      refine o_iload_n hx hb dX7_isFor_10 hl rfl ?_
      refine lv_ishr hx hb dX7_isFor_11 ?_
      refine lv_iconst (v := 1) hx hb dX7_isFor_12 (by decide) ?_
      refine lv_iand hx hb dX7_isFor_13 ?_
      refine lv_iconst (v := 1) hx hb dX7_isFor_14 (by decide) ?_
      refine lv_icmp_ne (tgt := 22) hx hb dX7_isFor_15 (by decide) (fun h15 => ?_) (fun h15 => ?_)
      · skip
        refine lv_iconst (v := 0) hx hb dX7_isFor_22 (by decide) ?_
        exact R_i hC hr hlk rfl (by first | exact absurd (by decide) h1 | exact Or.inr ⟨rfl, fun z => nix_neg (by decide) h1 z.1⟩ | exact Or.inl ⟨rfl, ix_nI hq, (bit_shr (by omega)).mp h15⟩ | exact Or.inr ⟨rfl, fun z => h15 ((bit_shr (by omega)).mpr z.2)⟩ | exact absurd h1 (nI_pos (by omega))) dX7_isFor_23
      · skip
        refine lv_iconst (v := 1) hx hb dX7_isFor_18 (by decide) ?_
        refine lv_goto (tgt := 23) hx hb dX7_isFor_19 (by decide) ?_
        exact R_i hC hr hlk rfl (by first | exact absurd (by decide) h1 | exact Or.inr ⟨rfl, fun z => nix_neg (by decide) h1 z.1⟩ | exact Or.inl ⟨rfl, ix_nI hq, (bit_shr (by omega)).mp h15⟩ | exact Or.inr ⟨rfl, fun z => h15 ((bit_shr (by omega)).mpr z.2)⟩ | exact absurd h1 (nI_pos (by omega))) dX7_isFor_23
theorem k_X7_isFor {p : Program} {l : Launch} {e : Env} {R : Room} {s : State} {m : MethodId} {args : Array Value} {below : List Frame} {meth : Method} {c : Code} {H : Heap} {locs : List Loc} {cells slots : Nat} {Q : State → Prop} {cc : ByteArray} {pc nL : Nat} {ls : Array Slot} {rest : List Value} {own : String} {D : va_G} {cy : Nat → ClassId} {sa : Nat → Nat} {de B : Nat} {ad : Ad} {S : St} {n : Nat → Nat} {T : St} {k : Nat → Nat} {th : Int32} {X : Rl} {e9 : Nat} {x : Int32}  (hC : Cx p m c cc nL s args own D cy sa de B) (hS : va_S (AB B) s.heap H locs) (hG : GW D B ad (Vw cy de ad S n T k th X) H) (h0 : e9 < 8 ∧ (x = -1 ∨ ∃ q, q < 8 ∧ x = nI q))  {idx : Nat} (wl : Cond.methodLink own idx yX7_isFor ∈ G0) (hR : 0 + 1 ≤ R.frames ∧ 8 + (3 + 11) + 0 ≤ R.locals) (hsz : ls.size = nL) (hst : (rest.map fun v => v.category).sum ≤ 8) (hdg : decode cc pc = .ok (.invokevirtual idx, 3)) (hcs : cells + 0 ≤ R.cells ∧ slots + 0 ≤ R.slots) (kt : (forP T e9 x) → W p l e R s m args below meth c H locs cells slots Q (F0 m (pc + 3) ls (.int 1 :: rest))) (kf : ¬ (forP T e9 x) → W p l e R s m args below meth c H locs cells slots Q (F0 m (pc + 3) ls (.int 0 :: rest))) : W p l e R s m args below meth c H locs cells slots Q (F0 m pc ls (.int x :: .int (nI e9) :: .ref (ad 13 0 0) :: rest)) :=
  vp_callSi (va_Run.run (rV hC hS hG h0 (As := [.int (nI e9), .int x]) (c_X7_isFor l) ⟨rfl, rfl⟩ wl im_X7_isFor sl_X7_X7_isFor in_X7 cd_X7_isFor (n := 2) (by decide +kernel) hR (recv hC hG (q := (RX7, TX7, 26)) rfl V_model) rfl hsz hst rfl hdg hcs)) (fun r hr => by rcases hr with ⟨rfl, hp⟩ | ⟨rfl, hp⟩; exact kt hp; exact kf hp)
