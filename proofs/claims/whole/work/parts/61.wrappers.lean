/-! THE LAW'S WRAPPERS. Each: 0 and the value in out, or the code of its exception. -/
set_option maxHeartbeats 4000000 in
set_option maxRecDepth 100000 in
theorem c_L_athlete (l : Launch) (hfl : l.stackTraces = false) {D : va_G} {cy : Nat → ClassId} {sa : Nat → Nat} {de B : Nat} {ad : Ad} {S : St} {n : Nat → Nat} {T : St} {k : Nat → Nat} {th : Int32} {f : Nat → Int64} {g9 : Nat → UInt64} {x : Int32} : Met l yL_athlete (Cond.codeWith yL_athlete cL_athlete 4 (Option.some Jvm.ClassFile.FieldType.int) [((0 : Nat), (9 : Nat), (12 : Nat), (13 : Nat)), ((0 : Nat), (9 : Nat), (15 : Nat), (15 : Nat))] :: G0) ({ frames := 9, cells := 9, slots := 56, locals := 212 } : Room) (va_Pc [.ref (ad 0 0 0), .int x, .ref (ad 20 0 0)] (PW D cy sa de B ad (Vw cy de ad S n T k th (Xl cy f g9)) (Inv S n))) (oI B (fun r H => (r = 0 ∧ cd_athlete n x = 0 ∧ ∃ ad9, Ag ad ad9 ∧ GW D B ad9 (Vw cy de ad9 (atS S (n 0) x) (nUp n 0) T k th (Xl cy (vp_updL f 0 (Int32.toInt64 (nI (n 0)))) g9)) H) ∨ (∃ t9 : Nat, t9 < 4 ∧ ¬ t9 = 0 ∧ cd_athlete n x = t9 ∧ r = nI t9 ∧ GW D B ad (Vw cy de ad S n T k th (Xl cy f g9)) H))) 9 56 (AB B) := by
  refine E_metW (own := RL) rfl rfl (Nat.le_of_ble_eq_true rfl) ?_
  intro p e s m below meth c hC hr hlk htab hG h0 ls hl
  have hx := hC.x
  have hb := hC.b
  have hS : va_S (AB B) s.heap s.heap [] := va_S.rf
  have hl : lo ls 4 [some (.ref (ad 0 0 0)), some (.int x), some (.ref (ad 20 0 0)), none] := lo_of hl
  refine o_aload_n hx hb dL_athlete_0 hl rfl ?_
  refine lv_iconst (v := 0) hx hb dL_athlete_1 (by decide) ?_
  refine o_aload_n hx hb dL_athlete_2 hl rfl ?_
  refine o_iload_n hx hb dL_athlete_3 hl rfl ?_
  refine vx_calli (xV hC hS hG ⟨h0, rfl⟩ (As := [.int x]) (c_X6_athlete l hfl) ⟨rfl, rfl⟩ ml_L_7 im_X6_athlete sl_X6_X6_athlete in_X6 cd_X6_athlete (n := 1) (by decide +kernel) ⟨(Nat.le_of_ble_eq_true rfl), (Nat.le_of_ble_eq_true rfl)⟩ (recv hC hG (q := (RX6, TX6, 6)) rfl V_games) rfl hl.1 (Nat.le_of_ble_eq_true rfl) rfl dL_athlete_4 ⟨(Nat.le_of_ble_eq_true rfl), (Nat.le_of_ble_eq_true rfl)⟩) hS (fun _ _ h => h) (fun _ h => h) (fun _ _ h => h) (fun E ce q9 u t H1 locs1 ht hv hp hB hz hq hS1 hce hcv hcl => ?_) (fun r u t H1 locs1 ht _ hr1 hB _ _ hS1 => ?_)
  · (try dsimp only at hB)
    rw [ht] at hB
    obtain ⟨hE, hG1⟩ := hB
    rcases hE with ⟨rfl, hcd⟩ | ⟨rfl, hcd⟩
    · refine caught hC [] ⟨0, 9, 12, 13⟩ [⟨0, 9, 15, 15⟩] (htab.trans rfl) (fun z hz => absurd hz List.not_mem_nil) rfl (by decide) cl_L_13 (by decide) hce hcv hcl ?_
      refine o_astore_n hx hb dL_athlete_12 hl (by decide) rfl (fun ls hl => ?_)
      refine lv_iconst (v := 1) hx hb dL_athlete_13 (by decide) ?_
      exact R_I hC hS1 hr hlk rfl (Or.inr ⟨1, by decide, by decide, hcd, rfl, hG1⟩) (Nat.le_of_ble_eq_true rfl) (Nat.le_of_ble_eq_true rfl) dL_athlete_14
    · refine caught hC [⟨0, 9, 12, 13⟩] ⟨0, 9, 15, 15⟩ [] (htab.trans rfl) (fun z hz => by
            cases List.mem_singleton.mp hz
            exact Or.inr ⟨by decide, _, hC.t _ cl_L_13, hC.k.2.2.2.2.1 (_, _) (by decide)⟩) rfl (by decide) cl_L_15 (by decide) hce hcv hcl ?_
      refine o_astore_n hx hb dL_athlete_15 hl (by decide) rfl (fun ls hl => ?_)
      refine lv_iconst (v := 2) hx hb dL_athlete_16 (by decide) ?_
      exact R_I hC hS1 hr hlk rfl (Or.inr ⟨2, by decide, by decide, hcd, rfl, hG1⟩) (Nat.le_of_ble_eq_true rfl) (Nat.le_of_ble_eq_true rfl) dL_athlete_17
  · subst hr1
    (try dsimp only at hB)
    rw [ht] at hB
    obtain ⟨q0, rfl, ad9, hA, hG1⟩ := hB
    refine lv_i2l hx hb dL_athlete_7 rfl ?_
    refine bn_2 (congrFun (congrFun (hA 20 (Or.inr (by decide))) _) _) ?_
    refine g_last hC hG1 hS1 V_out 0 rfl (by decide) (by decide) (up_Vw (by decide) Xl_out) dL_athlete_8 (fun H locs hG hS => ?_)
    refine lv_goto (tgt := 18) hx hb dL_athlete_9 (by decide) ?_
    refine lv_iconst (v := 0) hx hb dL_athlete_18 (by decide) ?_
    exact R_I hC hS hr hlk rfl (Or.inl ⟨rfl, q0, ad9, hA, hG⟩) (Nat.le_of_ble_eq_true rfl) (Nat.le_of_ble_eq_true rfl) dL_athlete_19
theorem k_L_athlete {p : Program} {l : Launch} {e : Env} {R : Room} {s : State} {m : MethodId} {args : Array Value} {below : List Frame} {meth : Method} {c : Code} {H : Heap} {locs : List Loc} {cells slots : Nat} {Q : State → Prop} {cc : ByteArray} {pc nL : Nat} {ls : Array Slot} {rest : List Value} {own : String} {D : va_G} {cy : Nat → ClassId} {sa : Nat → Nat} {de B : Nat} {ad : Ad} {S : St} {n : Nat → Nat} {T : St} {k : Nat → Nat} {th : Int32} {f : Nat → Int64} {g9 : Nat → UInt64} {x : Int32} (hfl : l.stackTraces = false) (hC : Cx p m c cc nL s args own D cy sa de B) (hS : va_S (AB B) s.heap H locs) (hG : GW D B ad (Vw cy de ad S n T k th (Xl cy f g9)) H) (h0 : Inv S n) {idx : Nat} (wl : Cond.methodLink own idx yL_athlete ∈ G0) (hR : 9 + 1 ≤ R.frames ∧ 8 + (4 + 11) + 212 ≤ R.locals) (hsz : ls.size = nL) (hst : (rest.map fun v => v.category).sum ≤ 8) (hdg : decode cc pc = .ok (.invokestatic idx, 3)) (hcs : cells + 9 ≤ R.cells ∧ slots + 56 ≤ R.slots) (k0 : cd_athlete n x = 0 → ∀ (ad9 : Ad) (H1 : Heap) (locs1 : List Loc), Ag ad ad9 → GW D B ad9 (Vw cy de ad9 (atS S (n 0) x) (nUp n 0) T k th (Xl cy (vp_updL f 0 (Int32.toInt64 (nI (n 0)))) g9)) H1 → va_S (AB B) s.heap H1 locs1 → W p l e R s m args below meth c H1 locs1 (cells + 9) (slots + 56) Q (F0 m (pc + 3) ls (.int 0 :: rest))) (k1 : ∀ t9 : Nat, t9 < 4 → ¬ t9 = 0 → cd_athlete n x = t9 → ∀ (H1 : Heap) (locs1 : List Loc), GW D B ad (Vw cy de ad S n T k th (Xl cy f g9)) H1 → va_S (AB B) s.heap H1 locs1 → W p l e R s m args below meth c H1 locs1 (cells + 9) (slots + 56) Q (F0 m (pc + 3) ls (.int (nI t9) :: rest))) : W p l e R s m args below meth c H locs cells slots Q (F0 m pc ls (.ref (ad 20 0 0) :: .int x :: .ref (ad 0 0 0) :: rest)) :=
  va_calli (rSW hC hS hG h0 (As := [.ref (ad 0 0 0), .int x, .ref (ad 20 0 0)]) (c_L_athlete l hfl) ⟨rfl, rfl⟩ wl sm_L_athlete in_L cd_L_athlete (n := 3) (by decide +kernel) hR rfl hsz hst rfl hdg hcs) hS (fun _ _ h => h) (fun _ h => h) (fun r u t H1 locs1 ht _ hr hB _ _ hS1 => by
    subst hr
    have hB9 := hB; try dsimp only at hB9
    rw [ht] at hB9
    rcases hB9 with ⟨rfl, q0, ad9, hA, hG1⟩ | ⟨t9, q1, q2, q3, rfl, hG1⟩
    · exact k0 q0 ad9 _ _ hA hG1 hS1
    · exact k1 t9 q1 q2 q3 _ _ hG1 hS1)
set_option maxHeartbeats 4000000 in
set_option maxRecDepth 100000 in
theorem c_L_body (l : Launch) (hfl : l.stackTraces = false) {D : va_G} {cy : Nat → ClassId} {sa : Nat → Nat} {de B : Nat} {ad : Ad} {S : St} {n : Nat → Nat} {T : St} {k : Nat → Nat} {th : Int32} {f : Nat → Int64} {g9 : Nat → UInt64} {x y z : Int32} : Met l yL_body (Cond.codeWith yL_body cL_body 6 (Option.some Jvm.ClassFile.FieldType.int) [((0 : Nat), (12 : Nat), (15 : Nat), (13 : Nat)), ((0 : Nat), (12 : Nat), (19 : Nat), (21 : Nat))] :: G0) ({ frames := 8, cells := 3, slots := 18, locals := 128 } : Room) (va_Pc [.ref (ad 0 0 0), .int x, .int y, .int z, .ref (ad 20 0 0)] (PW D cy sa de B ad (Vw cy de ad S n T k th (Xl cy f g9)) (Inv S n))) (oI B (fun r H => (r = 0 ∧ cd_body n x y z = 0 ∧ ∃ ad9, Ag ad ad9 ∧ GW D B ad9 (Vw cy de ad9 (up_body S x y z) n T k th (Xl cy (vp_updL f 0 (Int32.toInt64 (S 6 (ci x) (ci y)))) g9)) H) ∨ (∃ t9 : Nat, t9 < 4 ∧ ¬ t9 = 0 ∧ cd_body n x y z = t9 ∧ r = nI t9 ∧ GW D B ad (Vw cy de ad S n T k th (Xl cy f g9)) H))) 3 18 (AB B) := by
  refine E_metW (own := RL) rfl rfl (Nat.le_of_ble_eq_true rfl) ?_
  intro p e s m below meth c hC hr hlk htab hG h0 ls hl
  have hx := hC.x
  have hb := hC.b
  have hS : va_S (AB B) s.heap s.heap [] := va_S.rf
  have hl : lo ls 6 [some (.ref (ad 0 0 0)), some (.int x), some (.int y), some (.int z), some (.ref (ad 20 0 0)), none] := lo_of hl
  refine o_aload hx hb dL_body_0 hl rfl ?_
  refine lv_iconst (v := 0) hx hb dL_body_2 (by decide) ?_
  refine o_aload_n hx hb dL_body_3 hl rfl ?_
  refine o_iload_n hx hb dL_body_4 hl rfl ?_
  refine o_iload_n hx hb dL_body_5 hl rfl ?_
  refine o_iload_n hx hb dL_body_6 hl rfl ?_
  refine vx_calli (xV hC hS hG h0.1 (As := [.int x, .int y, .int z]) (c_X6_body l hfl) ⟨rfl, rfl⟩ ml_L_17 im_X6_body sl_X6_X6_body in_X6 cd_X6_body (n := 3) (by decide +kernel) ⟨(Nat.le_of_ble_eq_true rfl), (Nat.le_of_ble_eq_true rfl)⟩ (recv hC hG (q := (RX6, TX6, 6)) rfl V_games) rfl hl.1 (Nat.le_of_ble_eq_true rfl) rfl dL_body_7 ⟨(Nat.le_of_ble_eq_true rfl), (Nat.le_of_ble_eq_true rfl)⟩) hS (fun _ _ h => h) (fun _ h => h) (fun _ _ h => h) (fun E ce q9 u t H1 locs1 ht hv hp hB hz hq hS1 hce hcv hcl => ?_) (fun r u t H1 locs1 ht _ hr1 hB _ _ hS1 => ?_)
  · (try dsimp only at hB)
    rw [ht] at hB
    obtain ⟨hE, hG1⟩ := hB
    rcases hE with ⟨rfl, hcd⟩ | ⟨rfl, hcd⟩
    · refine caught hC [] ⟨0, 12, 15, 13⟩ [⟨0, 12, 19, 21⟩] (htab.trans rfl) (fun z hz => absurd hz List.not_mem_nil) rfl (by decide) cl_L_13 (by decide) hce hcv hcl ?_
      refine o_astore hx hb dL_body_15 hl (by decide) rfl (fun ls hl => ?_)
      refine lv_iconst (v := 1) hx hb dL_body_17 (by decide) ?_
      exact R_I hC hS1 hr hlk rfl (Or.inr ⟨1, by decide, by decide, hcd, rfl, hG1⟩) (Nat.le_of_ble_eq_true rfl) (Nat.le_of_ble_eq_true rfl) dL_body_18
    · refine caught hC [⟨0, 12, 15, 13⟩] ⟨0, 12, 19, 21⟩ [] (htab.trans rfl) (fun z hz => by
            cases List.mem_singleton.mp hz
            exact Or.inr ⟨by decide, _, hC.t _ cl_L_13, hC.k.2.2.2.2.1 (_, _) (by decide)⟩) rfl (by decide) cl_L_21 (by decide) hce hcv hcl ?_
      refine o_astore hx hb dL_body_19 hl (by decide) rfl (fun ls hl => ?_)
      refine lv_iconst (v := 2) hx hb dL_body_21 (by decide) ?_
      exact R_I hC hS1 hr hlk rfl (Or.inr ⟨2, by decide, by decide, hcd, rfl, hG1⟩) (Nat.le_of_ble_eq_true rfl) (Nat.le_of_ble_eq_true rfl) dL_body_22
  · subst hr1
    (try dsimp only at hB)
    rw [ht] at hB
    obtain ⟨q0, rfl, hG1⟩ := hB
    refine lv_i2l hx hb dL_body_10 rfl ?_
    refine g_last hC hG1 hS1 V_out 0 rfl (by decide) (by decide) (up_Vw (by decide) Xl_out) dL_body_11 (fun H locs hG hS => ?_)
    refine lv_goto (tgt := 23) hx hb dL_body_12 (by decide) ?_
    refine lv_iconst (v := 0) hx hb dL_body_23 (by decide) ?_
    exact R_I hC hS hr hlk rfl (Or.inl ⟨rfl, q0, ad, Ag.rf, hG⟩) (Nat.le_of_ble_eq_true rfl) (Nat.le_of_ble_eq_true rfl) dL_body_24
theorem k_L_body {p : Program} {l : Launch} {e : Env} {R : Room} {s : State} {m : MethodId} {args : Array Value} {below : List Frame} {meth : Method} {c : Code} {H : Heap} {locs : List Loc} {cells slots : Nat} {Q : State → Prop} {cc : ByteArray} {pc nL : Nat} {ls : Array Slot} {rest : List Value} {own : String} {D : va_G} {cy : Nat → ClassId} {sa : Nat → Nat} {de B : Nat} {ad : Ad} {S : St} {n : Nat → Nat} {T : St} {k : Nat → Nat} {th : Int32} {f : Nat → Int64} {g9 : Nat → UInt64} {x y z : Int32} (hfl : l.stackTraces = false) (hC : Cx p m c cc nL s args own D cy sa de B) (hS : va_S (AB B) s.heap H locs) (hG : GW D B ad (Vw cy de ad S n T k th (Xl cy f g9)) H) (h0 : Inv S n) {idx : Nat} (wl : Cond.methodLink own idx yL_body ∈ G0) (hR : 8 + 1 ≤ R.frames ∧ 8 + (6 + 11) + 128 ≤ R.locals) (hsz : ls.size = nL) (hst : (rest.map fun v => v.category).sum ≤ 8) (hdg : decode cc pc = .ok (.invokestatic idx, 3)) (hcs : cells + 3 ≤ R.cells ∧ slots + 18 ≤ R.slots) (k0 : cd_body n x y z = 0 → ∀ (ad9 : Ad) (H1 : Heap) (locs1 : List Loc), Ag ad ad9 → GW D B ad9 (Vw cy de ad9 (up_body S x y z) n T k th (Xl cy (vp_updL f 0 (Int32.toInt64 (S 6 (ci x) (ci y)))) g9)) H1 → va_S (AB B) s.heap H1 locs1 → W p l e R s m args below meth c H1 locs1 (cells + 3) (slots + 18) Q (F0 m (pc + 3) ls (.int 0 :: rest))) (k1 : ∀ t9 : Nat, t9 < 4 → ¬ t9 = 0 → cd_body n x y z = t9 → ∀ (H1 : Heap) (locs1 : List Loc), GW D B ad (Vw cy de ad S n T k th (Xl cy f g9)) H1 → va_S (AB B) s.heap H1 locs1 → W p l e R s m args below meth c H1 locs1 (cells + 3) (slots + 18) Q (F0 m (pc + 3) ls (.int (nI t9) :: rest))) : W p l e R s m args below meth c H locs cells slots Q (F0 m pc ls (.ref (ad 20 0 0) :: .int z :: .int y :: .int x :: .ref (ad 0 0 0) :: rest)) :=
  va_calli (rSW hC hS hG h0 (As := [.ref (ad 0 0 0), .int x, .int y, .int z, .ref (ad 20 0 0)]) (c_L_body l hfl) ⟨rfl, rfl⟩ wl sm_L_body in_L cd_L_body (n := 5) (by decide +kernel) hR rfl hsz hst rfl hdg hcs) hS (fun _ _ h => h) (fun _ h => h) (fun r u t H1 locs1 ht _ hr hB _ _ hS1 => by
    subst hr
    have hB9 := hB; try dsimp only at hB9
    rw [ht] at hB9
    rcases hB9 with ⟨rfl, q0, ad9, hA, hG1⟩ | ⟨t9, q1, q2, q3, rfl, hG1⟩
    · exact k0 q0 ad9 _ _ hA hG1 hS1
    · exact k1 t9 q1 q2 q3 _ _ hG1 hS1)
set_option maxHeartbeats 4000000 in
set_option maxRecDepth 100000 in
theorem c_L_show (l : Launch) (hfl : l.stackTraces = false) {D : va_G} {cy : Nat → ClassId} {sa : Nat → Nat} {de B : Nat} {ad : Ad} {S : St} {n : Nat → Nat} {T : St} {k : Nat → Nat} {th : Int32} {f : Nat → Int64} {g9 : Nat → UInt64} {x y z : Int32} : Met l yL_show (Cond.codeWith yL_show cL_show 6 (Option.some Jvm.ClassFile.FieldType.int) [((0 : Nat), (12 : Nat), (15 : Nat), (13 : Nat)), ((0 : Nat), (12 : Nat), (19 : Nat), (21 : Nat))] :: G0) ({ frames := 8, cells := 3, slots := 18, locals := 128 } : Room) (va_Pc [.ref (ad 0 0 0), .int x, .int y, .int z, .ref (ad 20 0 0)] (PW D cy sa de B ad (Vw cy de ad S n T k th (Xl cy f g9)) (Inv S n))) (oI B (fun r H => (r = 0 ∧ cd_show n x y z = 0 ∧ ∃ ad9, Ag ad ad9 ∧ GW D B ad9 (Vw cy de ad9 (up_show S x y z) n T k th (Xl cy (vp_updL f 0 (Int32.toInt64 (shv S (ci x) (ci y)))) g9)) H) ∨ (∃ t9 : Nat, t9 < 4 ∧ ¬ t9 = 0 ∧ cd_show n x y z = t9 ∧ r = nI t9 ∧ GW D B ad (Vw cy de ad S n T k th (Xl cy f g9)) H))) 3 18 (AB B) := by
  refine E_metW (own := RL) rfl rfl (Nat.le_of_ble_eq_true rfl) ?_
  intro p e s m below meth c hC hr hlk htab hG h0 ls hl
  have hx := hC.x
  have hb := hC.b
  have hS : va_S (AB B) s.heap s.heap [] := va_S.rf
  have hl : lo ls 6 [some (.ref (ad 0 0 0)), some (.int x), some (.int y), some (.int z), some (.ref (ad 20 0 0)), none] := lo_of hl
  refine o_aload hx hb dL_show_0 hl rfl ?_
  refine lv_iconst (v := 0) hx hb dL_show_2 (by decide) ?_
  refine o_aload_n hx hb dL_show_3 hl rfl ?_
  refine o_iload_n hx hb dL_show_4 hl rfl ?_
  refine o_iload_n hx hb dL_show_5 hl rfl ?_
  refine o_iload_n hx hb dL_show_6 hl rfl ?_
  refine vx_calli (xV hC hS hG h0.1 (As := [.int x, .int y, .int z]) (c_X6_show l hfl) ⟨rfl, rfl⟩ ml_L_23 im_X6_show sl_X6_X6_show in_X6 cd_X6_show (n := 3) (by decide +kernel) ⟨(Nat.le_of_ble_eq_true rfl), (Nat.le_of_ble_eq_true rfl)⟩ (recv hC hG (q := (RX6, TX6, 6)) rfl V_games) rfl hl.1 (Nat.le_of_ble_eq_true rfl) rfl dL_show_7 ⟨(Nat.le_of_ble_eq_true rfl), (Nat.le_of_ble_eq_true rfl)⟩) hS (fun _ _ h => h) (fun _ h => h) (fun _ _ h => h) (fun E ce q9 u t H1 locs1 ht hv hp hB hz hq hS1 hce hcv hcl => ?_) (fun r u t H1 locs1 ht _ hr1 hB _ _ hS1 => ?_)
  · (try dsimp only at hB)
    rw [ht] at hB
    obtain ⟨hE, hG1⟩ := hB
    rcases hE with ⟨rfl, hcd⟩ | ⟨rfl, hcd⟩
    · refine caught hC [] ⟨0, 12, 15, 13⟩ [⟨0, 12, 19, 21⟩] (htab.trans rfl) (fun z hz => absurd hz List.not_mem_nil) rfl (by decide) cl_L_13 (by decide) hce hcv hcl ?_
      refine o_astore hx hb dL_show_15 hl (by decide) rfl (fun ls hl => ?_)
      refine lv_iconst (v := 1) hx hb dL_show_17 (by decide) ?_
      exact R_I hC hS1 hr hlk rfl (Or.inr ⟨1, by decide, by decide, hcd, rfl, hG1⟩) (Nat.le_of_ble_eq_true rfl) (Nat.le_of_ble_eq_true rfl) dL_show_18
    · refine caught hC [⟨0, 12, 15, 13⟩] ⟨0, 12, 19, 21⟩ [] (htab.trans rfl) (fun z hz => by
            cases List.mem_singleton.mp hz
            exact Or.inr ⟨by decide, _, hC.t _ cl_L_13, hC.k.2.2.2.2.1 (_, _) (by decide)⟩) rfl (by decide) cl_L_21 (by decide) hce hcv hcl ?_
      refine o_astore hx hb dL_show_19 hl (by decide) rfl (fun ls hl => ?_)
      refine lv_iconst (v := 2) hx hb dL_show_21 (by decide) ?_
      exact R_I hC hS1 hr hlk rfl (Or.inr ⟨2, by decide, by decide, hcd, rfl, hG1⟩) (Nat.le_of_ble_eq_true rfl) (Nat.le_of_ble_eq_true rfl) dL_show_22
  · subst hr1
    (try dsimp only at hB)
    rw [ht] at hB
    obtain ⟨q0, rfl, hG1⟩ := hB
    refine lv_i2l hx hb dL_show_10 rfl ?_
    refine g_last hC hG1 hS1 V_out 0 rfl (by decide) (by decide) (up_Vw (by decide) Xl_out) dL_show_11 (fun H locs hG hS => ?_)
    refine lv_goto (tgt := 23) hx hb dL_show_12 (by decide) ?_
    refine lv_iconst (v := 0) hx hb dL_show_23 (by decide) ?_
    exact R_I hC hS hr hlk rfl (Or.inl ⟨rfl, q0, ad, Ag.rf, hG⟩) (Nat.le_of_ble_eq_true rfl) (Nat.le_of_ble_eq_true rfl) dL_show_24
theorem k_L_show {p : Program} {l : Launch} {e : Env} {R : Room} {s : State} {m : MethodId} {args : Array Value} {below : List Frame} {meth : Method} {c : Code} {H : Heap} {locs : List Loc} {cells slots : Nat} {Q : State → Prop} {cc : ByteArray} {pc nL : Nat} {ls : Array Slot} {rest : List Value} {own : String} {D : va_G} {cy : Nat → ClassId} {sa : Nat → Nat} {de B : Nat} {ad : Ad} {S : St} {n : Nat → Nat} {T : St} {k : Nat → Nat} {th : Int32} {f : Nat → Int64} {g9 : Nat → UInt64} {x y z : Int32} (hfl : l.stackTraces = false) (hC : Cx p m c cc nL s args own D cy sa de B) (hS : va_S (AB B) s.heap H locs) (hG : GW D B ad (Vw cy de ad S n T k th (Xl cy f g9)) H) (h0 : Inv S n) {idx : Nat} (wl : Cond.methodLink own idx yL_show ∈ G0) (hR : 8 + 1 ≤ R.frames ∧ 8 + (6 + 11) + 128 ≤ R.locals) (hsz : ls.size = nL) (hst : (rest.map fun v => v.category).sum ≤ 8) (hdg : decode cc pc = .ok (.invokestatic idx, 3)) (hcs : cells + 3 ≤ R.cells ∧ slots + 18 ≤ R.slots) (k0 : cd_show n x y z = 0 → ∀ (ad9 : Ad) (H1 : Heap) (locs1 : List Loc), Ag ad ad9 → GW D B ad9 (Vw cy de ad9 (up_show S x y z) n T k th (Xl cy (vp_updL f 0 (Int32.toInt64 (shv S (ci x) (ci y)))) g9)) H1 → va_S (AB B) s.heap H1 locs1 → W p l e R s m args below meth c H1 locs1 (cells + 3) (slots + 18) Q (F0 m (pc + 3) ls (.int 0 :: rest))) (k1 : ∀ t9 : Nat, t9 < 4 → ¬ t9 = 0 → cd_show n x y z = t9 → ∀ (H1 : Heap) (locs1 : List Loc), GW D B ad (Vw cy de ad S n T k th (Xl cy f g9)) H1 → va_S (AB B) s.heap H1 locs1 → W p l e R s m args below meth c H1 locs1 (cells + 3) (slots + 18) Q (F0 m (pc + 3) ls (.int (nI t9) :: rest))) : W p l e R s m args below meth c H locs cells slots Q (F0 m pc ls (.ref (ad 20 0 0) :: .int z :: .int y :: .int x :: .ref (ad 0 0 0) :: rest)) :=
  va_calli (rSW hC hS hG h0 (As := [.ref (ad 0 0 0), .int x, .int y, .int z, .ref (ad 20 0 0)]) (c_L_show l hfl) ⟨rfl, rfl⟩ wl sm_L_show in_L cd_L_show (n := 5) (by decide +kernel) hR rfl hsz hst rfl hdg hcs) hS (fun _ _ h => h) (fun _ h => h) (fun r u t H1 locs1 ht _ hr hB _ _ hS1 => by
    subst hr
    have hB9 := hB; try dsimp only at hB9
    rw [ht] at hB9
    rcases hB9 with ⟨rfl, q0, ad9, hA, hG1⟩ | ⟨t9, q1, q2, q3, rfl, hG1⟩
    · exact k0 q0 ad9 _ _ hA hG1 hS1
    · exact k1 t9 q1 q2 q3 _ _ hG1 hS1)
set_option maxHeartbeats 4000000 in
set_option maxRecDepth 100000 in
theorem c_L_found (l : Launch) (hfl : l.stackTraces = false) {D : va_G} {cy : Nat → ClassId} {sa : Nat → Nat} {de B : Nat} {ad : Ad} {S : St} {n : Nat → Nat} {T : St} {k : Nat → Nat} {th : Int32} {f : Nat → Int64} {g9 : Nat → UInt64} {x y : Int32} : Met l yL_found (Cond.codeWith yL_found cL_found 5 (Option.some Jvm.ClassFile.FieldType.int) [((0 : Nat), (10 : Nat), (13 : Nat), (13 : Nat)), ((0 : Nat), (10 : Nat), (17 : Nat), (21 : Nat)), ((0 : Nat), (10 : Nat), (21 : Nat), (30 : Nat))] :: G0) ({ frames := 8, cells := 3, slots := 18, locals := 126 } : Room) (va_Pc [.ref (ad 0 0 0), .int x, .int y, .ref (ad 20 0 0)] (PW D cy sa de B ad (Vw cy de ad S n T k th (Xl cy f g9)) (Inv S n))) (oI B (fun r H => (r = 0 ∧ cd_found S n x y = 0 ∧ ∃ ad9, Ag ad ad9 ∧ GW D B ad9 (Vw cy de ad9 S n T k th (Xl cy (vp_updL f 0 (Int32.toInt64 (S 1 (ci x) (ci y)))) g9)) H) ∨ (∃ t9 : Nat, t9 < 4 ∧ ¬ t9 = 0 ∧ cd_found S n x y = t9 ∧ r = nI t9 ∧ GW D B ad (Vw cy de ad S n T k th (Xl cy f g9)) H))) 3 18 (AB B) := by
  refine E_metW (own := RL) rfl rfl (Nat.le_of_ble_eq_true rfl) ?_
  intro p e s m below meth c hC hr hlk htab hG h0 ls hl
  have hx := hC.x
  have hb := hC.b
  have hS : va_S (AB B) s.heap s.heap [] := va_S.rf
  have hl : lo ls 5 [some (.ref (ad 0 0 0)), some (.int x), some (.int y), some (.ref (ad 20 0 0)), none] := lo_of hl
  refine o_aload_n hx hb dL_found_0 hl rfl ?_
  refine lv_iconst (v := 0) hx hb dL_found_1 (by decide) ?_
  refine o_aload_n hx hb dL_found_2 hl rfl ?_
  refine o_iload_n hx hb dL_found_3 hl rfl ?_
  refine o_iload_n hx hb dL_found_4 hl rfl ?_
  refine vx_calli (xV hC hS hG h0.1 (As := [.int x, .int y]) (c_X6_found l hfl) ⟨rfl, rfl⟩ ml_L_26 im_X6_found sl_X6_X6_found in_X6 cd_X6_found (n := 2) (by decide +kernel) ⟨(Nat.le_of_ble_eq_true rfl), (Nat.le_of_ble_eq_true rfl)⟩ (recv hC hG (q := (RX6, TX6, 6)) rfl V_games) rfl hl.1 (Nat.le_of_ble_eq_true rfl) rfl dL_found_5 ⟨(Nat.le_of_ble_eq_true rfl), (Nat.le_of_ble_eq_true rfl)⟩) hS (fun _ _ h => h) (fun _ h => h) (fun _ _ h => h) (fun E ce q9 u t H1 locs1 ht hv hp hB hz hq hS1 hce hcv hcl => ?_) (fun r u t H1 locs1 ht _ hr1 hB _ _ hS1 => ?_)
  · (try dsimp only at hB)
    rw [ht] at hB
    obtain ⟨hE, hG1⟩ := hB
    rcases hE with ⟨rfl, hcd⟩ | ⟨rfl, hcd⟩ | ⟨rfl, hcd⟩
    · refine caught hC [] ⟨0, 10, 13, 13⟩ [⟨0, 10, 17, 21⟩, ⟨0, 10, 21, 30⟩] (htab.trans rfl) (fun z hz => absurd hz List.not_mem_nil) rfl (by decide) cl_L_13 (by decide) hce hcv hcl ?_
      refine o_astore hx hb dL_found_13 hl (by decide) rfl (fun ls hl => ?_)
      refine lv_iconst (v := 1) hx hb dL_found_15 (by decide) ?_
      exact R_I hC hS1 hr hlk rfl (Or.inr ⟨1, by decide, by decide, hcd, rfl, hG1⟩) (Nat.le_of_ble_eq_true rfl) (Nat.le_of_ble_eq_true rfl) dL_found_16
    · refine caught hC [⟨0, 10, 13, 13⟩] ⟨0, 10, 17, 21⟩ [⟨0, 10, 21, 30⟩] (htab.trans rfl) (fun z hz => by
            cases List.mem_singleton.mp hz
            exact Or.inr ⟨by decide, _, hC.t _ cl_L_13, hC.k.2.2.2.2.1 (_, _) (by decide)⟩) rfl (by decide) cl_L_21 (by decide) hce hcv hcl ?_
      refine o_astore hx hb dL_found_17 hl (by decide) rfl (fun ls hl => ?_)
      refine lv_iconst (v := 2) hx hb dL_found_19 (by decide) ?_
      exact R_I hC hS1 hr hlk rfl (Or.inr ⟨2, by decide, by decide, hcd, rfl, hG1⟩) (Nat.le_of_ble_eq_true rfl) (Nat.le_of_ble_eq_true rfl) dL_found_20
    · refine caught hC [⟨0, 10, 13, 13⟩, ⟨0, 10, 17, 21⟩] ⟨0, 10, 21, 30⟩ [] (htab.trans rfl) (fun z hz => by
            rcases List.mem_cons.mp hz with h | h
            · cases h; exact Or.inr ⟨by decide, _, hC.t _ cl_L_13, hC.k.2.2.2.2.1 (_, _) (by decide)⟩
            · cases List.mem_singleton.mp h; exact Or.inr ⟨by decide, _, hC.t _ cl_L_21, hC.k.2.2.2.2.1 (_, _) (by decide)⟩) rfl (by decide) cl_L_30 (by decide) hce hcv hcl ?_
      refine o_astore hx hb dL_found_21 hl (by decide) rfl (fun ls hl => ?_)
      refine lv_iconst (v := 3) hx hb dL_found_23 (by decide) ?_
      exact R_I hC hS1 hr hlk rfl (Or.inr ⟨3, by decide, by decide, hcd, rfl, hG1⟩) (Nat.le_of_ble_eq_true rfl) (Nat.le_of_ble_eq_true rfl) dL_found_24
  · subst hr1
    (try dsimp only at hB)
    rw [ht] at hB
    obtain ⟨q0, rfl, hG1⟩ := hB
    refine lv_i2l hx hb dL_found_8 rfl ?_
    refine g_last hC hG1 hS1 V_out 0 rfl (by decide) (by decide) (up_Vw (by decide) Xl_out) dL_found_9 (fun H locs hG hS => ?_)
    refine lv_goto (tgt := 25) hx hb dL_found_10 (by decide) ?_
    refine lv_iconst (v := 0) hx hb dL_found_25 (by decide) ?_
    exact R_I hC hS hr hlk rfl (Or.inl ⟨rfl, q0, ad, Ag.rf, hG⟩) (Nat.le_of_ble_eq_true rfl) (Nat.le_of_ble_eq_true rfl) dL_found_26
theorem k_L_found {p : Program} {l : Launch} {e : Env} {R : Room} {s : State} {m : MethodId} {args : Array Value} {below : List Frame} {meth : Method} {c : Code} {H : Heap} {locs : List Loc} {cells slots : Nat} {Q : State → Prop} {cc : ByteArray} {pc nL : Nat} {ls : Array Slot} {rest : List Value} {own : String} {D : va_G} {cy : Nat → ClassId} {sa : Nat → Nat} {de B : Nat} {ad : Ad} {S : St} {n : Nat → Nat} {T : St} {k : Nat → Nat} {th : Int32} {f : Nat → Int64} {g9 : Nat → UInt64} {x y : Int32} (hfl : l.stackTraces = false) (hC : Cx p m c cc nL s args own D cy sa de B) (hS : va_S (AB B) s.heap H locs) (hG : GW D B ad (Vw cy de ad S n T k th (Xl cy f g9)) H) (h0 : Inv S n) {idx : Nat} (wl : Cond.methodLink own idx yL_found ∈ G0) (hR : 8 + 1 ≤ R.frames ∧ 8 + (5 + 11) + 126 ≤ R.locals) (hsz : ls.size = nL) (hst : (rest.map fun v => v.category).sum ≤ 8) (hdg : decode cc pc = .ok (.invokestatic idx, 3)) (hcs : cells + 3 ≤ R.cells ∧ slots + 18 ≤ R.slots) (k0 : cd_found S n x y = 0 → ∀ (ad9 : Ad) (H1 : Heap) (locs1 : List Loc), Ag ad ad9 → GW D B ad9 (Vw cy de ad9 S n T k th (Xl cy (vp_updL f 0 (Int32.toInt64 (S 1 (ci x) (ci y)))) g9)) H1 → va_S (AB B) s.heap H1 locs1 → W p l e R s m args below meth c H1 locs1 (cells + 3) (slots + 18) Q (F0 m (pc + 3) ls (.int 0 :: rest))) (k1 : ∀ t9 : Nat, t9 < 4 → ¬ t9 = 0 → cd_found S n x y = t9 → ∀ (H1 : Heap) (locs1 : List Loc), GW D B ad (Vw cy de ad S n T k th (Xl cy f g9)) H1 → va_S (AB B) s.heap H1 locs1 → W p l e R s m args below meth c H1 locs1 (cells + 3) (slots + 18) Q (F0 m (pc + 3) ls (.int (nI t9) :: rest))) : W p l e R s m args below meth c H locs cells slots Q (F0 m pc ls (.ref (ad 20 0 0) :: .int y :: .int x :: .ref (ad 0 0 0) :: rest)) :=
  va_calli (rSW hC hS hG h0 (As := [.ref (ad 0 0 0), .int x, .int y, .ref (ad 20 0 0)]) (c_L_found l hfl) ⟨rfl, rfl⟩ wl sm_L_found in_L cd_L_found (n := 4) (by decide +kernel) hR rfl hsz hst rfl hdg hcs) hS (fun _ _ h => h) (fun _ h => h) (fun r u t H1 locs1 ht _ hr hB _ _ hS1 => by
    subst hr
    have hB9 := hB; try dsimp only at hB9
    rw [ht] at hB9
    rcases hB9 with ⟨rfl, q0, ad9, hA, hG1⟩ | ⟨t9, q1, q2, q3, rfl, hG1⟩
    · exact k0 q0 ad9 _ _ hA hG1 hS1
    · exact k1 t9 q1 q2 q3 _ _ hG1 hS1)
set_option maxHeartbeats 4000000 in
set_option maxRecDepth 100000 in
theorem c_L_classifier (l : Launch) (hfl : l.stackTraces = false) {D : va_G} {cy : Nat → ClassId} {sa : Nat → Nat} {de B : Nat} {ad : Ad} {S : St} {n : Nat → Nat} {T : St} {k : Nat → Nat} {th : Int32} {f : Nat → Int64} {g9 : Nat → UInt64} {x : Int32} : Met l yL_classifier (Cond.codeWith yL_classifier cL_classifier 4 (Option.some Jvm.ClassFile.FieldType.int) [((0 : Nat), (9 : Nat), (12 : Nat), (13 : Nat)), ((0 : Nat), (9 : Nat), (15 : Nat), (15 : Nat))] :: G0) ({ frames := 9, cells := 3, slots := 29, locals := 212 } : Room) (va_Pc [.ref (ad 0 0 0), .int x, .ref (ad 20 0 0)] (PW D cy sa de B ad (Vw cy de ad S n T k th (Xl cy f g9)) (Inv S n))) (oI B (fun r H => (r = 0 ∧ cd_classifier n x = 0 ∧ ∃ ad9, Ag ad ad9 ∧ GW D B ad9 (Vw cy de ad9 (clS S (n 1) x) (nUp n 1) T k th (Xl cy (vp_updL f 0 (Int32.toInt64 (nI (n 1)))) g9)) H) ∨ (∃ t9 : Nat, t9 < 4 ∧ ¬ t9 = 0 ∧ cd_classifier n x = t9 ∧ r = nI t9 ∧ GW D B ad (Vw cy de ad S n T k th (Xl cy f g9)) H))) 3 29 (AB B) := by
  refine E_metW (own := RL) rfl rfl (Nat.le_of_ble_eq_true rfl) ?_
  intro p e s m below meth c hC hr hlk htab hG h0 ls hl
  have hx := hC.x
  have hb := hC.b
  have hS : va_S (AB B) s.heap s.heap [] := va_S.rf
  have hl : lo ls 4 [some (.ref (ad 0 0 0)), some (.int x), some (.ref (ad 20 0 0)), none] := lo_of hl
  refine o_aload_n hx hb dL_classifier_0 hl rfl ?_
  refine lv_iconst (v := 0) hx hb dL_classifier_1 (by decide) ?_
  refine o_aload_n hx hb dL_classifier_2 hl rfl ?_
  refine o_iload_n hx hb dL_classifier_3 hl rfl ?_
  refine vx_calli (xV hC hS hG ⟨h0, rfl⟩ (As := [.int x]) (c_X6_classifier l hfl) ⟨rfl, rfl⟩ ml_L_32 im_X6_classifier sl_X6_X6_classifier in_X6 cd_X6_classifier (n := 1) (by decide +kernel) ⟨(Nat.le_of_ble_eq_true rfl), (Nat.le_of_ble_eq_true rfl)⟩ (recv hC hG (q := (RX6, TX6, 6)) rfl V_games) rfl hl.1 (Nat.le_of_ble_eq_true rfl) rfl dL_classifier_4 ⟨(Nat.le_of_ble_eq_true rfl), (Nat.le_of_ble_eq_true rfl)⟩) hS (fun _ _ h => h) (fun _ h => h) (fun _ _ h => h) (fun E ce q9 u t H1 locs1 ht hv hp hB hz hq hS1 hce hcv hcl => ?_) (fun r u t H1 locs1 ht _ hr1 hB _ _ hS1 => ?_)
  · (try dsimp only at hB)
    rw [ht] at hB
    obtain ⟨hE, hG1⟩ := hB
    rcases hE with ⟨rfl, hcd⟩ | ⟨rfl, hcd⟩
    · refine caught hC [] ⟨0, 9, 12, 13⟩ [⟨0, 9, 15, 15⟩] (htab.trans rfl) (fun z hz => absurd hz List.not_mem_nil) rfl (by decide) cl_L_13 (by decide) hce hcv hcl ?_
      refine o_astore_n hx hb dL_classifier_12 hl (by decide) rfl (fun ls hl => ?_)
      refine lv_iconst (v := 1) hx hb dL_classifier_13 (by decide) ?_
      exact R_I hC hS1 hr hlk rfl (Or.inr ⟨1, by decide, by decide, hcd, rfl, hG1⟩) (Nat.le_of_ble_eq_true rfl) (Nat.le_of_ble_eq_true rfl) dL_classifier_14
    · refine caught hC [⟨0, 9, 12, 13⟩] ⟨0, 9, 15, 15⟩ [] (htab.trans rfl) (fun z hz => by
            cases List.mem_singleton.mp hz
            exact Or.inr ⟨by decide, _, hC.t _ cl_L_13, hC.k.2.2.2.2.1 (_, _) (by decide)⟩) rfl (by decide) cl_L_15 (by decide) hce hcv hcl ?_
      refine o_astore_n hx hb dL_classifier_15 hl (by decide) rfl (fun ls hl => ?_)
      refine lv_iconst (v := 2) hx hb dL_classifier_16 (by decide) ?_
      exact R_I hC hS1 hr hlk rfl (Or.inr ⟨2, by decide, by decide, hcd, rfl, hG1⟩) (Nat.le_of_ble_eq_true rfl) (Nat.le_of_ble_eq_true rfl) dL_classifier_17
  · subst hr1
    (try dsimp only at hB)
    rw [ht] at hB
    obtain ⟨q0, rfl, ad9, hA, hG1⟩ := hB
    refine lv_i2l hx hb dL_classifier_7 rfl ?_
    refine bn_2 (congrFun (congrFun (hA 20 (Or.inr (by decide))) _) _) ?_
    refine g_last hC hG1 hS1 V_out 0 rfl (by decide) (by decide) (up_Vw (by decide) Xl_out) dL_classifier_8 (fun H locs hG hS => ?_)
    refine lv_goto (tgt := 18) hx hb dL_classifier_9 (by decide) ?_
    refine lv_iconst (v := 0) hx hb dL_classifier_18 (by decide) ?_
    exact R_I hC hS hr hlk rfl (Or.inl ⟨rfl, q0, ad9, hA, hG⟩) (Nat.le_of_ble_eq_true rfl) (Nat.le_of_ble_eq_true rfl) dL_classifier_19
theorem k_L_classifier {p : Program} {l : Launch} {e : Env} {R : Room} {s : State} {m : MethodId} {args : Array Value} {below : List Frame} {meth : Method} {c : Code} {H : Heap} {locs : List Loc} {cells slots : Nat} {Q : State → Prop} {cc : ByteArray} {pc nL : Nat} {ls : Array Slot} {rest : List Value} {own : String} {D : va_G} {cy : Nat → ClassId} {sa : Nat → Nat} {de B : Nat} {ad : Ad} {S : St} {n : Nat → Nat} {T : St} {k : Nat → Nat} {th : Int32} {f : Nat → Int64} {g9 : Nat → UInt64} {x : Int32} (hfl : l.stackTraces = false) (hC : Cx p m c cc nL s args own D cy sa de B) (hS : va_S (AB B) s.heap H locs) (hG : GW D B ad (Vw cy de ad S n T k th (Xl cy f g9)) H) (h0 : Inv S n) {idx : Nat} (wl : Cond.methodLink own idx yL_classifier ∈ G0) (hR : 9 + 1 ≤ R.frames ∧ 8 + (4 + 11) + 212 ≤ R.locals) (hsz : ls.size = nL) (hst : (rest.map fun v => v.category).sum ≤ 8) (hdg : decode cc pc = .ok (.invokestatic idx, 3)) (hcs : cells + 3 ≤ R.cells ∧ slots + 29 ≤ R.slots) (k0 : cd_classifier n x = 0 → ∀ (ad9 : Ad) (H1 : Heap) (locs1 : List Loc), Ag ad ad9 → GW D B ad9 (Vw cy de ad9 (clS S (n 1) x) (nUp n 1) T k th (Xl cy (vp_updL f 0 (Int32.toInt64 (nI (n 1)))) g9)) H1 → va_S (AB B) s.heap H1 locs1 → W p l e R s m args below meth c H1 locs1 (cells + 3) (slots + 29) Q (F0 m (pc + 3) ls (.int 0 :: rest))) (k1 : ∀ t9 : Nat, t9 < 4 → ¬ t9 = 0 → cd_classifier n x = t9 → ∀ (H1 : Heap) (locs1 : List Loc), GW D B ad (Vw cy de ad S n T k th (Xl cy f g9)) H1 → va_S (AB B) s.heap H1 locs1 → W p l e R s m args below meth c H1 locs1 (cells + 3) (slots + 29) Q (F0 m (pc + 3) ls (.int (nI t9) :: rest))) : W p l e R s m args below meth c H locs cells slots Q (F0 m pc ls (.ref (ad 20 0 0) :: .int x :: .ref (ad 0 0 0) :: rest)) :=
  va_calli (rSW hC hS hG h0 (As := [.ref (ad 0 0 0), .int x, .ref (ad 20 0 0)]) (c_L_classifier l hfl) ⟨rfl, rfl⟩ wl sm_L_classifier in_L cd_L_classifier (n := 3) (by decide +kernel) hR rfl hsz hst rfl hdg hcs) hS (fun _ _ h => h) (fun _ h => h) (fun r u t H1 locs1 ht _ hr hB _ _ hS1 => by
    subst hr
    have hB9 := hB; try dsimp only at hB9
    rw [ht] at hB9
    rcases hB9 with ⟨rfl, q0, ad9, hA, hG1⟩ | ⟨t9, q1, q2, q3, rfl, hG1⟩
    · exact k0 q0 ad9 _ _ hA hG1 hS1
    · exact k1 t9 q1 q2 q3 _ _ hG1 hS1)
set_option maxHeartbeats 4000000 in
set_option maxRecDepth 100000 in
theorem c_L_kind (l : Launch) (hfl : l.stackTraces = false) {D : va_G} {cy : Nat → ClassId} {sa : Nat → Nat} {de B : Nat} {ad : Ad} {S : St} {n : Nat → Nat} {T : St} {k : Nat → Nat} {th : Int32} {f : Nat → Int64} {g9 : Nat → UInt64} {x y z w : Int32} : Met l yL_kind (Cond.codeWith yL_kind cL_kind 7 (Option.some Jvm.ClassFile.FieldType.int) [((0 : Nat), (14 : Nat), (17 : Nat), (21 : Nat)), ((0 : Nat), (14 : Nat), (21 : Nat), (15 : Nat))] :: G0) ({ frames := 9, cells := 4, slots := 40, locals := 216 } : Room) (va_Pc [.ref (ad 0 0 0), .int x, .int y, .int z, .int w, .ref (ad 20 0 0)] (PW D cy sa de B ad (Vw cy de ad S n T k th (Xl cy f g9)) (Inv S n))) (oI B (fun r H => (r = 0 ∧ cd_kind n x y z w = 0 ∧ ∃ ad9, Ag ad ad9 ∧ GW D B ad9 (Vw cy de ad9 (kiS S (n 2) x y z w) (nUp n 2) T k th (Xl cy (vp_updL f 0 (Int32.toInt64 (nI (n 2)))) g9)) H) ∨ (∃ t9 : Nat, t9 < 4 ∧ ¬ t9 = 0 ∧ cd_kind n x y z w = t9 ∧ r = nI t9 ∧ GW D B ad (Vw cy de ad S n T k th (Xl cy f g9)) H))) 4 40 (AB B) := by
  refine E_metW (own := RL) rfl rfl (Nat.le_of_ble_eq_true rfl) ?_
  intro p e s m below meth c hC hr hlk htab hG h0 ls hl
  have hx := hC.x
  have hb := hC.b
  have hS : va_S (AB B) s.heap s.heap [] := va_S.rf
  have hl : lo ls 7 [some (.ref (ad 0 0 0)), some (.int x), some (.int y), some (.int z), some (.int w), some (.ref (ad 20 0 0)), none] := lo_of hl
  refine o_aload hx hb dL_kind_0 hl rfl ?_
  refine lv_iconst (v := 0) hx hb dL_kind_2 (by decide) ?_
  refine o_aload_n hx hb dL_kind_3 hl rfl ?_
  refine o_iload_n hx hb dL_kind_4 hl rfl ?_
  refine o_iload_n hx hb dL_kind_5 hl rfl ?_
  refine o_iload_n hx hb dL_kind_6 hl rfl ?_
  refine o_iload hx hb dL_kind_7 hl rfl ?_
  refine vx_calli (xV hC hS hG ⟨h0, rfl⟩ (As := [.int x, .int y, .int z, .int w]) (c_X6_kind l hfl) ⟨rfl, rfl⟩ ml_L_35 im_X6_kind sl_X6_X6_kind in_X6 cd_X6_kind (n := 4) (by decide +kernel) ⟨(Nat.le_of_ble_eq_true rfl), (Nat.le_of_ble_eq_true rfl)⟩ (recv hC hG (q := (RX6, TX6, 6)) rfl V_games) rfl hl.1 (Nat.le_of_ble_eq_true rfl) rfl dL_kind_9 ⟨(Nat.le_of_ble_eq_true rfl), (Nat.le_of_ble_eq_true rfl)⟩) hS (fun _ _ h => h) (fun _ h => h) (fun _ _ h => h) (fun E ce q9 u t H1 locs1 ht hv hp hB hz hq hS1 hce hcv hcl => ?_) (fun r u t H1 locs1 ht _ hr1 hB _ _ hS1 => ?_)
  · (try dsimp only at hB)
    rw [ht] at hB
    obtain ⟨hE, hG1⟩ := hB
    rcases hE with ⟨rfl, hcd⟩ | ⟨rfl, hcd⟩
    · refine caught hC [] ⟨0, 14, 17, 21⟩ [⟨0, 14, 21, 15⟩] (htab.trans rfl) (fun z hz => absurd hz List.not_mem_nil) rfl (by decide) cl_L_21 (by decide) hce hcv hcl ?_
      refine o_astore hx hb dL_kind_17 hl (by decide) rfl (fun ls hl => ?_)
      refine lv_iconst (v := 1) hx hb dL_kind_19 (by decide) ?_
      exact R_I hC hS1 hr hlk rfl (Or.inr ⟨1, by decide, by decide, hcd, rfl, hG1⟩) (Nat.le_of_ble_eq_true rfl) (Nat.le_of_ble_eq_true rfl) dL_kind_20
    · refine caught hC [⟨0, 14, 17, 21⟩] ⟨0, 14, 21, 15⟩ [] (htab.trans rfl) (fun z hz => by
            cases List.mem_singleton.mp hz
            exact Or.inr ⟨by decide, _, hC.t _ cl_L_21, hC.k.2.2.2.2.1 (_, _) (by decide)⟩) rfl (by decide) cl_L_15 (by decide) hce hcv hcl ?_
      refine o_astore hx hb dL_kind_21 hl (by decide) rfl (fun ls hl => ?_)
      refine lv_iconst (v := 2) hx hb dL_kind_23 (by decide) ?_
      exact R_I hC hS1 hr hlk rfl (Or.inr ⟨2, by decide, by decide, hcd, rfl, hG1⟩) (Nat.le_of_ble_eq_true rfl) (Nat.le_of_ble_eq_true rfl) dL_kind_24
  · subst hr1
    (try dsimp only at hB)
    rw [ht] at hB
    obtain ⟨q0, rfl, ad9, hA, hG1⟩ := hB
    refine lv_i2l hx hb dL_kind_12 rfl ?_
    refine bn_2 (congrFun (congrFun (hA 20 (Or.inr (by decide))) _) _) ?_
    refine g_last hC hG1 hS1 V_out 0 rfl (by decide) (by decide) (up_Vw (by decide) Xl_out) dL_kind_13 (fun H locs hG hS => ?_)
    refine lv_goto (tgt := 25) hx hb dL_kind_14 (by decide) ?_
    refine lv_iconst (v := 0) hx hb dL_kind_25 (by decide) ?_
    exact R_I hC hS hr hlk rfl (Or.inl ⟨rfl, q0, ad9, hA, hG⟩) (Nat.le_of_ble_eq_true rfl) (Nat.le_of_ble_eq_true rfl) dL_kind_26
theorem k_L_kind {p : Program} {l : Launch} {e : Env} {R : Room} {s : State} {m : MethodId} {args : Array Value} {below : List Frame} {meth : Method} {c : Code} {H : Heap} {locs : List Loc} {cells slots : Nat} {Q : State → Prop} {cc : ByteArray} {pc nL : Nat} {ls : Array Slot} {rest : List Value} {own : String} {D : va_G} {cy : Nat → ClassId} {sa : Nat → Nat} {de B : Nat} {ad : Ad} {S : St} {n : Nat → Nat} {T : St} {k : Nat → Nat} {th : Int32} {f : Nat → Int64} {g9 : Nat → UInt64} {x y z w : Int32} (hfl : l.stackTraces = false) (hC : Cx p m c cc nL s args own D cy sa de B) (hS : va_S (AB B) s.heap H locs) (hG : GW D B ad (Vw cy de ad S n T k th (Xl cy f g9)) H) (h0 : Inv S n) {idx : Nat} (wl : Cond.methodLink own idx yL_kind ∈ G0) (hR : 9 + 1 ≤ R.frames ∧ 8 + (7 + 11) + 216 ≤ R.locals) (hsz : ls.size = nL) (hst : (rest.map fun v => v.category).sum ≤ 8) (hdg : decode cc pc = .ok (.invokestatic idx, 3)) (hcs : cells + 4 ≤ R.cells ∧ slots + 40 ≤ R.slots) (k0 : cd_kind n x y z w = 0 → ∀ (ad9 : Ad) (H1 : Heap) (locs1 : List Loc), Ag ad ad9 → GW D B ad9 (Vw cy de ad9 (kiS S (n 2) x y z w) (nUp n 2) T k th (Xl cy (vp_updL f 0 (Int32.toInt64 (nI (n 2)))) g9)) H1 → va_S (AB B) s.heap H1 locs1 → W p l e R s m args below meth c H1 locs1 (cells + 4) (slots + 40) Q (F0 m (pc + 3) ls (.int 0 :: rest))) (k1 : ∀ t9 : Nat, t9 < 4 → ¬ t9 = 0 → cd_kind n x y z w = t9 → ∀ (H1 : Heap) (locs1 : List Loc), GW D B ad (Vw cy de ad S n T k th (Xl cy f g9)) H1 → va_S (AB B) s.heap H1 locs1 → W p l e R s m args below meth c H1 locs1 (cells + 4) (slots + 40) Q (F0 m (pc + 3) ls (.int (nI t9) :: rest))) : W p l e R s m args below meth c H locs cells slots Q (F0 m pc ls (.ref (ad 20 0 0) :: .int w :: .int z :: .int y :: .int x :: .ref (ad 0 0 0) :: rest)) :=
  va_calli (rSW hC hS hG h0 (As := [.ref (ad 0 0 0), .int x, .int y, .int z, .int w, .ref (ad 20 0 0)]) (c_L_kind l hfl) ⟨rfl, rfl⟩ wl sm_L_kind in_L cd_L_kind (n := 6) (by decide +kernel) hR rfl hsz hst rfl hdg hcs) hS (fun _ _ h => h) (fun _ h => h) (fun r u t H1 locs1 ht _ hr hB _ _ hS1 => by
    subst hr
    have hB9 := hB; try dsimp only at hB9
    rw [ht] at hB9
    rcases hB9 with ⟨rfl, q0, ad9, hA, hG1⟩ | ⟨t9, q1, q2, q3, rfl, hG1⟩
    · exact k0 q0 ad9 _ _ hA hG1 hS1
    · exact k1 t9 q1 q2 q3 _ _ hG1 hS1)
set_option maxHeartbeats 4000000 in
set_option maxRecDepth 100000 in
theorem c_L_belongs (l : Launch) (hfl : l.stackTraces = false) {D : va_G} {cy : Nat → ClassId} {sa : Nat → Nat} {de B : Nat} {ad : Ad} {S : St} {n : Nat → Nat} {T : St} {k : Nat → Nat} {th : Int32} {f : Nat → Int64} {g9 : Nat → UInt64} {x : Int32} : Met l yL_belongs (Cond.codeWith yL_belongs cL_belongs 4 (Option.some Jvm.ClassFile.FieldType.int) [((0 : Nat), (9 : Nat), (12 : Nat), (13 : Nat))] :: G0) ({ frames := 8, cells := 1, slots := 6, locals := 124 } : Room) (va_Pc [.ref (ad 0 0 0), .int x, .ref (ad 20 0 0)] (PW D cy sa de B ad (Vw cy de ad S n T k th (Xl cy f g9)) (Inv S n))) (oI B (fun r H => (r = 0 ∧ cd_ath n x = 0 ∧ ∃ ad9, Ag ad ad9 ∧ GW D B ad9 (Vw cy de ad9 S n T k th (Xl cy (vp_updL f 0 (Int32.toInt64 (kbel S n (fMea S (ci x) 0)))) g9)) H) ∨ (∃ t9 : Nat, t9 < 4 ∧ ¬ t9 = 0 ∧ cd_ath n x = t9 ∧ r = nI t9 ∧ GW D B ad (Vw cy de ad S n T k th (Xl cy f g9)) H))) 1 6 (AB B) := by
  refine E_metW (own := RL) rfl rfl (Nat.le_of_ble_eq_true rfl) ?_
  intro p e s m below meth c hC hr hlk htab hG h0 ls hl
  have hx := hC.x
  have hb := hC.b
  have hS : va_S (AB B) s.heap s.heap [] := va_S.rf
  have hl : lo ls 4 [some (.ref (ad 0 0 0)), some (.int x), some (.ref (ad 20 0 0)), none] := lo_of hl
  refine o_aload_n hx hb dL_belongs_0 hl rfl ?_
  refine lv_iconst (v := 0) hx hb dL_belongs_1 (by decide) ?_
  refine o_aload_n hx hb dL_belongs_2 hl rfl ?_
  refine o_iload_n hx hb dL_belongs_3 hl rfl ?_
  refine vx_calli (xV hC hS hG h0.1 (As := [.int x]) (c_X6_belongs l hfl) ⟨rfl, rfl⟩ ml_L_39 im_X6_belongs sl_X6_X6_belongs in_X6 cd_X6_belongs (n := 1) (by decide +kernel) ⟨(Nat.le_of_ble_eq_true rfl), (Nat.le_of_ble_eq_true rfl)⟩ (recv hC hG (q := (RX6, TX6, 6)) rfl V_games) rfl hl.1 (Nat.le_of_ble_eq_true rfl) rfl dL_belongs_4 ⟨(Nat.le_of_ble_eq_true rfl), (Nat.le_of_ble_eq_true rfl)⟩) hS (fun _ _ h => h) (fun _ h => h) (fun _ _ h => h) (fun E ce q9 u t H1 locs1 ht hv hp hB hz hq hS1 hce hcv hcl => ?_) (fun r u t H1 locs1 ht _ hr1 hB _ _ hS1 => ?_)
  · (try dsimp only at hB)
    rw [ht] at hB
    obtain ⟨⟨rfl, hcd⟩, hG1⟩ := hB
    · refine caught hC [] ⟨0, 9, 12, 13⟩ [] (htab.trans rfl) (fun z hz => absurd hz List.not_mem_nil) rfl (by decide) cl_L_13 (by decide) hce hcv hcl ?_
      refine o_astore_n hx hb dL_belongs_12 hl (by decide) rfl (fun ls hl => ?_)
      refine lv_iconst (v := 1) hx hb dL_belongs_13 (by decide) ?_
      exact R_I hC hS1 hr hlk rfl (Or.inr ⟨1, by decide, by decide, hcd, rfl, hG1⟩) (Nat.le_of_ble_eq_true rfl) (Nat.le_of_ble_eq_true rfl) dL_belongs_14
  · subst hr1
    (try dsimp only at hB)
    rw [ht] at hB
    obtain ⟨q0, rfl, hG1⟩ := hB
    refine lv_i2l hx hb dL_belongs_7 rfl ?_
    refine g_last hC hG1 hS1 V_out 0 rfl (by decide) (by decide) (up_Vw (by decide) Xl_out) dL_belongs_8 (fun H locs hG hS => ?_)
    refine lv_goto (tgt := 15) hx hb dL_belongs_9 (by decide) ?_
    refine lv_iconst (v := 0) hx hb dL_belongs_15 (by decide) ?_
    exact R_I hC hS hr hlk rfl (Or.inl ⟨rfl, q0, ad, Ag.rf, hG⟩) (Nat.le_of_ble_eq_true rfl) (Nat.le_of_ble_eq_true rfl) dL_belongs_16
theorem k_L_belongs {p : Program} {l : Launch} {e : Env} {R : Room} {s : State} {m : MethodId} {args : Array Value} {below : List Frame} {meth : Method} {c : Code} {H : Heap} {locs : List Loc} {cells slots : Nat} {Q : State → Prop} {cc : ByteArray} {pc nL : Nat} {ls : Array Slot} {rest : List Value} {own : String} {D : va_G} {cy : Nat → ClassId} {sa : Nat → Nat} {de B : Nat} {ad : Ad} {S : St} {n : Nat → Nat} {T : St} {k : Nat → Nat} {th : Int32} {f : Nat → Int64} {g9 : Nat → UInt64} {x : Int32} (hfl : l.stackTraces = false) (hC : Cx p m c cc nL s args own D cy sa de B) (hS : va_S (AB B) s.heap H locs) (hG : GW D B ad (Vw cy de ad S n T k th (Xl cy f g9)) H) (h0 : Inv S n) {idx : Nat} (wl : Cond.methodLink own idx yL_belongs ∈ G0) (hR : 8 + 1 ≤ R.frames ∧ 8 + (4 + 11) + 124 ≤ R.locals) (hsz : ls.size = nL) (hst : (rest.map fun v => v.category).sum ≤ 8) (hdg : decode cc pc = .ok (.invokestatic idx, 3)) (hcs : cells + 1 ≤ R.cells ∧ slots + 6 ≤ R.slots) (k0 : cd_ath n x = 0 → ∀ (ad9 : Ad) (H1 : Heap) (locs1 : List Loc), Ag ad ad9 → GW D B ad9 (Vw cy de ad9 S n T k th (Xl cy (vp_updL f 0 (Int32.toInt64 (kbel S n (fMea S (ci x) 0)))) g9)) H1 → va_S (AB B) s.heap H1 locs1 → W p l e R s m args below meth c H1 locs1 (cells + 1) (slots + 6) Q (F0 m (pc + 3) ls (.int 0 :: rest))) (k1 : ∀ t9 : Nat, t9 < 4 → ¬ t9 = 0 → cd_ath n x = t9 → ∀ (H1 : Heap) (locs1 : List Loc), GW D B ad (Vw cy de ad S n T k th (Xl cy f g9)) H1 → va_S (AB B) s.heap H1 locs1 → W p l e R s m args below meth c H1 locs1 (cells + 1) (slots + 6) Q (F0 m (pc + 3) ls (.int (nI t9) :: rest))) : W p l e R s m args below meth c H locs cells slots Q (F0 m pc ls (.ref (ad 20 0 0) :: .int x :: .ref (ad 0 0 0) :: rest)) :=
  va_calli (rSW hC hS hG h0 (As := [.ref (ad 0 0 0), .int x, .ref (ad 20 0 0)]) (c_L_belongs l hfl) ⟨rfl, rfl⟩ wl sm_L_belongs in_L cd_L_belongs (n := 3) (by decide +kernel) hR rfl hsz hst rfl hdg hcs) hS (fun _ _ h => h) (fun _ h => h) (fun r u t H1 locs1 ht _ hr hB _ _ hS1 => by
    subst hr
    have hB9 := hB; try dsimp only at hB9
    rw [ht] at hB9
    rcases hB9 with ⟨rfl, q0, ad9, hA, hG1⟩ | ⟨t9, q1, q2, q3, rfl, hG1⟩
    · exact k0 q0 ad9 _ _ hA hG1 hS1
    · exact k1 t9 q1 q2 q3 _ _ hG1 hS1)
set_option maxHeartbeats 4000000 in
set_option maxRecDepth 100000 in
theorem c_L_test (l : Launch) (hfl : l.stackTraces = false) {D : va_G} {cy : Nat → ClassId} {sa : Nat → Nat} {de B : Nat} {ad : Ad} {S : St} {n : Nat → Nat} {T : St} {k : Nat → Nat} {th : Int32} {f : Nat → Int64} {g9 : Nat → UInt64} {x y z : Int32} : Met l yL_test (Cond.codeWith yL_test cL_test 6 (Option.some Jvm.ClassFile.FieldType.int) [((0 : Nat), (12 : Nat), (15 : Nat), (13 : Nat)), ((0 : Nat), (12 : Nat), (19 : Nat), (21 : Nat)), ((0 : Nat), (12 : Nat), (23 : Nat), (46 : Nat))] :: G0) ({ frames := 8, cells := 4, slots := 24, locals := 159 } : Room) (va_Pc [.ref (ad 0 0 0), .int x, .int y, .int z, .ref (ad 20 0 0)] (PW D cy sa de B ad (Vw cy de ad S n T k th (Xl cy f g9)) (Inv S n))) (oI B (fun r H => (r = 0 ∧ cd_test S n x y z = 0 ∧ ∃ ad9, Ag ad ad9 ∧ GW D B ad9 (Vw cy de ad9 (teS S n (ci x)) n T k th (Xl cy (vp_updL f 0 (Int32.toInt64 (teS S n (ci x) 9 (ci x) 0))) g9)) H) ∨ (∃ t9 : Nat, t9 < 4 ∧ ¬ t9 = 0 ∧ cd_test S n x y z = t9 ∧ r = nI t9 ∧ GW D B ad (Vw cy de ad S n T k th (Xl cy f g9)) H))) 4 24 (AB B) := by
  refine E_metW (own := RL) rfl rfl (Nat.le_of_ble_eq_true rfl) ?_
  intro p e s m below meth c hC hr hlk htab hG h0 ls hl
  have hx := hC.x
  have hb := hC.b
  have hS : va_S (AB B) s.heap s.heap [] := va_S.rf
  have hl : lo ls 6 [some (.ref (ad 0 0 0)), some (.int x), some (.int y), some (.int z), some (.ref (ad 20 0 0)), none] := lo_of hl
  refine o_aload hx hb dL_test_0 hl rfl ?_
  refine lv_iconst (v := 0) hx hb dL_test_2 (by decide) ?_
  refine o_aload_n hx hb dL_test_3 hl rfl ?_
  refine o_iload_n hx hb dL_test_4 hl rfl ?_
  refine o_iload_n hx hb dL_test_5 hl rfl ?_
  refine o_iload_n hx hb dL_test_6 hl rfl ?_
  refine vx_calli (xV hC hS hG h0.1 (As := [.int x, .int y, .int z]) (c_X6_test l hfl) ⟨rfl, rfl⟩ ml_L_42 im_X6_test sl_X6_X6_test in_X6 cd_X6_test (n := 3) (by decide +kernel) ⟨(Nat.le_of_ble_eq_true rfl), (Nat.le_of_ble_eq_true rfl)⟩ (recv hC hG (q := (RX6, TX6, 6)) rfl V_games) rfl hl.1 (Nat.le_of_ble_eq_true rfl) rfl dL_test_7 ⟨(Nat.le_of_ble_eq_true rfl), (Nat.le_of_ble_eq_true rfl)⟩) hS (fun _ _ h => h) (fun _ h => h) (fun _ _ h => h) (fun E ce q9 u t H1 locs1 ht hv hp hB hz hq hS1 hce hcv hcl => ?_) (fun r u t H1 locs1 ht _ hr1 hB _ _ hS1 => ?_)
  · (try dsimp only at hB)
    rw [ht] at hB
    obtain ⟨hE, hG1⟩ := hB
    rcases hE with ⟨rfl, hcd⟩ | ⟨rfl, hcd⟩ | ⟨rfl, hcd⟩
    · refine caught hC [] ⟨0, 12, 15, 13⟩ [⟨0, 12, 19, 21⟩, ⟨0, 12, 23, 46⟩] (htab.trans rfl) (fun z hz => absurd hz List.not_mem_nil) rfl (by decide) cl_L_13 (by decide) hce hcv hcl ?_
      refine o_astore hx hb dL_test_15 hl (by decide) rfl (fun ls hl => ?_)
      refine lv_iconst (v := 1) hx hb dL_test_17 (by decide) ?_
      exact R_I hC hS1 hr hlk rfl (Or.inr ⟨1, by decide, by decide, hcd, rfl, hG1⟩) (Nat.le_of_ble_eq_true rfl) (Nat.le_of_ble_eq_true rfl) dL_test_18
    · refine caught hC [⟨0, 12, 15, 13⟩] ⟨0, 12, 19, 21⟩ [⟨0, 12, 23, 46⟩] (htab.trans rfl) (fun z hz => by
            cases List.mem_singleton.mp hz
            exact Or.inr ⟨by decide, _, hC.t _ cl_L_13, hC.k.2.2.2.2.1 (_, _) (by decide)⟩) rfl (by decide) cl_L_21 (by decide) hce hcv hcl ?_
      refine o_astore hx hb dL_test_19 hl (by decide) rfl (fun ls hl => ?_)
      refine lv_iconst (v := 2) hx hb dL_test_21 (by decide) ?_
      exact R_I hC hS1 hr hlk rfl (Or.inr ⟨2, by decide, by decide, hcd, rfl, hG1⟩) (Nat.le_of_ble_eq_true rfl) (Nat.le_of_ble_eq_true rfl) dL_test_22
    · refine caught hC [⟨0, 12, 15, 13⟩, ⟨0, 12, 19, 21⟩] ⟨0, 12, 23, 46⟩ [] (htab.trans rfl) (fun z hz => by
            rcases List.mem_cons.mp hz with h | h
            · cases h; exact Or.inr ⟨by decide, _, hC.t _ cl_L_13, hC.k.2.2.2.2.1 (_, _) (by decide)⟩
            · cases List.mem_singleton.mp h; exact Or.inr ⟨by decide, _, hC.t _ cl_L_21, hC.k.2.2.2.2.1 (_, _) (by decide)⟩) rfl (by decide) cl_L_46 (by decide) hce hcv hcl ?_
      refine o_astore hx hb dL_test_23 hl (by decide) rfl (fun ls hl => ?_)
      refine lv_iconst (v := 3) hx hb dL_test_25 (by decide) ?_
      exact R_I hC hS1 hr hlk rfl (Or.inr ⟨3, by decide, by decide, hcd, rfl, hG1⟩) (Nat.le_of_ble_eq_true rfl) (Nat.le_of_ble_eq_true rfl) dL_test_26
  · subst hr1
    (try dsimp only at hB)
    rw [ht] at hB
    obtain ⟨q0, rfl, hG1⟩ := hB
    refine lv_i2l hx hb dL_test_10 rfl ?_
    refine g_last hC hG1 hS1 V_out 0 rfl (by decide) (by decide) (up_Vw (by decide) Xl_out) dL_test_11 (fun H locs hG hS => ?_)
    refine lv_goto (tgt := 27) hx hb dL_test_12 (by decide) ?_
    refine lv_iconst (v := 0) hx hb dL_test_27 (by decide) ?_
    exact R_I hC hS hr hlk rfl (Or.inl ⟨rfl, q0, ad, Ag.rf, hG⟩) (Nat.le_of_ble_eq_true rfl) (Nat.le_of_ble_eq_true rfl) dL_test_28
theorem k_L_test {p : Program} {l : Launch} {e : Env} {R : Room} {s : State} {m : MethodId} {args : Array Value} {below : List Frame} {meth : Method} {c : Code} {H : Heap} {locs : List Loc} {cells slots : Nat} {Q : State → Prop} {cc : ByteArray} {pc nL : Nat} {ls : Array Slot} {rest : List Value} {own : String} {D : va_G} {cy : Nat → ClassId} {sa : Nat → Nat} {de B : Nat} {ad : Ad} {S : St} {n : Nat → Nat} {T : St} {k : Nat → Nat} {th : Int32} {f : Nat → Int64} {g9 : Nat → UInt64} {x y z : Int32} (hfl : l.stackTraces = false) (hC : Cx p m c cc nL s args own D cy sa de B) (hS : va_S (AB B) s.heap H locs) (hG : GW D B ad (Vw cy de ad S n T k th (Xl cy f g9)) H) (h0 : Inv S n) {idx : Nat} (wl : Cond.methodLink own idx yL_test ∈ G0) (hR : 8 + 1 ≤ R.frames ∧ 8 + (6 + 11) + 159 ≤ R.locals) (hsz : ls.size = nL) (hst : (rest.map fun v => v.category).sum ≤ 8) (hdg : decode cc pc = .ok (.invokestatic idx, 3)) (hcs : cells + 4 ≤ R.cells ∧ slots + 24 ≤ R.slots) (k0 : cd_test S n x y z = 0 → ∀ (ad9 : Ad) (H1 : Heap) (locs1 : List Loc), Ag ad ad9 → GW D B ad9 (Vw cy de ad9 (teS S n (ci x)) n T k th (Xl cy (vp_updL f 0 (Int32.toInt64 (teS S n (ci x) 9 (ci x) 0))) g9)) H1 → va_S (AB B) s.heap H1 locs1 → W p l e R s m args below meth c H1 locs1 (cells + 4) (slots + 24) Q (F0 m (pc + 3) ls (.int 0 :: rest))) (k1 : ∀ t9 : Nat, t9 < 4 → ¬ t9 = 0 → cd_test S n x y z = t9 → ∀ (H1 : Heap) (locs1 : List Loc), GW D B ad (Vw cy de ad S n T k th (Xl cy f g9)) H1 → va_S (AB B) s.heap H1 locs1 → W p l e R s m args below meth c H1 locs1 (cells + 4) (slots + 24) Q (F0 m (pc + 3) ls (.int (nI t9) :: rest))) : W p l e R s m args below meth c H locs cells slots Q (F0 m pc ls (.ref (ad 20 0 0) :: .int z :: .int y :: .int x :: .ref (ad 0 0 0) :: rest)) :=
  va_calli (rSW hC hS hG h0 (As := [.ref (ad 0 0 0), .int x, .int y, .int z, .ref (ad 20 0 0)]) (c_L_test l hfl) ⟨rfl, rfl⟩ wl sm_L_test in_L cd_L_test (n := 5) (by decide +kernel) hR rfl hsz hst rfl hdg hcs) hS (fun _ _ h => h) (fun _ h => h) (fun r u t H1 locs1 ht _ hr hB _ _ hS1 => by
    subst hr
    have hB9 := hB; try dsimp only at hB9
    rw [ht] at hB9
    rcases hB9 with ⟨rfl, q0, ad9, hA, hG1⟩ | ⟨t9, q1, q2, q3, rfl, hG1⟩
    · exact k0 q0 ad9 _ _ hA hG1 hS1
    · exact k1 t9 q1 q2 q3 _ _ hG1 hS1)
set_option maxHeartbeats 4000000 in
set_option maxRecDepth 100000 in
theorem c_L_status (l : Launch) (hfl : l.stackTraces = false) {D : va_G} {cy : Nat → ClassId} {sa : Nat → Nat} {de B : Nat} {ad : Ad} {S : St} {n : Nat → Nat} {T : St} {k : Nat → Nat} {th : Int32} {f : Nat → Int64} {g9 : Nat → UInt64} {x : Int32} : Met l yL_status (Cond.codeWith yL_status cL_status 4 (Option.some Jvm.ClassFile.FieldType.int) [((0 : Nat), (9 : Nat), (12 : Nat), (13 : Nat))] :: G0) ({ frames := 8, cells := 1, slots := 6, locals := 124 } : Room) (va_Pc [.ref (ad 0 0 0), .int x, .ref (ad 20 0 0)] (PW D cy sa de B ad (Vw cy de ad S n T k th (Xl cy f g9)) (Inv S n))) (oI B (fun r H => (r = 0 ∧ cd_ath n x = 0 ∧ ∃ ad9, Ag ad ad9 ∧ GW D B ad9 (Vw cy de ad9 S n T k th (Xl cy (vp_updL f 0 (Int32.toInt64 (S 9 (ci x) 0))) g9)) H) ∨ (∃ t9 : Nat, t9 < 4 ∧ ¬ t9 = 0 ∧ cd_ath n x = t9 ∧ r = nI t9 ∧ GW D B ad (Vw cy de ad S n T k th (Xl cy f g9)) H))) 1 6 (AB B) := by
  refine E_metW (own := RL) rfl rfl (Nat.le_of_ble_eq_true rfl) ?_
  intro p e s m below meth c hC hr hlk htab hG h0 ls hl
  have hx := hC.x
  have hb := hC.b
  have hS : va_S (AB B) s.heap s.heap [] := va_S.rf
  have hl : lo ls 4 [some (.ref (ad 0 0 0)), some (.int x), some (.ref (ad 20 0 0)), none] := lo_of hl
  refine o_aload_n hx hb dL_status_0 hl rfl ?_
  refine lv_iconst (v := 0) hx hb dL_status_1 (by decide) ?_
  refine o_aload_n hx hb dL_status_2 hl rfl ?_
  refine o_iload_n hx hb dL_status_3 hl rfl ?_
  refine vx_calli (xV hC hS hG h0.1 (As := [.int x]) (c_X6_status l hfl) ⟨rfl, rfl⟩ ml_L_48 im_X6_status sl_X6_X6_status in_X6 cd_X6_status (n := 1) (by decide +kernel) ⟨(Nat.le_of_ble_eq_true rfl), (Nat.le_of_ble_eq_true rfl)⟩ (recv hC hG (q := (RX6, TX6, 6)) rfl V_games) rfl hl.1 (Nat.le_of_ble_eq_true rfl) rfl dL_status_4 ⟨(Nat.le_of_ble_eq_true rfl), (Nat.le_of_ble_eq_true rfl)⟩) hS (fun _ _ h => h) (fun _ h => h) (fun _ _ h => h) (fun E ce q9 u t H1 locs1 ht hv hp hB hz hq hS1 hce hcv hcl => ?_) (fun r u t H1 locs1 ht _ hr1 hB _ _ hS1 => ?_)
  · (try dsimp only at hB)
    rw [ht] at hB
    obtain ⟨⟨rfl, hcd⟩, hG1⟩ := hB
    · refine caught hC [] ⟨0, 9, 12, 13⟩ [] (htab.trans rfl) (fun z hz => absurd hz List.not_mem_nil) rfl (by decide) cl_L_13 (by decide) hce hcv hcl ?_
      refine o_astore_n hx hb dL_status_12 hl (by decide) rfl (fun ls hl => ?_)
      refine lv_iconst (v := 1) hx hb dL_status_13 (by decide) ?_
      exact R_I hC hS1 hr hlk rfl (Or.inr ⟨1, by decide, by decide, hcd, rfl, hG1⟩) (Nat.le_of_ble_eq_true rfl) (Nat.le_of_ble_eq_true rfl) dL_status_14
  · subst hr1
    (try dsimp only at hB)
    rw [ht] at hB
    obtain ⟨q0, rfl, hG1⟩ := hB
    refine lv_i2l hx hb dL_status_7 rfl ?_
    refine g_last hC hG1 hS1 V_out 0 rfl (by decide) (by decide) (up_Vw (by decide) Xl_out) dL_status_8 (fun H locs hG hS => ?_)
    refine lv_goto (tgt := 15) hx hb dL_status_9 (by decide) ?_
    refine lv_iconst (v := 0) hx hb dL_status_15 (by decide) ?_
    exact R_I hC hS hr hlk rfl (Or.inl ⟨rfl, q0, ad, Ag.rf, hG⟩) (Nat.le_of_ble_eq_true rfl) (Nat.le_of_ble_eq_true rfl) dL_status_16
theorem k_L_status {p : Program} {l : Launch} {e : Env} {R : Room} {s : State} {m : MethodId} {args : Array Value} {below : List Frame} {meth : Method} {c : Code} {H : Heap} {locs : List Loc} {cells slots : Nat} {Q : State → Prop} {cc : ByteArray} {pc nL : Nat} {ls : Array Slot} {rest : List Value} {own : String} {D : va_G} {cy : Nat → ClassId} {sa : Nat → Nat} {de B : Nat} {ad : Ad} {S : St} {n : Nat → Nat} {T : St} {k : Nat → Nat} {th : Int32} {f : Nat → Int64} {g9 : Nat → UInt64} {x : Int32} (hfl : l.stackTraces = false) (hC : Cx p m c cc nL s args own D cy sa de B) (hS : va_S (AB B) s.heap H locs) (hG : GW D B ad (Vw cy de ad S n T k th (Xl cy f g9)) H) (h0 : Inv S n) {idx : Nat} (wl : Cond.methodLink own idx yL_status ∈ G0) (hR : 8 + 1 ≤ R.frames ∧ 8 + (4 + 11) + 124 ≤ R.locals) (hsz : ls.size = nL) (hst : (rest.map fun v => v.category).sum ≤ 8) (hdg : decode cc pc = .ok (.invokestatic idx, 3)) (hcs : cells + 1 ≤ R.cells ∧ slots + 6 ≤ R.slots) (k0 : cd_ath n x = 0 → ∀ (ad9 : Ad) (H1 : Heap) (locs1 : List Loc), Ag ad ad9 → GW D B ad9 (Vw cy de ad9 S n T k th (Xl cy (vp_updL f 0 (Int32.toInt64 (S 9 (ci x) 0))) g9)) H1 → va_S (AB B) s.heap H1 locs1 → W p l e R s m args below meth c H1 locs1 (cells + 1) (slots + 6) Q (F0 m (pc + 3) ls (.int 0 :: rest))) (k1 : ∀ t9 : Nat, t9 < 4 → ¬ t9 = 0 → cd_ath n x = t9 → ∀ (H1 : Heap) (locs1 : List Loc), GW D B ad (Vw cy de ad S n T k th (Xl cy f g9)) H1 → va_S (AB B) s.heap H1 locs1 → W p l e R s m args below meth c H1 locs1 (cells + 1) (slots + 6) Q (F0 m (pc + 3) ls (.int (nI t9) :: rest))) : W p l e R s m args below meth c H locs cells slots Q (F0 m pc ls (.ref (ad 20 0 0) :: .int x :: .ref (ad 0 0 0) :: rest)) :=
  va_calli (rSW hC hS hG h0 (As := [.ref (ad 0 0 0), .int x, .ref (ad 20 0 0)]) (c_L_status l hfl) ⟨rfl, rfl⟩ wl sm_L_status in_L cd_L_status (n := 3) (by decide +kernel) hR rfl hsz hst rfl hdg hcs) hS (fun _ _ h => h) (fun _ h => h) (fun r u t H1 locs1 ht _ hr hB _ _ hS1 => by
    subst hr
    have hB9 := hB; try dsimp only at hB9
    rw [ht] at hB9
    rcases hB9 with ⟨rfl, q0, ad9, hA, hG1⟩ | ⟨t9, q1, q2, q3, rfl, hG1⟩
    · exact k0 q0 ad9 _ _ hA hG1 hS1
    · exact k1 t9 q1 q2 q3 _ _ hG1 hS1)
set_option maxHeartbeats 4000000 in
set_option maxRecDepth 100000 in
theorem c_L_classOf (l : Launch) (hfl : l.stackTraces = false) {D : va_G} {cy : Nat → ClassId} {sa : Nat → Nat} {de B : Nat} {ad : Ad} {S : St} {n : Nat → Nat} {T : St} {k : Nat → Nat} {th : Int32} {f : Nat → Int64} {g9 : Nat → UInt64} {x : Int32} : Met l yL_classOf (Cond.codeWith yL_classOf cL_classOf 4 (Option.some Jvm.ClassFile.FieldType.int) [((0 : Nat), (9 : Nat), (12 : Nat), (13 : Nat))] :: G0) ({ frames := 8, cells := 1, slots := 6, locals := 124 } : Room) (va_Pc [.ref (ad 0 0 0), .int x, .ref (ad 20 0 0)] (PW D cy sa de B ad (Vw cy de ad S n T k th (Xl cy f g9)) (Inv S n))) (oI B (fun r H => (r = 0 ∧ cd_ath n x = 0 ∧ ∃ ad9, Ag ad ad9 ∧ GW D B ad9 (Vw cy de ad9 S n T k th (Xl cy (vp_updL f 0 (Int32.toInt64 (S 10 (ci x) 0))) g9)) H) ∨ (∃ t9 : Nat, t9 < 4 ∧ ¬ t9 = 0 ∧ cd_ath n x = t9 ∧ r = nI t9 ∧ GW D B ad (Vw cy de ad S n T k th (Xl cy f g9)) H))) 1 6 (AB B) := by
  refine E_metW (own := RL) rfl rfl (Nat.le_of_ble_eq_true rfl) ?_
  intro p e s m below meth c hC hr hlk htab hG h0 ls hl
  have hx := hC.x
  have hb := hC.b
  have hS : va_S (AB B) s.heap s.heap [] := va_S.rf
  have hl : lo ls 4 [some (.ref (ad 0 0 0)), some (.int x), some (.ref (ad 20 0 0)), none] := lo_of hl
  refine o_aload_n hx hb dL_classOf_0 hl rfl ?_
  refine lv_iconst (v := 0) hx hb dL_classOf_1 (by decide) ?_
  refine o_aload_n hx hb dL_classOf_2 hl rfl ?_
  refine o_iload_n hx hb dL_classOf_3 hl rfl ?_
  refine vx_calli (xV hC hS hG h0.1 (As := [.int x]) (c_X6_classOf l hfl) ⟨rfl, rfl⟩ ml_L_52 im_X6_classOf sl_X6_X6_classOf in_X6 cd_X6_classOf (n := 1) (by decide +kernel) ⟨(Nat.le_of_ble_eq_true rfl), (Nat.le_of_ble_eq_true rfl)⟩ (recv hC hG (q := (RX6, TX6, 6)) rfl V_games) rfl hl.1 (Nat.le_of_ble_eq_true rfl) rfl dL_classOf_4 ⟨(Nat.le_of_ble_eq_true rfl), (Nat.le_of_ble_eq_true rfl)⟩) hS (fun _ _ h => h) (fun _ h => h) (fun _ _ h => h) (fun E ce q9 u t H1 locs1 ht hv hp hB hz hq hS1 hce hcv hcl => ?_) (fun r u t H1 locs1 ht _ hr1 hB _ _ hS1 => ?_)
  · (try dsimp only at hB)
    rw [ht] at hB
    obtain ⟨⟨rfl, hcd⟩, hG1⟩ := hB
    · refine caught hC [] ⟨0, 9, 12, 13⟩ [] (htab.trans rfl) (fun z hz => absurd hz List.not_mem_nil) rfl (by decide) cl_L_13 (by decide) hce hcv hcl ?_
      refine o_astore_n hx hb dL_classOf_12 hl (by decide) rfl (fun ls hl => ?_)
      refine lv_iconst (v := 1) hx hb dL_classOf_13 (by decide) ?_
      exact R_I hC hS1 hr hlk rfl (Or.inr ⟨1, by decide, by decide, hcd, rfl, hG1⟩) (Nat.le_of_ble_eq_true rfl) (Nat.le_of_ble_eq_true rfl) dL_classOf_14
  · subst hr1
    (try dsimp only at hB)
    rw [ht] at hB
    obtain ⟨q0, rfl, hG1⟩ := hB
    refine lv_i2l hx hb dL_classOf_7 rfl ?_
    refine g_last hC hG1 hS1 V_out 0 rfl (by decide) (by decide) (up_Vw (by decide) Xl_out) dL_classOf_8 (fun H locs hG hS => ?_)
    refine lv_goto (tgt := 15) hx hb dL_classOf_9 (by decide) ?_
    refine lv_iconst (v := 0) hx hb dL_classOf_15 (by decide) ?_
    exact R_I hC hS hr hlk rfl (Or.inl ⟨rfl, q0, ad, Ag.rf, hG⟩) (Nat.le_of_ble_eq_true rfl) (Nat.le_of_ble_eq_true rfl) dL_classOf_16
theorem k_L_classOf {p : Program} {l : Launch} {e : Env} {R : Room} {s : State} {m : MethodId} {args : Array Value} {below : List Frame} {meth : Method} {c : Code} {H : Heap} {locs : List Loc} {cells slots : Nat} {Q : State → Prop} {cc : ByteArray} {pc nL : Nat} {ls : Array Slot} {rest : List Value} {own : String} {D : va_G} {cy : Nat → ClassId} {sa : Nat → Nat} {de B : Nat} {ad : Ad} {S : St} {n : Nat → Nat} {T : St} {k : Nat → Nat} {th : Int32} {f : Nat → Int64} {g9 : Nat → UInt64} {x : Int32} (hfl : l.stackTraces = false) (hC : Cx p m c cc nL s args own D cy sa de B) (hS : va_S (AB B) s.heap H locs) (hG : GW D B ad (Vw cy de ad S n T k th (Xl cy f g9)) H) (h0 : Inv S n) {idx : Nat} (wl : Cond.methodLink own idx yL_classOf ∈ G0) (hR : 8 + 1 ≤ R.frames ∧ 8 + (4 + 11) + 124 ≤ R.locals) (hsz : ls.size = nL) (hst : (rest.map fun v => v.category).sum ≤ 8) (hdg : decode cc pc = .ok (.invokestatic idx, 3)) (hcs : cells + 1 ≤ R.cells ∧ slots + 6 ≤ R.slots) (k0 : cd_ath n x = 0 → ∀ (ad9 : Ad) (H1 : Heap) (locs1 : List Loc), Ag ad ad9 → GW D B ad9 (Vw cy de ad9 S n T k th (Xl cy (vp_updL f 0 (Int32.toInt64 (S 10 (ci x) 0))) g9)) H1 → va_S (AB B) s.heap H1 locs1 → W p l e R s m args below meth c H1 locs1 (cells + 1) (slots + 6) Q (F0 m (pc + 3) ls (.int 0 :: rest))) (k1 : ∀ t9 : Nat, t9 < 4 → ¬ t9 = 0 → cd_ath n x = t9 → ∀ (H1 : Heap) (locs1 : List Loc), GW D B ad (Vw cy de ad S n T k th (Xl cy f g9)) H1 → va_S (AB B) s.heap H1 locs1 → W p l e R s m args below meth c H1 locs1 (cells + 1) (slots + 6) Q (F0 m (pc + 3) ls (.int (nI t9) :: rest))) : W p l e R s m args below meth c H locs cells slots Q (F0 m pc ls (.ref (ad 20 0 0) :: .int x :: .ref (ad 0 0 0) :: rest)) :=
  va_calli (rSW hC hS hG h0 (As := [.ref (ad 0 0 0), .int x, .ref (ad 20 0 0)]) (c_L_classOf l hfl) ⟨rfl, rfl⟩ wl sm_L_classOf in_L cd_L_classOf (n := 3) (by decide +kernel) hR rfl hsz hst rfl hdg hcs) hS (fun _ _ h => h) (fun _ h => h) (fun r u t H1 locs1 ht _ hr hB _ _ hS1 => by
    subst hr
    have hB9 := hB; try dsimp only at hB9
    rw [ht] at hB9
    rcases hB9 with ⟨rfl, q0, ad9, hA, hG1⟩ | ⟨t9, q1, q2, q3, rfl, hG1⟩
    · exact k0 q0 ad9 _ _ hA hG1 hS1
    · exact k1 t9 q1 q2 q3 _ _ hG1 hS1)
set_option maxHeartbeats 4000000 in
set_option maxRecDepth 100000 in
theorem c_L_watch (l : Launch) (hfl : l.stackTraces = false) {D : va_G} {cy : Nat → ClassId} {sa : Nat → Nat} {de B : Nat} {ad : Ad} {S : St} {n : Nat → Nat} {T : St} {k : Nat → Nat} {th : Int32} {f : Nat → Int64} {g9 : Nat → UInt64} {x : Int32} : Met l yL_watch (Cond.codeWith yL_watch cL_watch 4 (Option.some Jvm.ClassFile.FieldType.int) [((0 : Nat), (9 : Nat), (12 : Nat), (13 : Nat)), ((0 : Nat), (9 : Nat), (15 : Nat), (46 : Nat))] :: G0) ({ frames := 8, cells := 2, slots := 12, locals := 177 } : Room) (va_Pc [.ref (ad 0 0 0), .int x, .ref (ad 20 0 0)] (PW D cy sa de B ad (Vw cy de ad S n T k th (Xl cy f g9)) (Inv S n))) (oI B (fun r H => (r = 0 ∧ cd_watch S n x = 0 ∧ ∃ ad9, Ag ad ad9 ∧ GW D B ad9 (Vw cy de ad9 (exJ S n (ci x)) n T k th (Xl cy (vp_updL f 0 (Int32.toInt64 (exJ S n (ci x) 9 (ci x) 0))) g9)) H) ∨ (∃ t9 : Nat, t9 < 4 ∧ ¬ t9 = 0 ∧ cd_watch S n x = t9 ∧ r = nI t9 ∧ GW D B ad (Vw cy de ad S n T k th (Xl cy f g9)) H))) 2 12 (AB B) := by
  refine E_metW (own := RL) rfl rfl (Nat.le_of_ble_eq_true rfl) ?_
  intro p e s m below meth c hC hr hlk htab hG h0 ls hl
  have hx := hC.x
  have hb := hC.b
  have hS : va_S (AB B) s.heap s.heap [] := va_S.rf
  have hl : lo ls 4 [some (.ref (ad 0 0 0)), some (.int x), some (.ref (ad 20 0 0)), none] := lo_of hl
  refine o_aload_n hx hb dL_watch_0 hl rfl ?_
  refine lv_iconst (v := 0) hx hb dL_watch_1 (by decide) ?_
  refine o_aload_n hx hb dL_watch_2 hl rfl ?_
  refine o_iload_n hx hb dL_watch_3 hl rfl ?_
  refine vx_calli (xV hC hS hG h0.1 (As := [.int x]) (c_X6_watch l hfl) ⟨rfl, rfl⟩ ml_L_55 im_X6_watch sl_X6_X6_watch in_X6 cd_X6_watch (n := 1) (by decide +kernel) ⟨(Nat.le_of_ble_eq_true rfl), (Nat.le_of_ble_eq_true rfl)⟩ (recv hC hG (q := (RX6, TX6, 6)) rfl V_games) rfl hl.1 (Nat.le_of_ble_eq_true rfl) rfl dL_watch_4 ⟨(Nat.le_of_ble_eq_true rfl), (Nat.le_of_ble_eq_true rfl)⟩) hS (fun _ _ h => h) (fun _ h => h) (fun _ _ h => h) (fun E ce q9 u t H1 locs1 ht hv hp hB hz hq hS1 hce hcv hcl => ?_) (fun r u t H1 locs1 ht _ hr1 hB _ _ hS1 => ?_)
  · (try dsimp only at hB)
    rw [ht] at hB
    obtain ⟨hE, hG1⟩ := hB
    rcases hE with ⟨rfl, hcd⟩ | ⟨rfl, hcd⟩
    · refine caught hC [] ⟨0, 9, 12, 13⟩ [⟨0, 9, 15, 46⟩] (htab.trans rfl) (fun z hz => absurd hz List.not_mem_nil) rfl (by decide) cl_L_13 (by decide) hce hcv hcl ?_
      refine o_astore_n hx hb dL_watch_12 hl (by decide) rfl (fun ls hl => ?_)
      refine lv_iconst (v := 1) hx hb dL_watch_13 (by decide) ?_
      exact R_I hC hS1 hr hlk rfl (Or.inr ⟨1, by decide, by decide, hcd, rfl, hG1⟩) (Nat.le_of_ble_eq_true rfl) (Nat.le_of_ble_eq_true rfl) dL_watch_14
    · refine caught hC [⟨0, 9, 12, 13⟩] ⟨0, 9, 15, 46⟩ [] (htab.trans rfl) (fun z hz => by
            cases List.mem_singleton.mp hz
            exact Or.inr ⟨by decide, _, hC.t _ cl_L_13, hC.k.2.2.2.2.1 (_, _) (by decide)⟩) rfl (by decide) cl_L_46 (by decide) hce hcv hcl ?_
      refine o_astore_n hx hb dL_watch_15 hl (by decide) rfl (fun ls hl => ?_)
      refine lv_iconst (v := 2) hx hb dL_watch_16 (by decide) ?_
      exact R_I hC hS1 hr hlk rfl (Or.inr ⟨2, by decide, by decide, hcd, rfl, hG1⟩) (Nat.le_of_ble_eq_true rfl) (Nat.le_of_ble_eq_true rfl) dL_watch_17
  · subst hr1
    (try dsimp only at hB)
    rw [ht] at hB
    obtain ⟨q0, rfl, hG1⟩ := hB
    refine lv_i2l hx hb dL_watch_7 rfl ?_
    refine g_last hC hG1 hS1 V_out 0 rfl (by decide) (by decide) (up_Vw (by decide) Xl_out) dL_watch_8 (fun H locs hG hS => ?_)
    refine lv_goto (tgt := 18) hx hb dL_watch_9 (by decide) ?_
    refine lv_iconst (v := 0) hx hb dL_watch_18 (by decide) ?_
    exact R_I hC hS hr hlk rfl (Or.inl ⟨rfl, q0, ad, Ag.rf, hG⟩) (Nat.le_of_ble_eq_true rfl) (Nat.le_of_ble_eq_true rfl) dL_watch_19
theorem k_L_watch {p : Program} {l : Launch} {e : Env} {R : Room} {s : State} {m : MethodId} {args : Array Value} {below : List Frame} {meth : Method} {c : Code} {H : Heap} {locs : List Loc} {cells slots : Nat} {Q : State → Prop} {cc : ByteArray} {pc nL : Nat} {ls : Array Slot} {rest : List Value} {own : String} {D : va_G} {cy : Nat → ClassId} {sa : Nat → Nat} {de B : Nat} {ad : Ad} {S : St} {n : Nat → Nat} {T : St} {k : Nat → Nat} {th : Int32} {f : Nat → Int64} {g9 : Nat → UInt64} {x : Int32} (hfl : l.stackTraces = false) (hC : Cx p m c cc nL s args own D cy sa de B) (hS : va_S (AB B) s.heap H locs) (hG : GW D B ad (Vw cy de ad S n T k th (Xl cy f g9)) H) (h0 : Inv S n) {idx : Nat} (wl : Cond.methodLink own idx yL_watch ∈ G0) (hR : 8 + 1 ≤ R.frames ∧ 8 + (4 + 11) + 177 ≤ R.locals) (hsz : ls.size = nL) (hst : (rest.map fun v => v.category).sum ≤ 8) (hdg : decode cc pc = .ok (.invokestatic idx, 3)) (hcs : cells + 2 ≤ R.cells ∧ slots + 12 ≤ R.slots) (k0 : cd_watch S n x = 0 → ∀ (ad9 : Ad) (H1 : Heap) (locs1 : List Loc), Ag ad ad9 → GW D B ad9 (Vw cy de ad9 (exJ S n (ci x)) n T k th (Xl cy (vp_updL f 0 (Int32.toInt64 (exJ S n (ci x) 9 (ci x) 0))) g9)) H1 → va_S (AB B) s.heap H1 locs1 → W p l e R s m args below meth c H1 locs1 (cells + 2) (slots + 12) Q (F0 m (pc + 3) ls (.int 0 :: rest))) (k1 : ∀ t9 : Nat, t9 < 4 → ¬ t9 = 0 → cd_watch S n x = t9 → ∀ (H1 : Heap) (locs1 : List Loc), GW D B ad (Vw cy de ad S n T k th (Xl cy f g9)) H1 → va_S (AB B) s.heap H1 locs1 → W p l e R s m args below meth c H1 locs1 (cells + 2) (slots + 12) Q (F0 m (pc + 3) ls (.int (nI t9) :: rest))) : W p l e R s m args below meth c H locs cells slots Q (F0 m pc ls (.ref (ad 20 0 0) :: .int x :: .ref (ad 0 0 0) :: rest)) :=
  va_calli (rSW hC hS hG h0 (As := [.ref (ad 0 0 0), .int x, .ref (ad 20 0 0)]) (c_L_watch l hfl) ⟨rfl, rfl⟩ wl sm_L_watch in_L cd_L_watch (n := 3) (by decide +kernel) hR rfl hsz hst rfl hdg hcs) hS (fun _ _ h => h) (fun _ h => h) (fun r u t H1 locs1 ht _ hr hB _ _ hS1 => by
    subst hr
    have hB9 := hB; try dsimp only at hB9
    rw [ht] at hB9
    rcases hB9 with ⟨rfl, q0, ad9, hA, hG1⟩ | ⟨t9, q1, q2, q3, rfl, hG1⟩
    · exact k0 q0 ad9 _ _ hA hG1 hS1
    · exact k1 t9 q1 q2 q3 _ _ hG1 hS1)
set_option maxHeartbeats 4000000 in
set_option maxRecDepth 100000 in
theorem c_L_protest (l : Launch) (hfl : l.stackTraces = false) {D : va_G} {cy : Nat → ClassId} {sa : Nat → Nat} {de B : Nat} {ad : Ad} {S : St} {n : Nat → Nat} {T : St} {k : Nat → Nat} {th : Int32} {f : Nat → Int64} {g9 : Nat → UInt64} {x y : Int32} : Met l yL_protest (Cond.codeWith yL_protest cL_protest 5 (Option.some Jvm.ClassFile.FieldType.int) [((0 : Nat), (17 : Nat), (20 : Nat), (13 : Nat)), ((0 : Nat), (17 : Nat), (24 : Nat), (46 : Nat))] :: G0) ({ frames := 8, cells := 3, slots := 18, locals := 180 } : Room) (va_Pc [.ref (ad 0 0 0), .int x, .int y, .ref (ad 20 0 0)] (PW D cy sa de B ad (Vw cy de ad S n T k th (Xl cy f g9)) (Inv S n))) (oI B (fun r H => (r = 0 ∧ cd_protest S n x y = 0 ∧ ∃ ad9, Ag ad ad9 ∧ GW D B ad9 (Vw cy de ad9 (prS S n (ci x) (ci y)) n T k th (Xl cy (vp_updL f 0 (if (vl_protest S n (ci y)) = 0 then (0 : Int64) else 1)) g9)) H) ∨ (∃ t9 : Nat, t9 < 4 ∧ ¬ t9 = 0 ∧ cd_protest S n x y = t9 ∧ r = nI t9 ∧ GW D B ad (Vw cy de ad S n T k th (Xl cy f g9)) H))) 3 18 (AB B) := by
  refine E_metW (own := RL) rfl rfl (Nat.le_of_ble_eq_true rfl) ?_
  intro p e s m below meth c hC hr hlk htab hG h0 ls hl
  have hx := hC.x
  have hb := hC.b
  have hS : va_S (AB B) s.heap s.heap [] := va_S.rf
  have hl : lo ls 5 [some (.ref (ad 0 0 0)), some (.int x), some (.int y), some (.ref (ad 20 0 0)), none] := lo_of hl
  refine o_aload_n hx hb dL_protest_0 hl rfl ?_
  refine lv_iconst (v := 0) hx hb dL_protest_1 (by decide) ?_
  refine o_aload_n hx hb dL_protest_2 hl rfl ?_
  refine o_iload_n hx hb dL_protest_3 hl rfl ?_
  refine o_iload_n hx hb dL_protest_4 hl rfl ?_
  refine vx_calli (xV hC hS hG h0.1 (As := [.int x, .int y]) (c_X6_protest l hfl) ⟨rfl, rfl⟩ ml_L_58 im_X6_protest sl_X6_X6_protest in_X6 cd_X6_protest (n := 2) (by decide +kernel) ⟨(Nat.le_of_ble_eq_true rfl), (Nat.le_of_ble_eq_true rfl)⟩ (recv hC hG (q := (RX6, TX6, 6)) rfl V_games) rfl hl.1 (Nat.le_of_ble_eq_true rfl) rfl dL_protest_5 ⟨(Nat.le_of_ble_eq_true rfl), (Nat.le_of_ble_eq_true rfl)⟩) hS (fun _ _ h => h) (fun _ h => h) (fun _ _ h => h) (fun E ce q9 u t H1 locs1 ht hv hp hB hz hq hS1 hce hcv hcl => ?_) (fun r u t H1 locs1 ht _ hr1 hB _ _ hS1 => ?_)
  · (try dsimp only at hB)
    rw [ht] at hB
    obtain ⟨hE, hG1⟩ := hB
    rcases hE with ⟨rfl, hcd⟩ | ⟨rfl, hcd⟩
    · refine caught hC [] ⟨0, 17, 20, 13⟩ [⟨0, 17, 24, 46⟩] (htab.trans rfl) (fun z hz => absurd hz List.not_mem_nil) rfl (by decide) cl_L_13 (by decide) hce hcv hcl ?_
      refine o_astore hx hb dL_protest_20 hl (by decide) rfl (fun ls hl => ?_)
      refine lv_iconst (v := 1) hx hb dL_protest_22 (by decide) ?_
      exact R_I hC hS1 hr hlk rfl (Or.inr ⟨1, by decide, by decide, hcd, rfl, hG1⟩) (Nat.le_of_ble_eq_true rfl) (Nat.le_of_ble_eq_true rfl) dL_protest_23
    · refine caught hC [⟨0, 17, 20, 13⟩] ⟨0, 17, 24, 46⟩ [] (htab.trans rfl) (fun z hz => by
            cases List.mem_singleton.mp hz
            exact Or.inr ⟨by decide, _, hC.t _ cl_L_13, hC.k.2.2.2.2.1 (_, _) (by decide)⟩) rfl (by decide) cl_L_46 (by decide) hce hcv hcl ?_
      refine o_astore hx hb dL_protest_24 hl (by decide) rfl (fun ls hl => ?_)
      refine lv_iconst (v := 2) hx hb dL_protest_26 (by decide) ?_
      exact R_I hC hS1 hr hlk rfl (Or.inr ⟨2, by decide, by decide, hcd, rfl, hG1⟩) (Nat.le_of_ble_eq_true rfl) (Nat.le_of_ble_eq_true rfl) dL_protest_27
  · subst hr1
    (try dsimp only at hB)
    rw [ht] at hB
    obtain ⟨q0, rfl, hG1⟩ := hB
    refine lv_if_eq (tgt := 15) hx hb dL_protest_8 (by decide) (fun h8 => ?_) (fun h8 => ?_)
    · refine lv_lconst hx hb dL_protest_15 rfl ?_
      refine g_last hC hG1 hS1 V_out 0 rfl (by decide) (by decide) (up_Vw (by decide) Xl_out) dL_protest_16 (fun H locs hG hS => ?_)
      refine lv_goto (tgt := 28) hx hb dL_protest_17 (by decide) ?_
      refine lv_iconst (v := 0) hx hb dL_protest_28 (by decide) ?_
      exact R_I hC hS hr hlk rfl (Or.inl ⟨rfl, q0, ad, Ag.rf, by rw [if_pos h8]; exact hG⟩) (Nat.le_of_ble_eq_true rfl) (Nat.le_of_ble_eq_true rfl) dL_protest_29
    · refine lv_lconst hx hb dL_protest_11 rfl ?_
      refine lv_goto (tgt := 16) hx hb dL_protest_12 (by decide) ?_
      refine g_last hC hG1 hS1 V_out 0 rfl (by decide) (by decide) (up_Vw (by decide) Xl_out) dL_protest_16 (fun H locs hG hS => ?_)
      refine lv_goto (tgt := 28) hx hb dL_protest_17 (by decide) ?_
      refine lv_iconst (v := 0) hx hb dL_protest_28 (by decide) ?_
      exact R_I hC hS hr hlk rfl (Or.inl ⟨rfl, q0, ad, Ag.rf, by rw [if_neg h8]; exact hG⟩) (Nat.le_of_ble_eq_true rfl) (Nat.le_of_ble_eq_true rfl) dL_protest_29
theorem k_L_protest {p : Program} {l : Launch} {e : Env} {R : Room} {s : State} {m : MethodId} {args : Array Value} {below : List Frame} {meth : Method} {c : Code} {H : Heap} {locs : List Loc} {cells slots : Nat} {Q : State → Prop} {cc : ByteArray} {pc nL : Nat} {ls : Array Slot} {rest : List Value} {own : String} {D : va_G} {cy : Nat → ClassId} {sa : Nat → Nat} {de B : Nat} {ad : Ad} {S : St} {n : Nat → Nat} {T : St} {k : Nat → Nat} {th : Int32} {f : Nat → Int64} {g9 : Nat → UInt64} {x y : Int32} (hfl : l.stackTraces = false) (hC : Cx p m c cc nL s args own D cy sa de B) (hS : va_S (AB B) s.heap H locs) (hG : GW D B ad (Vw cy de ad S n T k th (Xl cy f g9)) H) (h0 : Inv S n) {idx : Nat} (wl : Cond.methodLink own idx yL_protest ∈ G0) (hR : 8 + 1 ≤ R.frames ∧ 8 + (5 + 11) + 180 ≤ R.locals) (hsz : ls.size = nL) (hst : (rest.map fun v => v.category).sum ≤ 8) (hdg : decode cc pc = .ok (.invokestatic idx, 3)) (hcs : cells + 3 ≤ R.cells ∧ slots + 18 ≤ R.slots) (k0 : cd_protest S n x y = 0 → ∀ (ad9 : Ad) (H1 : Heap) (locs1 : List Loc), Ag ad ad9 → GW D B ad9 (Vw cy de ad9 (prS S n (ci x) (ci y)) n T k th (Xl cy (vp_updL f 0 (if (vl_protest S n (ci y)) = 0 then (0 : Int64) else 1)) g9)) H1 → va_S (AB B) s.heap H1 locs1 → W p l e R s m args below meth c H1 locs1 (cells + 3) (slots + 18) Q (F0 m (pc + 3) ls (.int 0 :: rest))) (k1 : ∀ t9 : Nat, t9 < 4 → ¬ t9 = 0 → cd_protest S n x y = t9 → ∀ (H1 : Heap) (locs1 : List Loc), GW D B ad (Vw cy de ad S n T k th (Xl cy f g9)) H1 → va_S (AB B) s.heap H1 locs1 → W p l e R s m args below meth c H1 locs1 (cells + 3) (slots + 18) Q (F0 m (pc + 3) ls (.int (nI t9) :: rest))) : W p l e R s m args below meth c H locs cells slots Q (F0 m pc ls (.ref (ad 20 0 0) :: .int y :: .int x :: .ref (ad 0 0 0) :: rest)) :=
  va_calli (rSW hC hS hG h0 (As := [.ref (ad 0 0 0), .int x, .int y, .ref (ad 20 0 0)]) (c_L_protest l hfl) ⟨rfl, rfl⟩ wl sm_L_protest in_L cd_L_protest (n := 4) (by decide +kernel) hR rfl hsz hst rfl hdg hcs) hS (fun _ _ h => h) (fun _ h => h) (fun r u t H1 locs1 ht _ hr hB _ _ hS1 => by
    subst hr
    have hB9 := hB; try dsimp only at hB9
    rw [ht] at hB9
    rcases hB9 with ⟨rfl, q0, ad9, hA, hG1⟩ | ⟨t9, q1, q2, q3, rfl, hG1⟩
    · exact k0 q0 ad9 _ _ hA hG1 hS1
    · exact k1 t9 q1 q2 q3 _ _ hG1 hS1)
set_option maxHeartbeats 4000000 in
set_option maxRecDepth 100000 in
theorem c_L_money (l : Launch) (hfl : l.stackTraces = false) {D : va_G} {cy : Nat → ClassId} {sa : Nat → Nat} {de B : Nat} {ad : Ad} {S : St} {n : Nat → Nat} {T : St} {k : Nat → Nat} {th : Int32} {f : Nat → Int64} {g9 : Nat → UInt64} {x : Int32} : Met l yL_money (Cond.codeWith yL_money cL_money 4 (Option.some Jvm.ClassFile.FieldType.int) [((0 : Nat), (9 : Nat), (12 : Nat), (13 : Nat))] :: G0) ({ frames := 8, cells := 1, slots := 6, locals := 123 } : Room) (va_Pc [.ref (ad 0 0 0), .int x, .ref (ad 20 0 0)] (PW D cy sa de B ad (Vw cy de ad S n T k th (Xl cy f g9)) (Inv S n))) (oI B (fun r H => (r = 0 ∧ cd_money x = 0 ∧ ∃ ad9, Ag ad ad9 ∧ GW D B ad9 (Vw cy de ad9 S n T k th (Xl cy (vp_updL f 0 (Int32.toInt64 (S 15 (ci x) 0))) g9)) H) ∨ (∃ t9 : Nat, t9 < 4 ∧ ¬ t9 = 0 ∧ cd_money x = t9 ∧ r = nI t9 ∧ GW D B ad (Vw cy de ad S n T k th (Xl cy f g9)) H))) 1 6 (AB B) := by
  refine E_metW (own := RL) rfl rfl (Nat.le_of_ble_eq_true rfl) ?_
  intro p e s m below meth c hC hr hlk htab hG h0 ls hl
  have hx := hC.x
  have hb := hC.b
  have hS : va_S (AB B) s.heap s.heap [] := va_S.rf
  have hl : lo ls 4 [some (.ref (ad 0 0 0)), some (.int x), some (.ref (ad 20 0 0)), none] := lo_of hl
  refine o_aload_n hx hb dL_money_0 hl rfl ?_
  refine lv_iconst (v := 0) hx hb dL_money_1 (by decide) ?_
  refine o_aload_n hx hb dL_money_2 hl rfl ?_
  refine o_iload_n hx hb dL_money_3 hl rfl ?_
  refine vx_calli (xV hC hS hG h0.1 (As := [.int x]) (c_X6_money l hfl) ⟨rfl, rfl⟩ ml_L_62 im_X6_money sl_X6_X6_money in_X6 cd_X6_money (n := 1) (by decide +kernel) ⟨(Nat.le_of_ble_eq_true rfl), (Nat.le_of_ble_eq_true rfl)⟩ (recv hC hG (q := (RX6, TX6, 6)) rfl V_games) rfl hl.1 (Nat.le_of_ble_eq_true rfl) rfl dL_money_4 ⟨(Nat.le_of_ble_eq_true rfl), (Nat.le_of_ble_eq_true rfl)⟩) hS (fun _ _ h => h) (fun _ h => h) (fun _ _ h => h) (fun E ce q9 u t H1 locs1 ht hv hp hB hz hq hS1 hce hcv hcl => ?_) (fun r u t H1 locs1 ht _ hr1 hB _ _ hS1 => ?_)
  · (try dsimp only at hB)
    rw [ht] at hB
    obtain ⟨⟨rfl, hcd⟩, hG1⟩ := hB
    · refine caught hC [] ⟨0, 9, 12, 13⟩ [] (htab.trans rfl) (fun z hz => absurd hz List.not_mem_nil) rfl (by decide) cl_L_13 (by decide) hce hcv hcl ?_
      refine o_astore_n hx hb dL_money_12 hl (by decide) rfl (fun ls hl => ?_)
      refine lv_iconst (v := 1) hx hb dL_money_13 (by decide) ?_
      exact R_I hC hS1 hr hlk rfl (Or.inr ⟨1, by decide, by decide, hcd, rfl, hG1⟩) (Nat.le_of_ble_eq_true rfl) (Nat.le_of_ble_eq_true rfl) dL_money_14
  · subst hr1
    (try dsimp only at hB)
    rw [ht] at hB
    obtain ⟨q0, rfl, hG1⟩ := hB
    refine lv_i2l hx hb dL_money_7 rfl ?_
    refine g_last hC hG1 hS1 V_out 0 rfl (by decide) (by decide) (up_Vw (by decide) Xl_out) dL_money_8 (fun H locs hG hS => ?_)
    refine lv_goto (tgt := 15) hx hb dL_money_9 (by decide) ?_
    refine lv_iconst (v := 0) hx hb dL_money_15 (by decide) ?_
    exact R_I hC hS hr hlk rfl (Or.inl ⟨rfl, q0, ad, Ag.rf, hG⟩) (Nat.le_of_ble_eq_true rfl) (Nat.le_of_ble_eq_true rfl) dL_money_16
theorem k_L_money {p : Program} {l : Launch} {e : Env} {R : Room} {s : State} {m : MethodId} {args : Array Value} {below : List Frame} {meth : Method} {c : Code} {H : Heap} {locs : List Loc} {cells slots : Nat} {Q : State → Prop} {cc : ByteArray} {pc nL : Nat} {ls : Array Slot} {rest : List Value} {own : String} {D : va_G} {cy : Nat → ClassId} {sa : Nat → Nat} {de B : Nat} {ad : Ad} {S : St} {n : Nat → Nat} {T : St} {k : Nat → Nat} {th : Int32} {f : Nat → Int64} {g9 : Nat → UInt64} {x : Int32} (hfl : l.stackTraces = false) (hC : Cx p m c cc nL s args own D cy sa de B) (hS : va_S (AB B) s.heap H locs) (hG : GW D B ad (Vw cy de ad S n T k th (Xl cy f g9)) H) (h0 : Inv S n) {idx : Nat} (wl : Cond.methodLink own idx yL_money ∈ G0) (hR : 8 + 1 ≤ R.frames ∧ 8 + (4 + 11) + 123 ≤ R.locals) (hsz : ls.size = nL) (hst : (rest.map fun v => v.category).sum ≤ 8) (hdg : decode cc pc = .ok (.invokestatic idx, 3)) (hcs : cells + 1 ≤ R.cells ∧ slots + 6 ≤ R.slots) (k0 : cd_money x = 0 → ∀ (ad9 : Ad) (H1 : Heap) (locs1 : List Loc), Ag ad ad9 → GW D B ad9 (Vw cy de ad9 S n T k th (Xl cy (vp_updL f 0 (Int32.toInt64 (S 15 (ci x) 0))) g9)) H1 → va_S (AB B) s.heap H1 locs1 → W p l e R s m args below meth c H1 locs1 (cells + 1) (slots + 6) Q (F0 m (pc + 3) ls (.int 0 :: rest))) (k1 : ∀ t9 : Nat, t9 < 4 → ¬ t9 = 0 → cd_money x = t9 → ∀ (H1 : Heap) (locs1 : List Loc), GW D B ad (Vw cy de ad S n T k th (Xl cy f g9)) H1 → va_S (AB B) s.heap H1 locs1 → W p l e R s m args below meth c H1 locs1 (cells + 1) (slots + 6) Q (F0 m (pc + 3) ls (.int (nI t9) :: rest))) : W p l e R s m args below meth c H locs cells slots Q (F0 m pc ls (.ref (ad 20 0 0) :: .int x :: .ref (ad 0 0 0) :: rest)) :=
  va_calli (rSW hC hS hG h0 (As := [.ref (ad 0 0 0), .int x, .ref (ad 20 0 0)]) (c_L_money l hfl) ⟨rfl, rfl⟩ wl sm_L_money in_L cd_L_money (n := 3) (by decide +kernel) hR rfl hsz hst rfl hdg hcs) hS (fun _ _ h => h) (fun _ h => h) (fun r u t H1 locs1 ht _ hr hB _ _ hS1 => by
    subst hr
    have hB9 := hB; try dsimp only at hB9
    rw [ht] at hB9
    rcases hB9 with ⟨rfl, q0, ad9, hA, hG1⟩ | ⟨t9, q1, q2, q3, rfl, hG1⟩
    · exact k0 q0 ad9 _ _ hA hG1 hS1
    · exact k1 t9 q1 q2 q3 _ _ hG1 hS1)
set_option maxHeartbeats 4000000 in
set_option maxRecDepth 100000 in
theorem c_L_border (l : Launch) (hfl : l.stackTraces = false) {D : va_G} {cy : Nat → ClassId} {sa : Nat → Nat} {de B : Nat} {ad : Ad} {S : St} {n : Nat → Nat} {T : St} {k : Nat → Nat} {th : Int32} {f : Nat → Int64} {g9 : Nat → UInt64} {x y z : Int32} : Met l yL_border (Cond.codeWith yL_border cL_border 6 (Option.some Jvm.ClassFile.FieldType.int) [((0 : Nat), (12 : Nat), (15 : Nat), (13 : Nat)), ((0 : Nat), (12 : Nat), (19 : Nat), (21 : Nat))] :: G0) ({ frames := 8, cells := 2, slots := 12, locals := 137 } : Room) (va_Pc [.ref (ad 0 0 0), .int x, .int y, .int z, .ref (ad 20 0 0)] (PW D cy sa de B ad (Vw cy de ad S n T k th (Xl cy f g9)) (Inv S n))) (oI B (fun r H => (r = 0 ∧ cd_border n x y z = 0 ∧ ∃ ad9, Ag ad ad9 ∧ GW D B ad9 (Vw cy de ad9 (boS (drS S (ci x) y z) (n 3) (ci x) (n 0)) n T k th (Xl cy (vp_updL f 0 (Int32.toInt64 (boN (drS S (ci x) y z) (n 3) (ci x) (n 0)))) g9)) H) ∨ (∃ t9 : Nat, t9 < 4 ∧ ¬ t9 = 0 ∧ cd_border n x y z = t9 ∧ r = nI t9 ∧ GW D B ad (Vw cy de ad S n T k th (Xl cy f g9)) H))) 2 12 (AB B) := by
  refine E_metW (own := RL) rfl rfl (Nat.le_of_ble_eq_true rfl) ?_
  intro p e s m below meth c hC hr hlk htab hG h0 ls hl
  have hx := hC.x
  have hb := hC.b
  have hS : va_S (AB B) s.heap s.heap [] := va_S.rf
  have hl : lo ls 6 [some (.ref (ad 0 0 0)), some (.int x), some (.int y), some (.int z), some (.ref (ad 20 0 0)), none] := lo_of hl
  refine o_aload hx hb dL_border_0 hl rfl ?_
  refine lv_iconst (v := 0) hx hb dL_border_2 (by decide) ?_
  refine o_aload_n hx hb dL_border_3 hl rfl ?_
  refine o_iload_n hx hb dL_border_4 hl rfl ?_
  refine o_iload_n hx hb dL_border_5 hl rfl ?_
  refine o_iload_n hx hb dL_border_6 hl rfl ?_
  refine vx_calli (xV hC hS hG h0.1 (As := [.int x, .int y, .int z]) (c_X6_border l hfl) ⟨rfl, rfl⟩ ml_L_65 im_X6_border sl_X6_X6_border in_X6 cd_X6_border (n := 3) (by decide +kernel) ⟨(Nat.le_of_ble_eq_true rfl), (Nat.le_of_ble_eq_true rfl)⟩ (recv hC hG (q := (RX6, TX6, 6)) rfl V_games) rfl hl.1 (Nat.le_of_ble_eq_true rfl) rfl dL_border_7 ⟨(Nat.le_of_ble_eq_true rfl), (Nat.le_of_ble_eq_true rfl)⟩) hS (fun _ _ h => h) (fun _ h => h) (fun _ _ h => h) (fun E ce q9 u t H1 locs1 ht hv hp hB hz hq hS1 hce hcv hcl => ?_) (fun r u t H1 locs1 ht _ hr1 hB _ _ hS1 => ?_)
  · (try dsimp only at hB)
    rw [ht] at hB
    obtain ⟨hE, hG1⟩ := hB
    rcases hE with ⟨rfl, hcd⟩ | ⟨rfl, hcd⟩
    · refine caught hC [] ⟨0, 12, 15, 13⟩ [⟨0, 12, 19, 21⟩] (htab.trans rfl) (fun z hz => absurd hz List.not_mem_nil) rfl (by decide) cl_L_13 (by decide) hce hcv hcl ?_
      refine o_astore hx hb dL_border_15 hl (by decide) rfl (fun ls hl => ?_)
      refine lv_iconst (v := 1) hx hb dL_border_17 (by decide) ?_
      exact R_I hC hS1 hr hlk rfl (Or.inr ⟨1, by decide, by decide, hcd, rfl, hG1⟩) (Nat.le_of_ble_eq_true rfl) (Nat.le_of_ble_eq_true rfl) dL_border_18
    · refine caught hC [⟨0, 12, 15, 13⟩] ⟨0, 12, 19, 21⟩ [] (htab.trans rfl) (fun z hz => by
            cases List.mem_singleton.mp hz
            exact Or.inr ⟨by decide, _, hC.t _ cl_L_13, hC.k.2.2.2.2.1 (_, _) (by decide)⟩) rfl (by decide) cl_L_21 (by decide) hce hcv hcl ?_
      refine o_astore hx hb dL_border_19 hl (by decide) rfl (fun ls hl => ?_)
      refine lv_iconst (v := 2) hx hb dL_border_21 (by decide) ?_
      exact R_I hC hS1 hr hlk rfl (Or.inr ⟨2, by decide, by decide, hcd, rfl, hG1⟩) (Nat.le_of_ble_eq_true rfl) (Nat.le_of_ble_eq_true rfl) dL_border_22
  · subst hr1
    (try dsimp only at hB)
    rw [ht] at hB
    obtain ⟨q0, rfl, hG1⟩ := hB
    refine lv_i2l hx hb dL_border_10 rfl ?_
    refine g_last hC hG1 hS1 V_out 0 rfl (by decide) (by decide) (up_Vw (by decide) Xl_out) dL_border_11 (fun H locs hG hS => ?_)
    refine lv_goto (tgt := 23) hx hb dL_border_12 (by decide) ?_
    refine lv_iconst (v := 0) hx hb dL_border_23 (by decide) ?_
    exact R_I hC hS hr hlk rfl (Or.inl ⟨rfl, q0, ad, Ag.rf, hG⟩) (Nat.le_of_ble_eq_true rfl) (Nat.le_of_ble_eq_true rfl) dL_border_24
theorem k_L_border {p : Program} {l : Launch} {e : Env} {R : Room} {s : State} {m : MethodId} {args : Array Value} {below : List Frame} {meth : Method} {c : Code} {H : Heap} {locs : List Loc} {cells slots : Nat} {Q : State → Prop} {cc : ByteArray} {pc nL : Nat} {ls : Array Slot} {rest : List Value} {own : String} {D : va_G} {cy : Nat → ClassId} {sa : Nat → Nat} {de B : Nat} {ad : Ad} {S : St} {n : Nat → Nat} {T : St} {k : Nat → Nat} {th : Int32} {f : Nat → Int64} {g9 : Nat → UInt64} {x y z : Int32} (hfl : l.stackTraces = false) (hC : Cx p m c cc nL s args own D cy sa de B) (hS : va_S (AB B) s.heap H locs) (hG : GW D B ad (Vw cy de ad S n T k th (Xl cy f g9)) H) (h0 : Inv S n) {idx : Nat} (wl : Cond.methodLink own idx yL_border ∈ G0) (hR : 8 + 1 ≤ R.frames ∧ 8 + (6 + 11) + 137 ≤ R.locals) (hsz : ls.size = nL) (hst : (rest.map fun v => v.category).sum ≤ 8) (hdg : decode cc pc = .ok (.invokestatic idx, 3)) (hcs : cells + 2 ≤ R.cells ∧ slots + 12 ≤ R.slots) (k0 : cd_border n x y z = 0 → ∀ (ad9 : Ad) (H1 : Heap) (locs1 : List Loc), Ag ad ad9 → GW D B ad9 (Vw cy de ad9 (boS (drS S (ci x) y z) (n 3) (ci x) (n 0)) n T k th (Xl cy (vp_updL f 0 (Int32.toInt64 (boN (drS S (ci x) y z) (n 3) (ci x) (n 0)))) g9)) H1 → va_S (AB B) s.heap H1 locs1 → W p l e R s m args below meth c H1 locs1 (cells + 2) (slots + 12) Q (F0 m (pc + 3) ls (.int 0 :: rest))) (k1 : ∀ t9 : Nat, t9 < 4 → ¬ t9 = 0 → cd_border n x y z = t9 → ∀ (H1 : Heap) (locs1 : List Loc), GW D B ad (Vw cy de ad S n T k th (Xl cy f g9)) H1 → va_S (AB B) s.heap H1 locs1 → W p l e R s m args below meth c H1 locs1 (cells + 2) (slots + 12) Q (F0 m (pc + 3) ls (.int (nI t9) :: rest))) : W p l e R s m args below meth c H locs cells slots Q (F0 m pc ls (.ref (ad 20 0 0) :: .int z :: .int y :: .int x :: .ref (ad 0 0 0) :: rest)) :=
  va_calli (rSW hC hS hG h0 (As := [.ref (ad 0 0 0), .int x, .int y, .int z, .ref (ad 20 0 0)]) (c_L_border l hfl) ⟨rfl, rfl⟩ wl sm_L_border in_L cd_L_border (n := 5) (by decide +kernel) hR rfl hsz hst rfl hdg hcs) hS (fun _ _ h => h) (fun _ h => h) (fun r u t H1 locs1 ht _ hr hB _ _ hS1 => by
    subst hr
    have hB9 := hB; try dsimp only at hB9
    rw [ht] at hB9
    rcases hB9 with ⟨rfl, q0, ad9, hA, hG1⟩ | ⟨t9, q1, q2, q3, rfl, hG1⟩
    · exact k0 q0 ad9 _ _ hA hG1 hS1
    · exact k1 t9 q1 q2 q3 _ _ hG1 hS1)
set_option maxHeartbeats 4000000 in
set_option maxRecDepth 100000 in
theorem c_L_next (l : Launch) (hfl : l.stackTraces = false) {D : va_G} {cy : Nat → ClassId} {sa : Nat → Nat} {de B : Nat} {ad : Ad} {S : St} {n : Nat → Nat} {T : St} {k : Nat → Nat} {th : Int32} {f : Nat → Int64} {g9 : Nat → UInt64} : Met l yL_next (Cond.codeWith yL_next cL_next 3 (Option.some Jvm.ClassFile.FieldType.int) [((0 : Nat), (8 : Nat), (11 : Nat), (15 : Nat))] :: G0) ({ frames := 8, cells := 1, slots := 6, locals := 176 } : Room) (va_Pc [.ref (ad 0 0 0), .ref (ad 20 0 0)] (PW D cy sa de B ad (Vw cy de ad S n T k th (Xl cy f g9)) (Inv S n))) (oI B (fun r H => (r = 0 ∧ cd_next S = 0 ∧ ∃ ad9, Ag ad ad9 ∧ GW D B ad9 (Vw cy de ad9 (nxtS S n) n T k th (Xl cy (vp_updL f 0 (Int32.toInt64 (nxtS S n 23 0 0))) g9)) H) ∨ (∃ t9 : Nat, t9 < 4 ∧ ¬ t9 = 0 ∧ cd_next S = t9 ∧ r = nI t9 ∧ GW D B ad (Vw cy de ad S n T k th (Xl cy f g9)) H))) 1 6 (AB B) := by
  refine E_metW (own := RL) rfl rfl (Nat.le_of_ble_eq_true rfl) ?_
  intro p e s m below meth c hC hr hlk htab hG h0 ls hl
  have hx := hC.x
  have hb := hC.b
  have hS : va_S (AB B) s.heap s.heap [] := va_S.rf
  have hl : lo ls 3 [some (.ref (ad 0 0 0)), some (.ref (ad 20 0 0)), none] := lo_of hl
  refine o_aload_n hx hb dL_next_0 hl rfl ?_
  refine lv_iconst (v := 0) hx hb dL_next_1 (by decide) ?_
  refine o_aload_n hx hb dL_next_2 hl rfl ?_
  refine vx_calli (xV hC hS hG h0.1 (As := []) (c_X6_next l hfl) ⟨rfl, rfl⟩ ml_L_68 im_X6_next sl_X6_X6_next in_X6 cd_X6_next (n := 0) (by decide +kernel) ⟨(Nat.le_of_ble_eq_true rfl), (Nat.le_of_ble_eq_true rfl)⟩ (recv hC hG (q := (RX6, TX6, 6)) rfl V_games) rfl hl.1 (Nat.le_of_ble_eq_true rfl) rfl dL_next_3 ⟨(Nat.le_of_ble_eq_true rfl), (Nat.le_of_ble_eq_true rfl)⟩) hS (fun _ _ h => h) (fun _ h => h) (fun _ _ h => h) (fun E ce q9 u t H1 locs1 ht hv hp hB hz hq hS1 hce hcv hcl => ?_) (fun r u t H1 locs1 ht _ hr1 hB _ _ hS1 => ?_)
  · (try dsimp only at hB)
    rw [ht] at hB
    obtain ⟨⟨rfl, hcd⟩, hG1⟩ := hB
    · refine caught hC [] ⟨0, 8, 11, 15⟩ [] (htab.trans rfl) (fun z hz => absurd hz List.not_mem_nil) rfl (by decide) cl_L_15 (by decide) hce hcv hcl ?_
      refine o_astore_n hx hb dL_next_11 hl (by decide) rfl (fun ls hl => ?_)
      refine lv_iconst (v := 1) hx hb dL_next_12 (by decide) ?_
      exact R_I hC hS1 hr hlk rfl (Or.inr ⟨1, by decide, by decide, hcd, rfl, hG1⟩) (Nat.le_of_ble_eq_true rfl) (Nat.le_of_ble_eq_true rfl) dL_next_13
  · subst hr1
    (try dsimp only at hB)
    rw [ht] at hB
    obtain ⟨q0, rfl, hG1⟩ := hB
    refine lv_i2l hx hb dL_next_6 rfl ?_
    refine g_last hC hG1 hS1 V_out 0 rfl (by decide) (by decide) (up_Vw (by decide) Xl_out) dL_next_7 (fun H locs hG hS => ?_)
    refine lv_goto (tgt := 14) hx hb dL_next_8 (by decide) ?_
    refine lv_iconst (v := 0) hx hb dL_next_14 (by decide) ?_
    exact R_I hC hS hr hlk rfl (Or.inl ⟨rfl, q0, ad, Ag.rf, hG⟩) (Nat.le_of_ble_eq_true rfl) (Nat.le_of_ble_eq_true rfl) dL_next_15
theorem k_L_next {p : Program} {l : Launch} {e : Env} {R : Room} {s : State} {m : MethodId} {args : Array Value} {below : List Frame} {meth : Method} {c : Code} {H : Heap} {locs : List Loc} {cells slots : Nat} {Q : State → Prop} {cc : ByteArray} {pc nL : Nat} {ls : Array Slot} {rest : List Value} {own : String} {D : va_G} {cy : Nat → ClassId} {sa : Nat → Nat} {de B : Nat} {ad : Ad} {S : St} {n : Nat → Nat} {T : St} {k : Nat → Nat} {th : Int32} {f : Nat → Int64} {g9 : Nat → UInt64} (hfl : l.stackTraces = false) (hC : Cx p m c cc nL s args own D cy sa de B) (hS : va_S (AB B) s.heap H locs) (hG : GW D B ad (Vw cy de ad S n T k th (Xl cy f g9)) H) (h0 : Inv S n) {idx : Nat} (wl : Cond.methodLink own idx yL_next ∈ G0) (hR : 8 + 1 ≤ R.frames ∧ 8 + (3 + 11) + 176 ≤ R.locals) (hsz : ls.size = nL) (hst : (rest.map fun v => v.category).sum ≤ 8) (hdg : decode cc pc = .ok (.invokestatic idx, 3)) (hcs : cells + 1 ≤ R.cells ∧ slots + 6 ≤ R.slots) (k0 : cd_next S = 0 → ∀ (ad9 : Ad) (H1 : Heap) (locs1 : List Loc), Ag ad ad9 → GW D B ad9 (Vw cy de ad9 (nxtS S n) n T k th (Xl cy (vp_updL f 0 (Int32.toInt64 (nxtS S n 23 0 0))) g9)) H1 → va_S (AB B) s.heap H1 locs1 → W p l e R s m args below meth c H1 locs1 (cells + 1) (slots + 6) Q (F0 m (pc + 3) ls (.int 0 :: rest))) (k1 : ∀ t9 : Nat, t9 < 4 → ¬ t9 = 0 → cd_next S = t9 → ∀ (H1 : Heap) (locs1 : List Loc), GW D B ad (Vw cy de ad S n T k th (Xl cy f g9)) H1 → va_S (AB B) s.heap H1 locs1 → W p l e R s m args below meth c H1 locs1 (cells + 1) (slots + 6) Q (F0 m (pc + 3) ls (.int (nI t9) :: rest))) : W p l e R s m args below meth c H locs cells slots Q (F0 m pc ls (.ref (ad 20 0 0) :: .ref (ad 0 0 0) :: rest)) :=
  va_calli (rSW hC hS hG h0 (As := [.ref (ad 0 0 0), .ref (ad 20 0 0)]) (c_L_next l hfl) ⟨rfl, rfl⟩ wl sm_L_next in_L cd_L_next (n := 2) (by decide +kernel) hR rfl hsz hst rfl hdg hcs) hS (fun _ _ h => h) (fun _ h => h) (fun r u t H1 locs1 ht _ hr hB _ _ hS1 => by
    subst hr
    have hB9 := hB; try dsimp only at hB9
    rw [ht] at hB9
    rcases hB9 with ⟨rfl, q0, ad9, hA, hG1⟩ | ⟨t9, q1, q2, q3, rfl, hG1⟩
    · exact k0 q0 ad9 _ _ hA hG1 hS1
    · exact k1 t9 q1 q2 q3 _ _ hG1 hS1)
set_option maxHeartbeats 4000000 in
set_option maxRecDepth 100000 in
theorem c_L_until (l : Launch) (hfl : l.stackTraces = false) {D : va_G} {cy : Nat → ClassId} {sa : Nat → Nat} {de B : Nat} {ad : Ad} {S : St} {n : Nat → Nat} {T : St} {k : Nat → Nat} {th : Int32} {f : Nat → Int64} {g9 : Nat → UInt64} {x : Int32} : Met l yL_until (Cond.codeWith yL_until cL_until 4 (Option.some Jvm.ClassFile.FieldType.int) [((0 : Nat), (9 : Nat), (12 : Nat), (13 : Nat)), ((0 : Nat), (9 : Nat), (15 : Nat), (30 : Nat))] :: G0) ({ frames := 8, cells := 2, slots := 12, locals := 125 } : Room) (va_Pc [.ref (ad 0 0 0), .int x, .ref (ad 20 0 0)] (PW D cy sa de B ad (Vw cy de ad S n T k th (Xl cy f g9)) (Inv S n))) (oI B (fun r H => (r = 0 ∧ cd_until S n x = 0 ∧ ∃ ad9, Ag ad ad9 ∧ GW D B ad9 (Vw cy de ad9 S n T k th (Xl cy (vp_updL f 0 (Int32.toInt64 (S 2 (ci x) 0))) g9)) H) ∨ (∃ t9 : Nat, t9 < 4 ∧ ¬ t9 = 0 ∧ cd_until S n x = t9 ∧ r = nI t9 ∧ GW D B ad (Vw cy de ad S n T k th (Xl cy f g9)) H))) 2 12 (AB B) := by
  refine E_metW (own := RL) rfl rfl (Nat.le_of_ble_eq_true rfl) ?_
  intro p e s m below meth c hC hr hlk htab hG h0 ls hl
  have hx := hC.x
  have hb := hC.b
  have hS : va_S (AB B) s.heap s.heap [] := va_S.rf
  have hl : lo ls 4 [some (.ref (ad 0 0 0)), some (.int x), some (.ref (ad 20 0 0)), none] := lo_of hl
  refine o_aload_n hx hb dL_until_0 hl rfl ?_
  refine lv_iconst (v := 0) hx hb dL_until_1 (by decide) ?_
  refine o_aload_n hx hb dL_until_2 hl rfl ?_
  refine o_iload_n hx hb dL_until_3 hl rfl ?_
  refine vx_calli (xV hC hS hG h0.1 (As := [.int x]) (c_X6_until l hfl) ⟨rfl, rfl⟩ ml_L_72 im_X6_until sl_X6_X6_until in_X6 cd_X6_until (n := 1) (by decide +kernel) ⟨(Nat.le_of_ble_eq_true rfl), (Nat.le_of_ble_eq_true rfl)⟩ (recv hC hG (q := (RX6, TX6, 6)) rfl V_games) rfl hl.1 (Nat.le_of_ble_eq_true rfl) rfl dL_until_4 ⟨(Nat.le_of_ble_eq_true rfl), (Nat.le_of_ble_eq_true rfl)⟩) hS (fun _ _ h => h) (fun _ h => h) (fun _ _ h => h) (fun E ce q9 u t H1 locs1 ht hv hp hB hz hq hS1 hce hcv hcl => ?_) (fun r u t H1 locs1 ht _ hr1 hB _ _ hS1 => ?_)
  · (try dsimp only at hB)
    rw [ht] at hB
    obtain ⟨hE, hG1⟩ := hB
    rcases hE with ⟨rfl, hcd⟩ | ⟨rfl, hcd⟩
    · refine caught hC [] ⟨0, 9, 12, 13⟩ [⟨0, 9, 15, 30⟩] (htab.trans rfl) (fun z hz => absurd hz List.not_mem_nil) rfl (by decide) cl_L_13 (by decide) hce hcv hcl ?_
      refine o_astore_n hx hb dL_until_12 hl (by decide) rfl (fun ls hl => ?_)
      refine lv_iconst (v := 1) hx hb dL_until_13 (by decide) ?_
      exact R_I hC hS1 hr hlk rfl (Or.inr ⟨1, by decide, by decide, hcd, rfl, hG1⟩) (Nat.le_of_ble_eq_true rfl) (Nat.le_of_ble_eq_true rfl) dL_until_14
    · refine caught hC [⟨0, 9, 12, 13⟩] ⟨0, 9, 15, 30⟩ [] (htab.trans rfl) (fun z hz => by
            cases List.mem_singleton.mp hz
            exact Or.inr ⟨by decide, _, hC.t _ cl_L_13, hC.k.2.2.2.2.1 (_, _) (by decide)⟩) rfl (by decide) cl_L_30 (by decide) hce hcv hcl ?_
      refine o_astore_n hx hb dL_until_15 hl (by decide) rfl (fun ls hl => ?_)
      refine lv_iconst (v := 2) hx hb dL_until_16 (by decide) ?_
      exact R_I hC hS1 hr hlk rfl (Or.inr ⟨2, by decide, by decide, hcd, rfl, hG1⟩) (Nat.le_of_ble_eq_true rfl) (Nat.le_of_ble_eq_true rfl) dL_until_17
  · subst hr1
    (try dsimp only at hB)
    rw [ht] at hB
    obtain ⟨q0, rfl, hG1⟩ := hB
    refine lv_i2l hx hb dL_until_7 rfl ?_
    refine g_last hC hG1 hS1 V_out 0 rfl (by decide) (by decide) (up_Vw (by decide) Xl_out) dL_until_8 (fun H locs hG hS => ?_)
    refine lv_goto (tgt := 18) hx hb dL_until_9 (by decide) ?_
    refine lv_iconst (v := 0) hx hb dL_until_18 (by decide) ?_
    exact R_I hC hS hr hlk rfl (Or.inl ⟨rfl, q0, ad, Ag.rf, hG⟩) (Nat.le_of_ble_eq_true rfl) (Nat.le_of_ble_eq_true rfl) dL_until_19
theorem k_L_until {p : Program} {l : Launch} {e : Env} {R : Room} {s : State} {m : MethodId} {args : Array Value} {below : List Frame} {meth : Method} {c : Code} {H : Heap} {locs : List Loc} {cells slots : Nat} {Q : State → Prop} {cc : ByteArray} {pc nL : Nat} {ls : Array Slot} {rest : List Value} {own : String} {D : va_G} {cy : Nat → ClassId} {sa : Nat → Nat} {de B : Nat} {ad : Ad} {S : St} {n : Nat → Nat} {T : St} {k : Nat → Nat} {th : Int32} {f : Nat → Int64} {g9 : Nat → UInt64} {x : Int32} (hfl : l.stackTraces = false) (hC : Cx p m c cc nL s args own D cy sa de B) (hS : va_S (AB B) s.heap H locs) (hG : GW D B ad (Vw cy de ad S n T k th (Xl cy f g9)) H) (h0 : Inv S n) {idx : Nat} (wl : Cond.methodLink own idx yL_until ∈ G0) (hR : 8 + 1 ≤ R.frames ∧ 8 + (4 + 11) + 125 ≤ R.locals) (hsz : ls.size = nL) (hst : (rest.map fun v => v.category).sum ≤ 8) (hdg : decode cc pc = .ok (.invokestatic idx, 3)) (hcs : cells + 2 ≤ R.cells ∧ slots + 12 ≤ R.slots) (k0 : cd_until S n x = 0 → ∀ (ad9 : Ad) (H1 : Heap) (locs1 : List Loc), Ag ad ad9 → GW D B ad9 (Vw cy de ad9 S n T k th (Xl cy (vp_updL f 0 (Int32.toInt64 (S 2 (ci x) 0))) g9)) H1 → va_S (AB B) s.heap H1 locs1 → W p l e R s m args below meth c H1 locs1 (cells + 2) (slots + 12) Q (F0 m (pc + 3) ls (.int 0 :: rest))) (k1 : ∀ t9 : Nat, t9 < 4 → ¬ t9 = 0 → cd_until S n x = t9 → ∀ (H1 : Heap) (locs1 : List Loc), GW D B ad (Vw cy de ad S n T k th (Xl cy f g9)) H1 → va_S (AB B) s.heap H1 locs1 → W p l e R s m args below meth c H1 locs1 (cells + 2) (slots + 12) Q (F0 m (pc + 3) ls (.int (nI t9) :: rest))) : W p l e R s m args below meth c H locs cells slots Q (F0 m pc ls (.ref (ad 20 0 0) :: .int x :: .ref (ad 0 0 0) :: rest)) :=
  va_calli (rSW hC hS hG h0 (As := [.ref (ad 0 0 0), .int x, .ref (ad 20 0 0)]) (c_L_until l hfl) ⟨rfl, rfl⟩ wl sm_L_until in_L cd_L_until (n := 3) (by decide +kernel) hR rfl hsz hst rfl hdg hcs) hS (fun _ _ h => h) (fun _ h => h) (fun r u t H1 locs1 ht _ hr hB _ _ hS1 => by
    subst hr
    have hB9 := hB; try dsimp only at hB9
    rw [ht] at hB9
    rcases hB9 with ⟨rfl, q0, ad9, hA, hG1⟩ | ⟨t9, q1, q2, q3, rfl, hG1⟩
    · exact k0 q0 ad9 _ _ hA hG1 hS1
    · exact k1 t9 q1 q2 q3 _ _ hG1 hS1)
set_option maxHeartbeats 4000000 in
set_option maxRecDepth 100000 in
theorem c_L_event (l : Launch) (hfl : l.stackTraces = false) {D : va_G} {cy : Nat → ClassId} {sa : Nat → Nat} {de B : Nat} {ad : Ad} {S : St} {n : Nat → Nat} {T : St} {k : Nat → Nat} {th : Int32} {f : Nat → Int64} {g9 : Nat → UInt64} {x : Int32} : Met l yL_event (Cond.codeWith yL_event cL_event 4 (Option.some Jvm.ClassFile.FieldType.int) [((0 : Nat), (9 : Nat), (12 : Nat), (21 : Nat)), ((0 : Nat), (9 : Nat), (15 : Nat), (15 : Nat))] :: G0) ({ frames := 9, cells := 4, slots := 51, locals := 212 } : Room) (va_Pc [.ref (ad 0 0 0), .int x, .ref (ad 20 0 0)] (PW D cy sa de B ad (Vw cy de ad S n T k th (Xl cy f g9)) (Inv S n))) (oI B (fun r H => (r = 0 ∧ cd_event n x = 0 ∧ ∃ ad9, Ag ad ad9 ∧ GW D B ad9 (Vw cy de ad9 (evS S (n 3) x) (nUp n 3) T k th (Xl cy (vp_updL f 0 (Int32.toInt64 (nI (n 3)))) g9)) H) ∨ (∃ t9 : Nat, t9 < 4 ∧ ¬ t9 = 0 ∧ cd_event n x = t9 ∧ r = nI t9 ∧ GW D B ad (Vw cy de ad S n T k th (Xl cy f g9)) H))) 4 51 (AB B) := by
  refine E_metW (own := RL) rfl rfl (Nat.le_of_ble_eq_true rfl) ?_
  intro p e s m below meth c hC hr hlk htab hG h0 ls hl
  have hx := hC.x
  have hb := hC.b
  have hS : va_S (AB B) s.heap s.heap [] := va_S.rf
  have hl : lo ls 4 [some (.ref (ad 0 0 0)), some (.int x), some (.ref (ad 20 0 0)), none] := lo_of hl
  refine o_aload_n hx hb dL_event_0 hl rfl ?_
  refine lv_iconst (v := 0) hx hb dL_event_1 (by decide) ?_
  refine o_aload_n hx hb dL_event_2 hl rfl ?_
  refine o_iload_n hx hb dL_event_3 hl rfl ?_
  refine vx_calli (xV hC hS hG ⟨h0, rfl⟩ (As := [.int x]) (c_X6_event l hfl) ⟨rfl, rfl⟩ ml_L_75 im_X6_event sl_X6_X6_event in_X6 cd_X6_event (n := 1) (by decide +kernel) ⟨(Nat.le_of_ble_eq_true rfl), (Nat.le_of_ble_eq_true rfl)⟩ (recv hC hG (q := (RX6, TX6, 6)) rfl V_games) rfl hl.1 (Nat.le_of_ble_eq_true rfl) rfl dL_event_4 ⟨(Nat.le_of_ble_eq_true rfl), (Nat.le_of_ble_eq_true rfl)⟩) hS (fun _ _ h => h) (fun _ h => h) (fun _ _ h => h) (fun E ce q9 u t H1 locs1 ht hv hp hB hz hq hS1 hce hcv hcl => ?_) (fun r u t H1 locs1 ht _ hr1 hB _ _ hS1 => ?_)
  · (try dsimp only at hB)
    rw [ht] at hB
    obtain ⟨hE, hG1⟩ := hB
    rcases hE with ⟨rfl, hcd⟩ | ⟨rfl, hcd⟩
    · refine caught hC [] ⟨0, 9, 12, 21⟩ [⟨0, 9, 15, 15⟩] (htab.trans rfl) (fun z hz => absurd hz List.not_mem_nil) rfl (by decide) cl_L_21 (by decide) hce hcv hcl ?_
      refine o_astore_n hx hb dL_event_12 hl (by decide) rfl (fun ls hl => ?_)
      refine lv_iconst (v := 1) hx hb dL_event_13 (by decide) ?_
      exact R_I hC hS1 hr hlk rfl (Or.inr ⟨1, by decide, by decide, hcd, rfl, hG1⟩) (Nat.le_of_ble_eq_true rfl) (Nat.le_of_ble_eq_true rfl) dL_event_14
    · refine caught hC [⟨0, 9, 12, 21⟩] ⟨0, 9, 15, 15⟩ [] (htab.trans rfl) (fun z hz => by
            cases List.mem_singleton.mp hz
            exact Or.inr ⟨by decide, _, hC.t _ cl_L_21, hC.k.2.2.2.2.1 (_, _) (by decide)⟩) rfl (by decide) cl_L_15 (by decide) hce hcv hcl ?_
      refine o_astore_n hx hb dL_event_15 hl (by decide) rfl (fun ls hl => ?_)
      refine lv_iconst (v := 2) hx hb dL_event_16 (by decide) ?_
      exact R_I hC hS1 hr hlk rfl (Or.inr ⟨2, by decide, by decide, hcd, rfl, hG1⟩) (Nat.le_of_ble_eq_true rfl) (Nat.le_of_ble_eq_true rfl) dL_event_17
  · subst hr1
    (try dsimp only at hB)
    rw [ht] at hB
    obtain ⟨q0, rfl, ad9, hA, hG1⟩ := hB
    refine lv_i2l hx hb dL_event_7 rfl ?_
    refine bn_2 (congrFun (congrFun (hA 20 (Or.inr (by decide))) _) _) ?_
    refine g_last hC hG1 hS1 V_out 0 rfl (by decide) (by decide) (up_Vw (by decide) Xl_out) dL_event_8 (fun H locs hG hS => ?_)
    refine lv_goto (tgt := 18) hx hb dL_event_9 (by decide) ?_
    refine lv_iconst (v := 0) hx hb dL_event_18 (by decide) ?_
    exact R_I hC hS hr hlk rfl (Or.inl ⟨rfl, q0, ad9, hA, hG⟩) (Nat.le_of_ble_eq_true rfl) (Nat.le_of_ble_eq_true rfl) dL_event_19
theorem k_L_event {p : Program} {l : Launch} {e : Env} {R : Room} {s : State} {m : MethodId} {args : Array Value} {below : List Frame} {meth : Method} {c : Code} {H : Heap} {locs : List Loc} {cells slots : Nat} {Q : State → Prop} {cc : ByteArray} {pc nL : Nat} {ls : Array Slot} {rest : List Value} {own : String} {D : va_G} {cy : Nat → ClassId} {sa : Nat → Nat} {de B : Nat} {ad : Ad} {S : St} {n : Nat → Nat} {T : St} {k : Nat → Nat} {th : Int32} {f : Nat → Int64} {g9 : Nat → UInt64} {x : Int32} (hfl : l.stackTraces = false) (hC : Cx p m c cc nL s args own D cy sa de B) (hS : va_S (AB B) s.heap H locs) (hG : GW D B ad (Vw cy de ad S n T k th (Xl cy f g9)) H) (h0 : Inv S n) {idx : Nat} (wl : Cond.methodLink own idx yL_event ∈ G0) (hR : 9 + 1 ≤ R.frames ∧ 8 + (4 + 11) + 212 ≤ R.locals) (hsz : ls.size = nL) (hst : (rest.map fun v => v.category).sum ≤ 8) (hdg : decode cc pc = .ok (.invokestatic idx, 3)) (hcs : cells + 4 ≤ R.cells ∧ slots + 51 ≤ R.slots) (k0 : cd_event n x = 0 → ∀ (ad9 : Ad) (H1 : Heap) (locs1 : List Loc), Ag ad ad9 → GW D B ad9 (Vw cy de ad9 (evS S (n 3) x) (nUp n 3) T k th (Xl cy (vp_updL f 0 (Int32.toInt64 (nI (n 3)))) g9)) H1 → va_S (AB B) s.heap H1 locs1 → W p l e R s m args below meth c H1 locs1 (cells + 4) (slots + 51) Q (F0 m (pc + 3) ls (.int 0 :: rest))) (k1 : ∀ t9 : Nat, t9 < 4 → ¬ t9 = 0 → cd_event n x = t9 → ∀ (H1 : Heap) (locs1 : List Loc), GW D B ad (Vw cy de ad S n T k th (Xl cy f g9)) H1 → va_S (AB B) s.heap H1 locs1 → W p l e R s m args below meth c H1 locs1 (cells + 4) (slots + 51) Q (F0 m (pc + 3) ls (.int (nI t9) :: rest))) : W p l e R s m args below meth c H locs cells slots Q (F0 m pc ls (.ref (ad 20 0 0) :: .int x :: .ref (ad 0 0 0) :: rest)) :=
  va_calli (rSW hC hS hG h0 (As := [.ref (ad 0 0 0), .int x, .ref (ad 20 0 0)]) (c_L_event l hfl) ⟨rfl, rfl⟩ wl sm_L_event in_L cd_L_event (n := 3) (by decide +kernel) hR rfl hsz hst rfl hdg hcs) hS (fun _ _ h => h) (fun _ h => h) (fun r u t H1 locs1 ht _ hr hB _ _ hS1 => by
    subst hr
    have hB9 := hB; try dsimp only at hB9
    rw [ht] at hB9
    rcases hB9 with ⟨rfl, q0, ad9, hA, hG1⟩ | ⟨t9, q1, q2, q3, rfl, hG1⟩
    · exact k0 q0 ad9 _ _ hA hG1 hS1
    · exact k1 t9 q1 q2 q3 _ _ hG1 hS1)
set_option maxHeartbeats 4000000 in
set_option maxRecDepth 100000 in
theorem c_L_factor (l : Launch) (hfl : l.stackTraces = false) {D : va_G} {cy : Nat → ClassId} {sa : Nat → Nat} {de B : Nat} {ad : Ad} {S : St} {n : Nat → Nat} {T : St} {k : Nat → Nat} {th : Int32} {f : Nat → Int64} {g9 : Nat → UInt64} {x y z : Int32} : Met l yL_factor (Cond.codeWith yL_factor cL_factor 6 (Option.some Jvm.ClassFile.FieldType.int) [((0 : Nat), (12 : Nat), (15 : Nat), (13 : Nat)), ((0 : Nat), (12 : Nat), (19 : Nat), (21 : Nat)), ((0 : Nat), (12 : Nat), (23 : Nat), (46 : Nat))] :: G0) ({ frames := 8, cells := 2, slots := 12, locals := 128 } : Room) (va_Pc [.ref (ad 0 0 0), .int x, .int y, .int z, .ref (ad 20 0 0)] (PW D cy sa de B ad (Vw cy de ad S n T k th (Xl cy f g9)) (Inv S n))) (oI B (fun r H => (r = 0 ∧ cd_factor S n x y z = 0 ∧ ∃ ad9, Ag ad ad9 ∧ GW D B ad9 (Vw cy de ad9 (up_factor S x y z) n T k th (Xl cy (vp_updL f 0 (Int32.toInt64 (S 17 (ci x) (ci y)))) g9)) H) ∨ (∃ t9 : Nat, t9 < 4 ∧ ¬ t9 = 0 ∧ cd_factor S n x y z = t9 ∧ r = nI t9 ∧ GW D B ad (Vw cy de ad S n T k th (Xl cy f g9)) H))) 2 12 (AB B) := by
  refine E_metW (own := RL) rfl rfl (Nat.le_of_ble_eq_true rfl) ?_
  intro p e s m below meth c hC hr hlk htab hG h0 ls hl
  have hx := hC.x
  have hb := hC.b
  have hS : va_S (AB B) s.heap s.heap [] := va_S.rf
  have hl : lo ls 6 [some (.ref (ad 0 0 0)), some (.int x), some (.int y), some (.int z), some (.ref (ad 20 0 0)), none] := lo_of hl
  refine o_aload hx hb dL_factor_0 hl rfl ?_
  refine lv_iconst (v := 0) hx hb dL_factor_2 (by decide) ?_
  refine o_aload_n hx hb dL_factor_3 hl rfl ?_
  refine o_iload_n hx hb dL_factor_4 hl rfl ?_
  refine o_iload_n hx hb dL_factor_5 hl rfl ?_
  refine o_iload_n hx hb dL_factor_6 hl rfl ?_
  refine vx_calli (xV hC hS hG h0.1 (As := [.int x, .int y, .int z]) (c_X6_factor l hfl) ⟨rfl, rfl⟩ ml_L_78 im_X6_factor sl_X6_X6_factor in_X6 cd_X6_factor (n := 3) (by decide +kernel) ⟨(Nat.le_of_ble_eq_true rfl), (Nat.le_of_ble_eq_true rfl)⟩ (recv hC hG (q := (RX6, TX6, 6)) rfl V_games) rfl hl.1 (Nat.le_of_ble_eq_true rfl) rfl dL_factor_7 ⟨(Nat.le_of_ble_eq_true rfl), (Nat.le_of_ble_eq_true rfl)⟩) hS (fun _ _ h => h) (fun _ h => h) (fun _ _ h => h) (fun E ce q9 u t H1 locs1 ht hv hp hB hz hq hS1 hce hcv hcl => ?_) (fun r u t H1 locs1 ht _ hr1 hB _ _ hS1 => ?_)
  · (try dsimp only at hB)
    rw [ht] at hB
    obtain ⟨hE, hG1⟩ := hB
    rcases hE with ⟨rfl, hcd⟩ | ⟨rfl, hcd⟩ | ⟨rfl, hcd⟩
    · refine caught hC [] ⟨0, 12, 15, 13⟩ [⟨0, 12, 19, 21⟩, ⟨0, 12, 23, 46⟩] (htab.trans rfl) (fun z hz => absurd hz List.not_mem_nil) rfl (by decide) cl_L_13 (by decide) hce hcv hcl ?_
      refine o_astore hx hb dL_factor_15 hl (by decide) rfl (fun ls hl => ?_)
      refine lv_iconst (v := 1) hx hb dL_factor_17 (by decide) ?_
      exact R_I hC hS1 hr hlk rfl (Or.inr ⟨1, by decide, by decide, hcd, rfl, hG1⟩) (Nat.le_of_ble_eq_true rfl) (Nat.le_of_ble_eq_true rfl) dL_factor_18
    · refine caught hC [⟨0, 12, 15, 13⟩] ⟨0, 12, 19, 21⟩ [⟨0, 12, 23, 46⟩] (htab.trans rfl) (fun z hz => by
            cases List.mem_singleton.mp hz
            exact Or.inr ⟨by decide, _, hC.t _ cl_L_13, hC.k.2.2.2.2.1 (_, _) (by decide)⟩) rfl (by decide) cl_L_21 (by decide) hce hcv hcl ?_
      refine o_astore hx hb dL_factor_19 hl (by decide) rfl (fun ls hl => ?_)
      refine lv_iconst (v := 2) hx hb dL_factor_21 (by decide) ?_
      exact R_I hC hS1 hr hlk rfl (Or.inr ⟨2, by decide, by decide, hcd, rfl, hG1⟩) (Nat.le_of_ble_eq_true rfl) (Nat.le_of_ble_eq_true rfl) dL_factor_22
    · refine caught hC [⟨0, 12, 15, 13⟩, ⟨0, 12, 19, 21⟩] ⟨0, 12, 23, 46⟩ [] (htab.trans rfl) (fun z hz => by
            rcases List.mem_cons.mp hz with h | h
            · cases h; exact Or.inr ⟨by decide, _, hC.t _ cl_L_13, hC.k.2.2.2.2.1 (_, _) (by decide)⟩
            · cases List.mem_singleton.mp h; exact Or.inr ⟨by decide, _, hC.t _ cl_L_21, hC.k.2.2.2.2.1 (_, _) (by decide)⟩) rfl (by decide) cl_L_46 (by decide) hce hcv hcl ?_
      refine o_astore hx hb dL_factor_23 hl (by decide) rfl (fun ls hl => ?_)
      refine lv_iconst (v := 3) hx hb dL_factor_25 (by decide) ?_
      exact R_I hC hS1 hr hlk rfl (Or.inr ⟨3, by decide, by decide, hcd, rfl, hG1⟩) (Nat.le_of_ble_eq_true rfl) (Nat.le_of_ble_eq_true rfl) dL_factor_26
  · subst hr1
    (try dsimp only at hB)
    rw [ht] at hB
    obtain ⟨q0, rfl, hG1⟩ := hB
    refine lv_i2l hx hb dL_factor_10 rfl ?_
    refine g_last hC hG1 hS1 V_out 0 rfl (by decide) (by decide) (up_Vw (by decide) Xl_out) dL_factor_11 (fun H locs hG hS => ?_)
    refine lv_goto (tgt := 27) hx hb dL_factor_12 (by decide) ?_
    refine lv_iconst (v := 0) hx hb dL_factor_27 (by decide) ?_
    exact R_I hC hS hr hlk rfl (Or.inl ⟨rfl, q0, ad, Ag.rf, hG⟩) (Nat.le_of_ble_eq_true rfl) (Nat.le_of_ble_eq_true rfl) dL_factor_28
theorem k_L_factor {p : Program} {l : Launch} {e : Env} {R : Room} {s : State} {m : MethodId} {args : Array Value} {below : List Frame} {meth : Method} {c : Code} {H : Heap} {locs : List Loc} {cells slots : Nat} {Q : State → Prop} {cc : ByteArray} {pc nL : Nat} {ls : Array Slot} {rest : List Value} {own : String} {D : va_G} {cy : Nat → ClassId} {sa : Nat → Nat} {de B : Nat} {ad : Ad} {S : St} {n : Nat → Nat} {T : St} {k : Nat → Nat} {th : Int32} {f : Nat → Int64} {g9 : Nat → UInt64} {x y z : Int32} (hfl : l.stackTraces = false) (hC : Cx p m c cc nL s args own D cy sa de B) (hS : va_S (AB B) s.heap H locs) (hG : GW D B ad (Vw cy de ad S n T k th (Xl cy f g9)) H) (h0 : Inv S n) {idx : Nat} (wl : Cond.methodLink own idx yL_factor ∈ G0) (hR : 8 + 1 ≤ R.frames ∧ 8 + (6 + 11) + 128 ≤ R.locals) (hsz : ls.size = nL) (hst : (rest.map fun v => v.category).sum ≤ 8) (hdg : decode cc pc = .ok (.invokestatic idx, 3)) (hcs : cells + 2 ≤ R.cells ∧ slots + 12 ≤ R.slots) (k0 : cd_factor S n x y z = 0 → ∀ (ad9 : Ad) (H1 : Heap) (locs1 : List Loc), Ag ad ad9 → GW D B ad9 (Vw cy de ad9 (up_factor S x y z) n T k th (Xl cy (vp_updL f 0 (Int32.toInt64 (S 17 (ci x) (ci y)))) g9)) H1 → va_S (AB B) s.heap H1 locs1 → W p l e R s m args below meth c H1 locs1 (cells + 2) (slots + 12) Q (F0 m (pc + 3) ls (.int 0 :: rest))) (k1 : ∀ t9 : Nat, t9 < 4 → ¬ t9 = 0 → cd_factor S n x y z = t9 → ∀ (H1 : Heap) (locs1 : List Loc), GW D B ad (Vw cy de ad S n T k th (Xl cy f g9)) H1 → va_S (AB B) s.heap H1 locs1 → W p l e R s m args below meth c H1 locs1 (cells + 2) (slots + 12) Q (F0 m (pc + 3) ls (.int (nI t9) :: rest))) : W p l e R s m args below meth c H locs cells slots Q (F0 m pc ls (.ref (ad 20 0 0) :: .int z :: .int y :: .int x :: .ref (ad 0 0 0) :: rest)) :=
  va_calli (rSW hC hS hG h0 (As := [.ref (ad 0 0 0), .int x, .int y, .int z, .ref (ad 20 0 0)]) (c_L_factor l hfl) ⟨rfl, rfl⟩ wl sm_L_factor in_L cd_L_factor (n := 5) (by decide +kernel) hR rfl hsz hst rfl hdg hcs) hS (fun _ _ h => h) (fun _ h => h) (fun r u t H1 locs1 ht _ hr hB _ _ hS1 => by
    subst hr
    have hB9 := hB; try dsimp only at hB9
    rw [ht] at hB9
    rcases hB9 with ⟨rfl, q0, ad9, hA, hG1⟩ | ⟨t9, q1, q2, q3, rfl, hG1⟩
    · exact k0 q0 ad9 _ _ hA hG1 hS1
    · exact k1 t9 q1 q2 q3 _ _ hG1 hS1)
set_option maxHeartbeats 4000000 in
set_option maxRecDepth 100000 in
theorem c_L_enter (l : Launch) (hfl : l.stackTraces = false) {D : va_G} {cy : Nat → ClassId} {sa : Nat → Nat} {de B : Nat} {ad : Ad} {S : St} {n : Nat → Nat} {T : St} {k : Nat → Nat} {th : Int32} {f : Nat → Int64} {g9 : Nat → UInt64} {x y : Int32} : Met l yL_enter (Cond.codeWith yL_enter cL_enter 5 (Option.some Jvm.ClassFile.FieldType.int) [((0 : Nat), (10 : Nat), (13 : Nat), (13 : Nat)), ((0 : Nat), (10 : Nat), (17 : Nat), (46 : Nat))] :: G0) ({ frames := 8, cells := 3, slots := 18, locals := 128 } : Room) (va_Pc [.ref (ad 0 0 0), .int x, .int y, .ref (ad 20 0 0)] (PW D cy sa de B ad (Vw cy de ad S n T k th (Xl cy f g9)) (Inv S n))) (oI B (fun r H => (r = 0 ∧ cd_enter S n x y = 0 ∧ ∃ ad9, Ag ad ad9 ∧ GW D B ad9 (Vw cy de ad9 (enS S (ci x) (ci y)) (n) T k th (Xl cy (vp_updL f 0 (Int32.toInt64 (cnt (entP (enS S (ci x) (ci y)) (ci x)) 16))) g9)) H) ∨ (∃ t9 : Nat, t9 < 4 ∧ ¬ t9 = 0 ∧ cd_enter S n x y = t9 ∧ r = nI t9 ∧ GW D B ad (Vw cy de ad S n T k th (Xl cy f g9)) H))) 3 18 (AB B) := by
  refine E_metW (own := RL) rfl rfl (Nat.le_of_ble_eq_true rfl) ?_
  intro p e s m below meth c hC hr hlk htab hG h0 ls hl
  have hx := hC.x
  have hb := hC.b
  have hS : va_S (AB B) s.heap s.heap [] := va_S.rf
  have hl : lo ls 5 [some (.ref (ad 0 0 0)), some (.int x), some (.int y), some (.ref (ad 20 0 0)), none] := lo_of hl
  refine o_aload_n hx hb dL_enter_0 hl rfl ?_
  refine lv_iconst (v := 0) hx hb dL_enter_1 (by decide) ?_
  refine o_aload_n hx hb dL_enter_2 hl rfl ?_
  refine o_iload_n hx hb dL_enter_3 hl rfl ?_
  refine o_iload_n hx hb dL_enter_4 hl rfl ?_
  refine vx_calli (xV hC hS hG ⟨h0, rfl⟩ (As := [.int x, .int y]) (c_X6_enter l hfl) ⟨rfl, rfl⟩ ml_L_81 im_X6_enter sl_X6_X6_enter in_X6 cd_X6_enter (n := 2) (by decide +kernel) ⟨(Nat.le_of_ble_eq_true rfl), (Nat.le_of_ble_eq_true rfl)⟩ (recv hC hG (q := (RX6, TX6, 6)) rfl V_games) rfl hl.1 (Nat.le_of_ble_eq_true rfl) rfl dL_enter_5 ⟨(Nat.le_of_ble_eq_true rfl), (Nat.le_of_ble_eq_true rfl)⟩) hS (fun _ _ h => h) (fun _ h => h) (fun _ _ h => h) (fun E ce q9 u t H1 locs1 ht hv hp hB hz hq hS1 hce hcv hcl => ?_) (fun r u t H1 locs1 ht _ hr1 hB _ _ hS1 => ?_)
  · (try dsimp only at hB)
    rw [ht] at hB
    obtain ⟨hE, hG1⟩ := hB
    rcases hE with ⟨rfl, hcd⟩ | ⟨rfl, hcd⟩
    · refine caught hC [] ⟨0, 10, 13, 13⟩ [⟨0, 10, 17, 46⟩] (htab.trans rfl) (fun z hz => absurd hz List.not_mem_nil) rfl (by decide) cl_L_13 (by decide) hce hcv hcl ?_
      refine o_astore hx hb dL_enter_13 hl (by decide) rfl (fun ls hl => ?_)
      refine lv_iconst (v := 1) hx hb dL_enter_15 (by decide) ?_
      exact R_I hC hS1 hr hlk rfl (Or.inr ⟨1, by decide, by decide, hcd, rfl, hG1⟩) (Nat.le_of_ble_eq_true rfl) (Nat.le_of_ble_eq_true rfl) dL_enter_16
    · refine caught hC [⟨0, 10, 13, 13⟩] ⟨0, 10, 17, 46⟩ [] (htab.trans rfl) (fun z hz => by
            cases List.mem_singleton.mp hz
            exact Or.inr ⟨by decide, _, hC.t _ cl_L_13, hC.k.2.2.2.2.1 (_, _) (by decide)⟩) rfl (by decide) cl_L_46 (by decide) hce hcv hcl ?_
      refine o_astore hx hb dL_enter_17 hl (by decide) rfl (fun ls hl => ?_)
      refine lv_iconst (v := 2) hx hb dL_enter_19 (by decide) ?_
      exact R_I hC hS1 hr hlk rfl (Or.inr ⟨2, by decide, by decide, hcd, rfl, hG1⟩) (Nat.le_of_ble_eq_true rfl) (Nat.le_of_ble_eq_true rfl) dL_enter_20
  · subst hr1
    (try dsimp only at hB)
    rw [ht] at hB
    obtain ⟨q0, rfl, ad9, hA, hG1⟩ := hB
    refine lv_i2l hx hb dL_enter_8 rfl ?_
    refine bn_2 (congrFun (congrFun (hA 20 (Or.inr (by decide))) _) _) ?_
    refine g_last hC hG1 hS1 V_out 0 rfl (by decide) (by decide) (up_Vw (by decide) Xl_out) dL_enter_9 (fun H locs hG hS => ?_)
    refine lv_goto (tgt := 21) hx hb dL_enter_10 (by decide) ?_
    refine lv_iconst (v := 0) hx hb dL_enter_21 (by decide) ?_
    exact R_I hC hS hr hlk rfl (Or.inl ⟨rfl, q0, ad9, hA, hG⟩) (Nat.le_of_ble_eq_true rfl) (Nat.le_of_ble_eq_true rfl) dL_enter_22
theorem k_L_enter {p : Program} {l : Launch} {e : Env} {R : Room} {s : State} {m : MethodId} {args : Array Value} {below : List Frame} {meth : Method} {c : Code} {H : Heap} {locs : List Loc} {cells slots : Nat} {Q : State → Prop} {cc : ByteArray} {pc nL : Nat} {ls : Array Slot} {rest : List Value} {own : String} {D : va_G} {cy : Nat → ClassId} {sa : Nat → Nat} {de B : Nat} {ad : Ad} {S : St} {n : Nat → Nat} {T : St} {k : Nat → Nat} {th : Int32} {f : Nat → Int64} {g9 : Nat → UInt64} {x y : Int32} (hfl : l.stackTraces = false) (hC : Cx p m c cc nL s args own D cy sa de B) (hS : va_S (AB B) s.heap H locs) (hG : GW D B ad (Vw cy de ad S n T k th (Xl cy f g9)) H) (h0 : Inv S n) {idx : Nat} (wl : Cond.methodLink own idx yL_enter ∈ G0) (hR : 8 + 1 ≤ R.frames ∧ 8 + (5 + 11) + 128 ≤ R.locals) (hsz : ls.size = nL) (hst : (rest.map fun v => v.category).sum ≤ 8) (hdg : decode cc pc = .ok (.invokestatic idx, 3)) (hcs : cells + 3 ≤ R.cells ∧ slots + 18 ≤ R.slots) (k0 : cd_enter S n x y = 0 → ∀ (ad9 : Ad) (H1 : Heap) (locs1 : List Loc), Ag ad ad9 → GW D B ad9 (Vw cy de ad9 (enS S (ci x) (ci y)) (n) T k th (Xl cy (vp_updL f 0 (Int32.toInt64 (cnt (entP (enS S (ci x) (ci y)) (ci x)) 16))) g9)) H1 → va_S (AB B) s.heap H1 locs1 → W p l e R s m args below meth c H1 locs1 (cells + 3) (slots + 18) Q (F0 m (pc + 3) ls (.int 0 :: rest))) (k1 : ∀ t9 : Nat, t9 < 4 → ¬ t9 = 0 → cd_enter S n x y = t9 → ∀ (H1 : Heap) (locs1 : List Loc), GW D B ad (Vw cy de ad S n T k th (Xl cy f g9)) H1 → va_S (AB B) s.heap H1 locs1 → W p l e R s m args below meth c H1 locs1 (cells + 3) (slots + 18) Q (F0 m (pc + 3) ls (.int (nI t9) :: rest))) : W p l e R s m args below meth c H locs cells slots Q (F0 m pc ls (.ref (ad 20 0 0) :: .int y :: .int x :: .ref (ad 0 0 0) :: rest)) :=
  va_calli (rSW hC hS hG h0 (As := [.ref (ad 0 0 0), .int x, .int y, .ref (ad 20 0 0)]) (c_L_enter l hfl) ⟨rfl, rfl⟩ wl sm_L_enter in_L cd_L_enter (n := 4) (by decide +kernel) hR rfl hsz hst rfl hdg hcs) hS (fun _ _ h => h) (fun _ h => h) (fun r u t H1 locs1 ht _ hr hB _ _ hS1 => by
    subst hr
    have hB9 := hB; try dsimp only at hB9
    rw [ht] at hB9
    rcases hB9 with ⟨rfl, q0, ad9, hA, hG1⟩ | ⟨t9, q1, q2, q3, rfl, hG1⟩
    · exact k0 q0 ad9 _ _ hA hG1 hS1
    · exact k1 t9 q1 q2 q3 _ _ hG1 hS1)
set_option maxHeartbeats 4000000 in
set_option maxRecDepth 100000 in
theorem c_L_begin (l : Launch) (hfl : l.stackTraces = false) {D : va_G} {cy : Nat → ClassId} {sa : Nat → Nat} {de B : Nat} {ad : Ad} {S : St} {n : Nat → Nat} {T : St} {k : Nat → Nat} {th : Int32} {f : Nat → Int64} {g9 : Nat → UInt64} {x : Int32} : Met l yL_begin (Cond.codeWith yL_begin cL_begin 4 (Option.some Jvm.ClassFile.FieldType.int) [((0 : Nat), (9 : Nat), (12 : Nat), (13 : Nat)), ((0 : Nat), (9 : Nat), (15 : Nat), (46 : Nat))] :: G0) ({ frames := 8, cells := 2, slots := 12, locals := 126 } : Room) (va_Pc [.ref (ad 0 0 0), .int x, .ref (ad 20 0 0)] (PW D cy sa de B ad (Vw cy de ad S n T k th (Xl cy f g9)) (Inv S n))) (oI B (fun r H => (r = 0 ∧ cd_begin S n x = 0 ∧ ∃ ad9, Ag ad ad9 ∧ GW D B ad9 (Vw cy de ad9 (up3 S 18 (ci x) 0 1) n T k th (Xl cy (vp_updL f 0 (Int32.toInt64 (cnt (stP S (ci x)) 16))) g9)) H) ∨ (∃ t9 : Nat, t9 < 4 ∧ ¬ t9 = 0 ∧ cd_begin S n x = t9 ∧ r = nI t9 ∧ GW D B ad (Vw cy de ad S n T k th (Xl cy f g9)) H))) 2 12 (AB B) := by
  refine E_metW (own := RL) rfl rfl (Nat.le_of_ble_eq_true rfl) ?_
  intro p e s m below meth c hC hr hlk htab hG h0 ls hl
  have hx := hC.x
  have hb := hC.b
  have hS : va_S (AB B) s.heap s.heap [] := va_S.rf
  have hl : lo ls 4 [some (.ref (ad 0 0 0)), some (.int x), some (.ref (ad 20 0 0)), none] := lo_of hl
  refine o_aload_n hx hb dL_begin_0 hl rfl ?_
  refine lv_iconst (v := 0) hx hb dL_begin_1 (by decide) ?_
  refine o_aload_n hx hb dL_begin_2 hl rfl ?_
  refine o_iload_n hx hb dL_begin_3 hl rfl ?_
  refine vx_calli (xV hC hS hG h0.1 (As := [.int x]) (c_X6_begin l hfl) ⟨rfl, rfl⟩ ml_L_84 im_X6_begin sl_X6_X6_begin in_X6 cd_X6_begin (n := 1) (by decide +kernel) ⟨(Nat.le_of_ble_eq_true rfl), (Nat.le_of_ble_eq_true rfl)⟩ (recv hC hG (q := (RX6, TX6, 6)) rfl V_games) rfl hl.1 (Nat.le_of_ble_eq_true rfl) rfl dL_begin_4 ⟨(Nat.le_of_ble_eq_true rfl), (Nat.le_of_ble_eq_true rfl)⟩) hS (fun _ _ h => h) (fun _ h => h) (fun _ _ h => h) (fun E ce q9 u t H1 locs1 ht hv hp hB hz hq hS1 hce hcv hcl => ?_) (fun r u t H1 locs1 ht _ hr1 hB _ _ hS1 => ?_)
  · (try dsimp only at hB)
    rw [ht] at hB
    obtain ⟨hE, hG1⟩ := hB
    rcases hE with ⟨rfl, hcd⟩ | ⟨rfl, hcd⟩
    · refine caught hC [] ⟨0, 9, 12, 13⟩ [⟨0, 9, 15, 46⟩] (htab.trans rfl) (fun z hz => absurd hz List.not_mem_nil) rfl (by decide) cl_L_13 (by decide) hce hcv hcl ?_
      refine o_astore_n hx hb dL_begin_12 hl (by decide) rfl (fun ls hl => ?_)
      refine lv_iconst (v := 1) hx hb dL_begin_13 (by decide) ?_
      exact R_I hC hS1 hr hlk rfl (Or.inr ⟨1, by decide, by decide, hcd, rfl, hG1⟩) (Nat.le_of_ble_eq_true rfl) (Nat.le_of_ble_eq_true rfl) dL_begin_14
    · refine caught hC [⟨0, 9, 12, 13⟩] ⟨0, 9, 15, 46⟩ [] (htab.trans rfl) (fun z hz => by
            cases List.mem_singleton.mp hz
            exact Or.inr ⟨by decide, _, hC.t _ cl_L_13, hC.k.2.2.2.2.1 (_, _) (by decide)⟩) rfl (by decide) cl_L_46 (by decide) hce hcv hcl ?_
      refine o_astore_n hx hb dL_begin_15 hl (by decide) rfl (fun ls hl => ?_)
      refine lv_iconst (v := 2) hx hb dL_begin_16 (by decide) ?_
      exact R_I hC hS1 hr hlk rfl (Or.inr ⟨2, by decide, by decide, hcd, rfl, hG1⟩) (Nat.le_of_ble_eq_true rfl) (Nat.le_of_ble_eq_true rfl) dL_begin_17
  · subst hr1
    (try dsimp only at hB)
    rw [ht] at hB
    obtain ⟨q0, rfl, hG1⟩ := hB
    refine lv_i2l hx hb dL_begin_7 rfl ?_
    refine g_last hC hG1 hS1 V_out 0 rfl (by decide) (by decide) (up_Vw (by decide) Xl_out) dL_begin_8 (fun H locs hG hS => ?_)
    refine lv_goto (tgt := 18) hx hb dL_begin_9 (by decide) ?_
    refine lv_iconst (v := 0) hx hb dL_begin_18 (by decide) ?_
    exact R_I hC hS hr hlk rfl (Or.inl ⟨rfl, q0, ad, Ag.rf, hG⟩) (Nat.le_of_ble_eq_true rfl) (Nat.le_of_ble_eq_true rfl) dL_begin_19
theorem k_L_begin {p : Program} {l : Launch} {e : Env} {R : Room} {s : State} {m : MethodId} {args : Array Value} {below : List Frame} {meth : Method} {c : Code} {H : Heap} {locs : List Loc} {cells slots : Nat} {Q : State → Prop} {cc : ByteArray} {pc nL : Nat} {ls : Array Slot} {rest : List Value} {own : String} {D : va_G} {cy : Nat → ClassId} {sa : Nat → Nat} {de B : Nat} {ad : Ad} {S : St} {n : Nat → Nat} {T : St} {k : Nat → Nat} {th : Int32} {f : Nat → Int64} {g9 : Nat → UInt64} {x : Int32} (hfl : l.stackTraces = false) (hC : Cx p m c cc nL s args own D cy sa de B) (hS : va_S (AB B) s.heap H locs) (hG : GW D B ad (Vw cy de ad S n T k th (Xl cy f g9)) H) (h0 : Inv S n) {idx : Nat} (wl : Cond.methodLink own idx yL_begin ∈ G0) (hR : 8 + 1 ≤ R.frames ∧ 8 + (4 + 11) + 126 ≤ R.locals) (hsz : ls.size = nL) (hst : (rest.map fun v => v.category).sum ≤ 8) (hdg : decode cc pc = .ok (.invokestatic idx, 3)) (hcs : cells + 2 ≤ R.cells ∧ slots + 12 ≤ R.slots) (k0 : cd_begin S n x = 0 → ∀ (ad9 : Ad) (H1 : Heap) (locs1 : List Loc), Ag ad ad9 → GW D B ad9 (Vw cy de ad9 (up3 S 18 (ci x) 0 1) n T k th (Xl cy (vp_updL f 0 (Int32.toInt64 (cnt (stP S (ci x)) 16))) g9)) H1 → va_S (AB B) s.heap H1 locs1 → W p l e R s m args below meth c H1 locs1 (cells + 2) (slots + 12) Q (F0 m (pc + 3) ls (.int 0 :: rest))) (k1 : ∀ t9 : Nat, t9 < 4 → ¬ t9 = 0 → cd_begin S n x = t9 → ∀ (H1 : Heap) (locs1 : List Loc), GW D B ad (Vw cy de ad S n T k th (Xl cy f g9)) H1 → va_S (AB B) s.heap H1 locs1 → W p l e R s m args below meth c H1 locs1 (cells + 2) (slots + 12) Q (F0 m (pc + 3) ls (.int (nI t9) :: rest))) : W p l e R s m args below meth c H locs cells slots Q (F0 m pc ls (.ref (ad 20 0 0) :: .int x :: .ref (ad 0 0 0) :: rest)) :=
  va_calli (rSW hC hS hG h0 (As := [.ref (ad 0 0 0), .int x, .ref (ad 20 0 0)]) (c_L_begin l hfl) ⟨rfl, rfl⟩ wl sm_L_begin in_L cd_L_begin (n := 3) (by decide +kernel) hR rfl hsz hst rfl hdg hcs) hS (fun _ _ h => h) (fun _ h => h) (fun r u t H1 locs1 ht _ hr hB _ _ hS1 => by
    subst hr
    have hB9 := hB; try dsimp only at hB9
    rw [ht] at hB9
    rcases hB9 with ⟨rfl, q0, ad9, hA, hG1⟩ | ⟨t9, q1, q2, q3, rfl, hG1⟩
    · exact k0 q0 ad9 _ _ hA hG1 hS1
    · exact k1 t9 q1 q2 q3 _ _ hG1 hS1)
set_option maxHeartbeats 4000000 in
set_option maxRecDepth 100000 in
theorem c_L_result (l : Launch) (hfl : l.stackTraces = false) {D : va_G} {cy : Nat → ClassId} {sa : Nat → Nat} {de B : Nat} {ad : Ad} {S : St} {n : Nat → Nat} {T : St} {k : Nat → Nat} {th : Int32} {f : Nat → Int64} {g9 : Nat → UInt64} {x y t g : Int32} : Met l yL_result (Cond.codeWith yL_result cL_result 7 (Option.some Jvm.ClassFile.FieldType.int) [((0 : Nat), (14 : Nat), (17 : Nat), (13 : Nat)), ((0 : Nat), (14 : Nat), (21 : Nat), (21 : Nat)), ((0 : Nat), (14 : Nat), (25 : Nat), (46 : Nat))] :: G0) ({ frames := 8, cells := 3, slots := 18, locals := 130 } : Room) (va_Pc [.ref (ad 0 0 0), .int x, .int y, .int t, .int g, .ref (ad 20 0 0)] (PW D cy sa de B ad (Vw cy de ad S n T k th (Xl cy f g9)) (Inv S n))) (oI B (fun r H => (r = 0 ∧ cd_result S n x y t g = 0 ∧ ∃ ad9, Ag ad ad9 ∧ GW D B ad9 (Vw cy de ad9 (reS S (ci x) (ci y) t g) n T k th (Xl cy (vp_updL f 0 (Int32.toInt64 (vl_result S (ci x) (ci y) t g))) g9)) H) ∨ (∃ t9 : Nat, t9 < 4 ∧ ¬ t9 = 0 ∧ cd_result S n x y t g = t9 ∧ r = nI t9 ∧ GW D B ad (Vw cy de ad S n T k th (Xl cy f g9)) H))) 3 18 (AB B) := by
  refine E_metW (own := RL) rfl rfl (Nat.le_of_ble_eq_true rfl) ?_
  intro p e s m below meth c hC hr hlk htab hG h0 ls hl
  have hx := hC.x
  have hb := hC.b
  have hS : va_S (AB B) s.heap s.heap [] := va_S.rf
  have hl : lo ls 7 [some (.ref (ad 0 0 0)), some (.int x), some (.int y), some (.int t), some (.int g), some (.ref (ad 20 0 0)), none] := lo_of hl
  refine o_aload hx hb dL_result_0 hl rfl ?_
  refine lv_iconst (v := 0) hx hb dL_result_2 (by decide) ?_
  refine o_aload_n hx hb dL_result_3 hl rfl ?_
  refine o_iload_n hx hb dL_result_4 hl rfl ?_
  refine o_iload_n hx hb dL_result_5 hl rfl ?_
  refine o_iload_n hx hb dL_result_6 hl rfl ?_
  refine o_iload hx hb dL_result_7 hl rfl ?_
  refine vx_calli (xV hC hS hG h0.1 (As := [.int x, .int y, .int t, .int g]) (c_X6_result l hfl) ⟨rfl, rfl⟩ ml_L_87 im_X6_result sl_X6_X6_result in_X6 cd_X6_result (n := 4) (by decide +kernel) ⟨(Nat.le_of_ble_eq_true rfl), (Nat.le_of_ble_eq_true rfl)⟩ (recv hC hG (q := (RX6, TX6, 6)) rfl V_games) rfl hl.1 (Nat.le_of_ble_eq_true rfl) rfl dL_result_9 ⟨(Nat.le_of_ble_eq_true rfl), (Nat.le_of_ble_eq_true rfl)⟩) hS (fun _ _ h => h) (fun _ h => h) (fun _ _ h => h) (fun E ce q9 u t H1 locs1 ht hv hp hB hz hq hS1 hce hcv hcl => ?_) (fun r u t H1 locs1 ht _ hr1 hB _ _ hS1 => ?_)
  · (try dsimp only at hB)
    rw [ht] at hB
    obtain ⟨hE, hG1⟩ := hB
    rcases hE with ⟨rfl, hcd⟩ | ⟨rfl, hcd⟩ | ⟨rfl, hcd⟩
    · refine caught hC [] ⟨0, 14, 17, 13⟩ [⟨0, 14, 21, 21⟩, ⟨0, 14, 25, 46⟩] (htab.trans rfl) (fun z hz => absurd hz List.not_mem_nil) rfl (by decide) cl_L_13 (by decide) hce hcv hcl ?_
      refine o_astore hx hb dL_result_17 hl (by decide) rfl (fun ls hl => ?_)
      refine lv_iconst (v := 1) hx hb dL_result_19 (by decide) ?_
      exact R_I hC hS1 hr hlk rfl (Or.inr ⟨1, by decide, by decide, hcd, rfl, hG1⟩) (Nat.le_of_ble_eq_true rfl) (Nat.le_of_ble_eq_true rfl) dL_result_20
    · refine caught hC [⟨0, 14, 17, 13⟩] ⟨0, 14, 21, 21⟩ [⟨0, 14, 25, 46⟩] (htab.trans rfl) (fun z hz => by
            cases List.mem_singleton.mp hz
            exact Or.inr ⟨by decide, _, hC.t _ cl_L_13, hC.k.2.2.2.2.1 (_, _) (by decide)⟩) rfl (by decide) cl_L_21 (by decide) hce hcv hcl ?_
      refine o_astore hx hb dL_result_21 hl (by decide) rfl (fun ls hl => ?_)
      refine lv_iconst (v := 2) hx hb dL_result_23 (by decide) ?_
      exact R_I hC hS1 hr hlk rfl (Or.inr ⟨2, by decide, by decide, hcd, rfl, hG1⟩) (Nat.le_of_ble_eq_true rfl) (Nat.le_of_ble_eq_true rfl) dL_result_24
    · refine caught hC [⟨0, 14, 17, 13⟩, ⟨0, 14, 21, 21⟩] ⟨0, 14, 25, 46⟩ [] (htab.trans rfl) (fun z hz => by
            rcases List.mem_cons.mp hz with h | h
            · cases h; exact Or.inr ⟨by decide, _, hC.t _ cl_L_13, hC.k.2.2.2.2.1 (_, _) (by decide)⟩
            · cases List.mem_singleton.mp h; exact Or.inr ⟨by decide, _, hC.t _ cl_L_21, hC.k.2.2.2.2.1 (_, _) (by decide)⟩) rfl (by decide) cl_L_46 (by decide) hce hcv hcl ?_
      refine o_astore hx hb dL_result_25 hl (by decide) rfl (fun ls hl => ?_)
      refine lv_iconst (v := 3) hx hb dL_result_27 (by decide) ?_
      exact R_I hC hS1 hr hlk rfl (Or.inr ⟨3, by decide, by decide, hcd, rfl, hG1⟩) (Nat.le_of_ble_eq_true rfl) (Nat.le_of_ble_eq_true rfl) dL_result_28
  · subst hr1
    (try dsimp only at hB)
    rw [ht] at hB
    obtain ⟨q0, rfl, hG1⟩ := hB
    refine lv_i2l hx hb dL_result_12 rfl ?_
    refine g_last hC hG1 hS1 V_out 0 rfl (by decide) (by decide) (up_Vw (by decide) Xl_out) dL_result_13 (fun H locs hG hS => ?_)
    refine lv_goto (tgt := 29) hx hb dL_result_14 (by decide) ?_
    refine lv_iconst (v := 0) hx hb dL_result_29 (by decide) ?_
    exact R_I hC hS hr hlk rfl (Or.inl ⟨rfl, q0, ad, Ag.rf, hG⟩) (Nat.le_of_ble_eq_true rfl) (Nat.le_of_ble_eq_true rfl) dL_result_30
theorem k_L_result {p : Program} {l : Launch} {e : Env} {R : Room} {s : State} {m : MethodId} {args : Array Value} {below : List Frame} {meth : Method} {c : Code} {H : Heap} {locs : List Loc} {cells slots : Nat} {Q : State → Prop} {cc : ByteArray} {pc nL : Nat} {ls : Array Slot} {rest : List Value} {own : String} {D : va_G} {cy : Nat → ClassId} {sa : Nat → Nat} {de B : Nat} {ad : Ad} {S : St} {n : Nat → Nat} {T : St} {k : Nat → Nat} {th : Int32} {f : Nat → Int64} {g9 : Nat → UInt64} {x y t g : Int32} (hfl : l.stackTraces = false) (hC : Cx p m c cc nL s args own D cy sa de B) (hS : va_S (AB B) s.heap H locs) (hG : GW D B ad (Vw cy de ad S n T k th (Xl cy f g9)) H) (h0 : Inv S n) {idx : Nat} (wl : Cond.methodLink own idx yL_result ∈ G0) (hR : 8 + 1 ≤ R.frames ∧ 8 + (7 + 11) + 130 ≤ R.locals) (hsz : ls.size = nL) (hst : (rest.map fun v => v.category).sum ≤ 8) (hdg : decode cc pc = .ok (.invokestatic idx, 3)) (hcs : cells + 3 ≤ R.cells ∧ slots + 18 ≤ R.slots) (k0 : cd_result S n x y t g = 0 → ∀ (ad9 : Ad) (H1 : Heap) (locs1 : List Loc), Ag ad ad9 → GW D B ad9 (Vw cy de ad9 (reS S (ci x) (ci y) t g) n T k th (Xl cy (vp_updL f 0 (Int32.toInt64 (vl_result S (ci x) (ci y) t g))) g9)) H1 → va_S (AB B) s.heap H1 locs1 → W p l e R s m args below meth c H1 locs1 (cells + 3) (slots + 18) Q (F0 m (pc + 3) ls (.int 0 :: rest))) (k1 : ∀ t9 : Nat, t9 < 4 → ¬ t9 = 0 → cd_result S n x y t g = t9 → ∀ (H1 : Heap) (locs1 : List Loc), GW D B ad (Vw cy de ad S n T k th (Xl cy f g9)) H1 → va_S (AB B) s.heap H1 locs1 → W p l e R s m args below meth c H1 locs1 (cells + 3) (slots + 18) Q (F0 m (pc + 3) ls (.int (nI t9) :: rest))) : W p l e R s m args below meth c H locs cells slots Q (F0 m pc ls (.ref (ad 20 0 0) :: .int g :: .int t :: .int y :: .int x :: .ref (ad 0 0 0) :: rest)) :=
  va_calli (rSW hC hS hG h0 (As := [.ref (ad 0 0 0), .int x, .int y, .int t, .int g, .ref (ad 20 0 0)]) (c_L_result l hfl) ⟨rfl, rfl⟩ wl sm_L_result in_L cd_L_result (n := 6) (by decide +kernel) hR rfl hsz hst rfl hdg hcs) hS (fun _ _ h => h) (fun _ h => h) (fun r u t H1 locs1 ht _ hr hB _ _ hS1 => by
    subst hr
    have hB9 := hB; try dsimp only at hB9
    rw [ht] at hB9
    rcases hB9 with ⟨rfl, q0, ad9, hA, hG1⟩ | ⟨t9, q1, q2, q3, rfl, hG1⟩
    · exact k0 q0 ad9 _ _ hA hG1 hS1
    · exact k1 t9 q1 q2 q3 _ _ hG1 hS1)
set_option maxHeartbeats 4000000 in
set_option maxRecDepth 100000 in
theorem c_L_fell (l : Launch) (hfl : l.stackTraces = false) {D : va_G} {cy : Nat → ClassId} {sa : Nat → Nat} {de B : Nat} {ad : Ad} {S : St} {n : Nat → Nat} {T : St} {k : Nat → Nat} {th : Int32} {f : Nat → Int64} {g9 : Nat → UInt64} {x y : Int32} : Met l yL_fell (Cond.codeWith yL_fell cL_fell 5 (Option.some Jvm.ClassFile.FieldType.int) [((0 : Nat), (17 : Nat), (20 : Nat), (13 : Nat)), ((0 : Nat), (17 : Nat), (24 : Nat), (30 : Nat))] :: G0) ({ frames := 9, cells := 3, slots := 18, locals := 148 } : Room) (va_Pc [.ref (ad 0 0 0), .int x, .int y, .ref (ad 20 0 0)] (PW D cy sa de B ad (Vw cy de ad S n T k th (Xl cy f g9)) (Inv S n))) (oI B (fun r H => (r = 0 ∧ cd_ent S n x y = 0 ∧ ∃ ad9, Ag ad ad9 ∧ GW D B ad9 (Vw cy de ad9 S n T k th (Xl cy (vp_updL f 0 (if (S 21 (ci x) (ci y)) = 0 then (0 : Int64) else 1)) g9)) H) ∨ (∃ t9 : Nat, t9 < 4 ∧ ¬ t9 = 0 ∧ cd_ent S n x y = t9 ∧ r = nI t9 ∧ GW D B ad (Vw cy de ad S n T k th (Xl cy f g9)) H))) 3 18 (AB B) := by
  refine E_metW (own := RL) rfl rfl (Nat.le_of_ble_eq_true rfl) ?_
  intro p e s m below meth c hC hr hlk htab hG h0 ls hl
  have hx := hC.x
  have hb := hC.b
  have hS : va_S (AB B) s.heap s.heap [] := va_S.rf
  have hl : lo ls 5 [some (.ref (ad 0 0 0)), some (.int x), some (.int y), some (.ref (ad 20 0 0)), none] := lo_of hl
  refine o_aload_n hx hb dL_fell_0 hl rfl ?_
  refine lv_iconst (v := 0) hx hb dL_fell_1 (by decide) ?_
  refine o_aload_n hx hb dL_fell_2 hl rfl ?_
  refine o_iload_n hx hb dL_fell_3 hl rfl ?_
  refine o_iload_n hx hb dL_fell_4 hl rfl ?_
  refine vx_calli (xV hC hS hG h0.1 (As := [.int x, .int y]) (c_X6_fell l hfl) ⟨rfl, rfl⟩ ml_L_90 im_X6_fell sl_X6_X6_fell in_X6 cd_X6_fell (n := 2) (by decide +kernel) ⟨(Nat.le_of_ble_eq_true rfl), (Nat.le_of_ble_eq_true rfl)⟩ (recv hC hG (q := (RX6, TX6, 6)) rfl V_games) rfl hl.1 (Nat.le_of_ble_eq_true rfl) rfl dL_fell_5 ⟨(Nat.le_of_ble_eq_true rfl), (Nat.le_of_ble_eq_true rfl)⟩) hS (fun _ _ h => h) (fun _ h => h) (fun _ _ h => h) (fun E ce q9 u t H1 locs1 ht hv hp hB hz hq hS1 hce hcv hcl => ?_) (fun r u t H1 locs1 ht _ hr1 hB _ _ hS1 => ?_)
  · (try dsimp only at hB)
    rw [ht] at hB
    obtain ⟨hE, hG1⟩ := hB
    rcases hE with ⟨rfl, hcd⟩ | ⟨rfl, hcd⟩
    · refine caught hC [] ⟨0, 17, 20, 13⟩ [⟨0, 17, 24, 30⟩] (htab.trans rfl) (fun z hz => absurd hz List.not_mem_nil) rfl (by decide) cl_L_13 (by decide) hce hcv hcl ?_
      refine o_astore hx hb dL_fell_20 hl (by decide) rfl (fun ls hl => ?_)
      refine lv_iconst (v := 1) hx hb dL_fell_22 (by decide) ?_
      exact R_I hC hS1 hr hlk rfl (Or.inr ⟨1, by decide, by decide, hcd, rfl, hG1⟩) (Nat.le_of_ble_eq_true rfl) (Nat.le_of_ble_eq_true rfl) dL_fell_23
    · refine caught hC [⟨0, 17, 20, 13⟩] ⟨0, 17, 24, 30⟩ [] (htab.trans rfl) (fun z hz => by
            cases List.mem_singleton.mp hz
            exact Or.inr ⟨by decide, _, hC.t _ cl_L_13, hC.k.2.2.2.2.1 (_, _) (by decide)⟩) rfl (by decide) cl_L_30 (by decide) hce hcv hcl ?_
      refine o_astore hx hb dL_fell_24 hl (by decide) rfl (fun ls hl => ?_)
      refine lv_iconst (v := 2) hx hb dL_fell_26 (by decide) ?_
      exact R_I hC hS1 hr hlk rfl (Or.inr ⟨2, by decide, by decide, hcd, rfl, hG1⟩) (Nat.le_of_ble_eq_true rfl) (Nat.le_of_ble_eq_true rfl) dL_fell_27
  · subst hr1
    (try dsimp only at hB)
    rw [ht] at hB
    obtain ⟨q0, rfl, hG1⟩ := hB
    refine lv_if_eq (tgt := 15) hx hb dL_fell_8 (by decide) (fun h8 => ?_) (fun h8 => ?_)
    · refine lv_lconst hx hb dL_fell_15 rfl ?_
      refine g_last hC hG1 hS1 V_out 0 rfl (by decide) (by decide) (up_Vw (by decide) Xl_out) dL_fell_16 (fun H locs hG hS => ?_)
      refine lv_goto (tgt := 28) hx hb dL_fell_17 (by decide) ?_
      refine lv_iconst (v := 0) hx hb dL_fell_28 (by decide) ?_
      exact R_I hC hS hr hlk rfl (Or.inl ⟨rfl, q0, ad, Ag.rf, by rw [if_pos h8]; exact hG⟩) (Nat.le_of_ble_eq_true rfl) (Nat.le_of_ble_eq_true rfl) dL_fell_29
    · refine lv_lconst hx hb dL_fell_11 rfl ?_
      refine lv_goto (tgt := 16) hx hb dL_fell_12 (by decide) ?_
      refine g_last hC hG1 hS1 V_out 0 rfl (by decide) (by decide) (up_Vw (by decide) Xl_out) dL_fell_16 (fun H locs hG hS => ?_)
      refine lv_goto (tgt := 28) hx hb dL_fell_17 (by decide) ?_
      refine lv_iconst (v := 0) hx hb dL_fell_28 (by decide) ?_
      exact R_I hC hS hr hlk rfl (Or.inl ⟨rfl, q0, ad, Ag.rf, by rw [if_neg h8]; exact hG⟩) (Nat.le_of_ble_eq_true rfl) (Nat.le_of_ble_eq_true rfl) dL_fell_29
theorem k_L_fell {p : Program} {l : Launch} {e : Env} {R : Room} {s : State} {m : MethodId} {args : Array Value} {below : List Frame} {meth : Method} {c : Code} {H : Heap} {locs : List Loc} {cells slots : Nat} {Q : State → Prop} {cc : ByteArray} {pc nL : Nat} {ls : Array Slot} {rest : List Value} {own : String} {D : va_G} {cy : Nat → ClassId} {sa : Nat → Nat} {de B : Nat} {ad : Ad} {S : St} {n : Nat → Nat} {T : St} {k : Nat → Nat} {th : Int32} {f : Nat → Int64} {g9 : Nat → UInt64} {x y : Int32} (hfl : l.stackTraces = false) (hC : Cx p m c cc nL s args own D cy sa de B) (hS : va_S (AB B) s.heap H locs) (hG : GW D B ad (Vw cy de ad S n T k th (Xl cy f g9)) H) (h0 : Inv S n) {idx : Nat} (wl : Cond.methodLink own idx yL_fell ∈ G0) (hR : 9 + 1 ≤ R.frames ∧ 8 + (5 + 11) + 148 ≤ R.locals) (hsz : ls.size = nL) (hst : (rest.map fun v => v.category).sum ≤ 8) (hdg : decode cc pc = .ok (.invokestatic idx, 3)) (hcs : cells + 3 ≤ R.cells ∧ slots + 18 ≤ R.slots) (k0 : cd_ent S n x y = 0 → ∀ (ad9 : Ad) (H1 : Heap) (locs1 : List Loc), Ag ad ad9 → GW D B ad9 (Vw cy de ad9 S n T k th (Xl cy (vp_updL f 0 (if (S 21 (ci x) (ci y)) = 0 then (0 : Int64) else 1)) g9)) H1 → va_S (AB B) s.heap H1 locs1 → W p l e R s m args below meth c H1 locs1 (cells + 3) (slots + 18) Q (F0 m (pc + 3) ls (.int 0 :: rest))) (k1 : ∀ t9 : Nat, t9 < 4 → ¬ t9 = 0 → cd_ent S n x y = t9 → ∀ (H1 : Heap) (locs1 : List Loc), GW D B ad (Vw cy de ad S n T k th (Xl cy f g9)) H1 → va_S (AB B) s.heap H1 locs1 → W p l e R s m args below meth c H1 locs1 (cells + 3) (slots + 18) Q (F0 m (pc + 3) ls (.int (nI t9) :: rest))) : W p l e R s m args below meth c H locs cells slots Q (F0 m pc ls (.ref (ad 20 0 0) :: .int y :: .int x :: .ref (ad 0 0 0) :: rest)) :=
  va_calli (rSW hC hS hG h0 (As := [.ref (ad 0 0 0), .int x, .int y, .ref (ad 20 0 0)]) (c_L_fell l hfl) ⟨rfl, rfl⟩ wl sm_L_fell in_L cd_L_fell (n := 4) (by decide +kernel) hR rfl hsz hst rfl hdg hcs) hS (fun _ _ h => h) (fun _ h => h) (fun r u t H1 locs1 ht _ hr hB _ _ hS1 => by
    subst hr
    have hB9 := hB; try dsimp only at hB9
    rw [ht] at hB9
    rcases hB9 with ⟨rfl, q0, ad9, hA, hG1⟩ | ⟨t9, q1, q2, q3, rfl, hG1⟩
    · exact k0 q0 ad9 _ _ hA hG1 hS1
    · exact k1 t9 q1 q2 q3 _ _ hG1 hS1)
set_option maxHeartbeats 4000000 in
set_option maxRecDepth 100000 in
theorem c_L_time (l : Launch) (hfl : l.stackTraces = false) {D : va_G} {cy : Nat → ClassId} {sa : Nat → Nat} {de B : Nat} {ad : Ad} {S : St} {n : Nat → Nat} {T : St} {k : Nat → Nat} {th : Int32} {f : Nat → Int64} {g9 : Nat → UInt64} {x y : Int32} : Met l yL_time (Cond.codeWith yL_time cL_time 5 (Option.some Jvm.ClassFile.FieldType.int) [((0 : Nat), (10 : Nat), (13 : Nat), (13 : Nat)), ((0 : Nat), (10 : Nat), (17 : Nat), (30 : Nat))] :: G0) ({ frames := 10, cells := 4, slots := 24, locals := 171 } : Room) (va_Pc [.ref (ad 0 0 0), .int x, .int y, .ref (ad 20 0 0)] (PW D cy sa de B ad (Vw cy de ad S n T k th (Xl cy f g9)) (Inv S n))) (oI B (fun r H => (r = 0 ∧ cd_time S n x y = 0 ∧ ∃ ad9, Ag ad ad9 ∧ GW D B ad9 (Vw cy de ad9 S n T k th (Xl cy (vp_updL f 0 (Int32.toInt64 (S 22 (ci x) (ci y)))) g9)) H) ∨ (∃ t9 : Nat, t9 < 4 ∧ ¬ t9 = 0 ∧ cd_time S n x y = t9 ∧ r = nI t9 ∧ GW D B ad (Vw cy de ad S n T k th (Xl cy f g9)) H))) 4 24 (AB B) := by
  refine E_metW (own := RL) rfl rfl (Nat.le_of_ble_eq_true rfl) ?_
  intro p e s m below meth c hC hr hlk htab hG h0 ls hl
  have hx := hC.x
  have hb := hC.b
  have hS : va_S (AB B) s.heap s.heap [] := va_S.rf
  have hl : lo ls 5 [some (.ref (ad 0 0 0)), some (.int x), some (.int y), some (.ref (ad 20 0 0)), none] := lo_of hl
  refine o_aload_n hx hb dL_time_0 hl rfl ?_
  refine lv_iconst (v := 0) hx hb dL_time_1 (by decide) ?_
  refine o_aload_n hx hb dL_time_2 hl rfl ?_
  refine o_iload_n hx hb dL_time_3 hl rfl ?_
  refine o_iload_n hx hb dL_time_4 hl rfl ?_
  refine vx_calli (xV hC hS hG h0.1 (As := [.int x, .int y]) (c_X6_time l hfl) ⟨rfl, rfl⟩ ml_L_93 im_X6_time sl_X6_X6_time in_X6 cd_X6_time (n := 2) (by decide +kernel) ⟨(Nat.le_of_ble_eq_true rfl), (Nat.le_of_ble_eq_true rfl)⟩ (recv hC hG (q := (RX6, TX6, 6)) rfl V_games) rfl hl.1 (Nat.le_of_ble_eq_true rfl) rfl dL_time_5 ⟨(Nat.le_of_ble_eq_true rfl), (Nat.le_of_ble_eq_true rfl)⟩) hS (fun _ _ h => h) (fun _ h => h) (fun _ _ h => h) (fun E ce q9 u t H1 locs1 ht hv hp hB hz hq hS1 hce hcv hcl => ?_) (fun r u t H1 locs1 ht _ hr1 hB _ _ hS1 => ?_)
  · (try dsimp only at hB)
    rw [ht] at hB
    obtain ⟨hE, hG1⟩ := hB
    rcases hE with ⟨rfl, hcd⟩ | ⟨rfl, hcd⟩
    · refine caught hC [] ⟨0, 10, 13, 13⟩ [⟨0, 10, 17, 30⟩] (htab.trans rfl) (fun z hz => absurd hz List.not_mem_nil) rfl (by decide) cl_L_13 (by decide) hce hcv hcl ?_
      refine o_astore hx hb dL_time_13 hl (by decide) rfl (fun ls hl => ?_)
      refine lv_iconst (v := 1) hx hb dL_time_15 (by decide) ?_
      exact R_I hC hS1 hr hlk rfl (Or.inr ⟨1, by decide, by decide, hcd, rfl, hG1⟩) (Nat.le_of_ble_eq_true rfl) (Nat.le_of_ble_eq_true rfl) dL_time_16
    · refine caught hC [⟨0, 10, 13, 13⟩] ⟨0, 10, 17, 30⟩ [] (htab.trans rfl) (fun z hz => by
            cases List.mem_singleton.mp hz
            exact Or.inr ⟨by decide, _, hC.t _ cl_L_13, hC.k.2.2.2.2.1 (_, _) (by decide)⟩) rfl (by decide) cl_L_30 (by decide) hce hcv hcl ?_
      refine o_astore hx hb dL_time_17 hl (by decide) rfl (fun ls hl => ?_)
      refine lv_iconst (v := 2) hx hb dL_time_19 (by decide) ?_
      exact R_I hC hS1 hr hlk rfl (Or.inr ⟨2, by decide, by decide, hcd, rfl, hG1⟩) (Nat.le_of_ble_eq_true rfl) (Nat.le_of_ble_eq_true rfl) dL_time_20
  · subst hr1
    (try dsimp only at hB)
    rw [ht] at hB
    obtain ⟨q0, rfl, hG1⟩ := hB
    refine lv_i2l hx hb dL_time_8 rfl ?_
    refine g_last hC hG1 hS1 V_out 0 rfl (by decide) (by decide) (up_Vw (by decide) Xl_out) dL_time_9 (fun H locs hG hS => ?_)
    refine lv_goto (tgt := 21) hx hb dL_time_10 (by decide) ?_
    refine lv_iconst (v := 0) hx hb dL_time_21 (by decide) ?_
    exact R_I hC hS hr hlk rfl (Or.inl ⟨rfl, q0, ad, Ag.rf, hG⟩) (Nat.le_of_ble_eq_true rfl) (Nat.le_of_ble_eq_true rfl) dL_time_22
theorem k_L_time {p : Program} {l : Launch} {e : Env} {R : Room} {s : State} {m : MethodId} {args : Array Value} {below : List Frame} {meth : Method} {c : Code} {H : Heap} {locs : List Loc} {cells slots : Nat} {Q : State → Prop} {cc : ByteArray} {pc nL : Nat} {ls : Array Slot} {rest : List Value} {own : String} {D : va_G} {cy : Nat → ClassId} {sa : Nat → Nat} {de B : Nat} {ad : Ad} {S : St} {n : Nat → Nat} {T : St} {k : Nat → Nat} {th : Int32} {f : Nat → Int64} {g9 : Nat → UInt64} {x y : Int32} (hfl : l.stackTraces = false) (hC : Cx p m c cc nL s args own D cy sa de B) (hS : va_S (AB B) s.heap H locs) (hG : GW D B ad (Vw cy de ad S n T k th (Xl cy f g9)) H) (h0 : Inv S n) {idx : Nat} (wl : Cond.methodLink own idx yL_time ∈ G0) (hR : 10 + 1 ≤ R.frames ∧ 8 + (5 + 11) + 171 ≤ R.locals) (hsz : ls.size = nL) (hst : (rest.map fun v => v.category).sum ≤ 8) (hdg : decode cc pc = .ok (.invokestatic idx, 3)) (hcs : cells + 4 ≤ R.cells ∧ slots + 24 ≤ R.slots) (k0 : cd_time S n x y = 0 → ∀ (ad9 : Ad) (H1 : Heap) (locs1 : List Loc), Ag ad ad9 → GW D B ad9 (Vw cy de ad9 S n T k th (Xl cy (vp_updL f 0 (Int32.toInt64 (S 22 (ci x) (ci y)))) g9)) H1 → va_S (AB B) s.heap H1 locs1 → W p l e R s m args below meth c H1 locs1 (cells + 4) (slots + 24) Q (F0 m (pc + 3) ls (.int 0 :: rest))) (k1 : ∀ t9 : Nat, t9 < 4 → ¬ t9 = 0 → cd_time S n x y = t9 → ∀ (H1 : Heap) (locs1 : List Loc), GW D B ad (Vw cy de ad S n T k th (Xl cy f g9)) H1 → va_S (AB B) s.heap H1 locs1 → W p l e R s m args below meth c H1 locs1 (cells + 4) (slots + 24) Q (F0 m (pc + 3) ls (.int (nI t9) :: rest))) : W p l e R s m args below meth c H locs cells slots Q (F0 m pc ls (.ref (ad 20 0 0) :: .int y :: .int x :: .ref (ad 0 0 0) :: rest)) :=
  va_calli (rSW hC hS hG h0 (As := [.ref (ad 0 0 0), .int x, .int y, .ref (ad 20 0 0)]) (c_L_time l hfl) ⟨rfl, rfl⟩ wl sm_L_time in_L cd_L_time (n := 4) (by decide +kernel) hR rfl hsz hst rfl hdg hcs) hS (fun _ _ h => h) (fun _ h => h) (fun r u t H1 locs1 ht _ hr hB _ _ hS1 => by
    subst hr
    have hB9 := hB; try dsimp only at hB9
    rw [ht] at hB9
    rcases hB9 with ⟨rfl, q0, ad9, hA, hG1⟩ | ⟨t9, q1, q2, q3, rfl, hG1⟩
    · exact k0 q0 ad9 _ _ hA hG1 hS1
    · exact k1 t9 q1 q2 q3 _ _ hG1 hS1)
set_option maxHeartbeats 4000000 in
set_option maxRecDepth 100000 in
theorem c_L_inClass (l : Launch) (hfl : l.stackTraces = false) {D : va_G} {cy : Nat → ClassId} {sa : Nat → Nat} {de B : Nat} {ad : Ad} {S : St} {n : Nat → Nat} {T : St} {k : Nat → Nat} {th : Int32} {f : Nat → Int64} {g9 : Nat → UInt64} {x y : Int32} : Met l yL_inClass (Cond.codeWith yL_inClass cL_inClass 5 (Option.some Jvm.ClassFile.FieldType.int) [((0 : Nat), (10 : Nat), (13 : Nat), (13 : Nat)), ((0 : Nat), (10 : Nat), (17 : Nat), (30 : Nat))] :: G0) ({ frames := 9, cells := 3, slots := 18, locals := 148 } : Room) (va_Pc [.ref (ad 0 0 0), .int x, .int y, .ref (ad 20 0 0)] (PW D cy sa de B ad (Vw cy de ad S n T k th (Xl cy f g9)) (Inv S n))) (oI B (fun r H => (r = 0 ∧ cd_ent S n x y = 0 ∧ ∃ ad9, Ag ad ad9 ∧ GW D B ad9 (Vw cy de ad9 S n T k th (Xl cy (vp_updL f 0 (Int32.toInt64 (S 20 (ci x) (ci y)))) g9)) H) ∨ (∃ t9 : Nat, t9 < 4 ∧ ¬ t9 = 0 ∧ cd_ent S n x y = t9 ∧ r = nI t9 ∧ GW D B ad (Vw cy de ad S n T k th (Xl cy f g9)) H))) 3 18 (AB B) := by
  refine E_metW (own := RL) rfl rfl (Nat.le_of_ble_eq_true rfl) ?_
  intro p e s m below meth c hC hr hlk htab hG h0 ls hl
  have hx := hC.x
  have hb := hC.b
  have hS : va_S (AB B) s.heap s.heap [] := va_S.rf
  have hl : lo ls 5 [some (.ref (ad 0 0 0)), some (.int x), some (.int y), some (.ref (ad 20 0 0)), none] := lo_of hl
  refine o_aload_n hx hb dL_inClass_0 hl rfl ?_
  refine lv_iconst (v := 0) hx hb dL_inClass_1 (by decide) ?_
  refine o_aload_n hx hb dL_inClass_2 hl rfl ?_
  refine o_iload_n hx hb dL_inClass_3 hl rfl ?_
  refine o_iload_n hx hb dL_inClass_4 hl rfl ?_
  refine vx_calli (xV hC hS hG h0.1 (As := [.int x, .int y]) (c_X6_inClass l hfl) ⟨rfl, rfl⟩ ml_L_96 im_X6_inClass sl_X6_X6_inClass in_X6 cd_X6_inClass (n := 2) (by decide +kernel) ⟨(Nat.le_of_ble_eq_true rfl), (Nat.le_of_ble_eq_true rfl)⟩ (recv hC hG (q := (RX6, TX6, 6)) rfl V_games) rfl hl.1 (Nat.le_of_ble_eq_true rfl) rfl dL_inClass_5 ⟨(Nat.le_of_ble_eq_true rfl), (Nat.le_of_ble_eq_true rfl)⟩) hS (fun _ _ h => h) (fun _ h => h) (fun _ _ h => h) (fun E ce q9 u t H1 locs1 ht hv hp hB hz hq hS1 hce hcv hcl => ?_) (fun r u t H1 locs1 ht _ hr1 hB _ _ hS1 => ?_)
  · (try dsimp only at hB)
    rw [ht] at hB
    obtain ⟨hE, hG1⟩ := hB
    rcases hE with ⟨rfl, hcd⟩ | ⟨rfl, hcd⟩
    · refine caught hC [] ⟨0, 10, 13, 13⟩ [⟨0, 10, 17, 30⟩] (htab.trans rfl) (fun z hz => absurd hz List.not_mem_nil) rfl (by decide) cl_L_13 (by decide) hce hcv hcl ?_
      refine o_astore hx hb dL_inClass_13 hl (by decide) rfl (fun ls hl => ?_)
      refine lv_iconst (v := 1) hx hb dL_inClass_15 (by decide) ?_
      exact R_I hC hS1 hr hlk rfl (Or.inr ⟨1, by decide, by decide, hcd, rfl, hG1⟩) (Nat.le_of_ble_eq_true rfl) (Nat.le_of_ble_eq_true rfl) dL_inClass_16
    · refine caught hC [⟨0, 10, 13, 13⟩] ⟨0, 10, 17, 30⟩ [] (htab.trans rfl) (fun z hz => by
            cases List.mem_singleton.mp hz
            exact Or.inr ⟨by decide, _, hC.t _ cl_L_13, hC.k.2.2.2.2.1 (_, _) (by decide)⟩) rfl (by decide) cl_L_30 (by decide) hce hcv hcl ?_
      refine o_astore hx hb dL_inClass_17 hl (by decide) rfl (fun ls hl => ?_)
      refine lv_iconst (v := 2) hx hb dL_inClass_19 (by decide) ?_
      exact R_I hC hS1 hr hlk rfl (Or.inr ⟨2, by decide, by decide, hcd, rfl, hG1⟩) (Nat.le_of_ble_eq_true rfl) (Nat.le_of_ble_eq_true rfl) dL_inClass_20
  · subst hr1
    (try dsimp only at hB)
    rw [ht] at hB
    obtain ⟨q0, rfl, hG1⟩ := hB
    refine lv_i2l hx hb dL_inClass_8 rfl ?_
    refine g_last hC hG1 hS1 V_out 0 rfl (by decide) (by decide) (up_Vw (by decide) Xl_out) dL_inClass_9 (fun H locs hG hS => ?_)
    refine lv_goto (tgt := 21) hx hb dL_inClass_10 (by decide) ?_
    refine lv_iconst (v := 0) hx hb dL_inClass_21 (by decide) ?_
    exact R_I hC hS hr hlk rfl (Or.inl ⟨rfl, q0, ad, Ag.rf, hG⟩) (Nat.le_of_ble_eq_true rfl) (Nat.le_of_ble_eq_true rfl) dL_inClass_22
theorem k_L_inClass {p : Program} {l : Launch} {e : Env} {R : Room} {s : State} {m : MethodId} {args : Array Value} {below : List Frame} {meth : Method} {c : Code} {H : Heap} {locs : List Loc} {cells slots : Nat} {Q : State → Prop} {cc : ByteArray} {pc nL : Nat} {ls : Array Slot} {rest : List Value} {own : String} {D : va_G} {cy : Nat → ClassId} {sa : Nat → Nat} {de B : Nat} {ad : Ad} {S : St} {n : Nat → Nat} {T : St} {k : Nat → Nat} {th : Int32} {f : Nat → Int64} {g9 : Nat → UInt64} {x y : Int32} (hfl : l.stackTraces = false) (hC : Cx p m c cc nL s args own D cy sa de B) (hS : va_S (AB B) s.heap H locs) (hG : GW D B ad (Vw cy de ad S n T k th (Xl cy f g9)) H) (h0 : Inv S n) {idx : Nat} (wl : Cond.methodLink own idx yL_inClass ∈ G0) (hR : 9 + 1 ≤ R.frames ∧ 8 + (5 + 11) + 148 ≤ R.locals) (hsz : ls.size = nL) (hst : (rest.map fun v => v.category).sum ≤ 8) (hdg : decode cc pc = .ok (.invokestatic idx, 3)) (hcs : cells + 3 ≤ R.cells ∧ slots + 18 ≤ R.slots) (k0 : cd_ent S n x y = 0 → ∀ (ad9 : Ad) (H1 : Heap) (locs1 : List Loc), Ag ad ad9 → GW D B ad9 (Vw cy de ad9 S n T k th (Xl cy (vp_updL f 0 (Int32.toInt64 (S 20 (ci x) (ci y)))) g9)) H1 → va_S (AB B) s.heap H1 locs1 → W p l e R s m args below meth c H1 locs1 (cells + 3) (slots + 18) Q (F0 m (pc + 3) ls (.int 0 :: rest))) (k1 : ∀ t9 : Nat, t9 < 4 → ¬ t9 = 0 → cd_ent S n x y = t9 → ∀ (H1 : Heap) (locs1 : List Loc), GW D B ad (Vw cy de ad S n T k th (Xl cy f g9)) H1 → va_S (AB B) s.heap H1 locs1 → W p l e R s m args below meth c H1 locs1 (cells + 3) (slots + 18) Q (F0 m (pc + 3) ls (.int (nI t9) :: rest))) : W p l e R s m args below meth c H locs cells slots Q (F0 m pc ls (.ref (ad 20 0 0) :: .int y :: .int x :: .ref (ad 0 0 0) :: rest)) :=
  va_calli (rSW hC hS hG h0 (As := [.ref (ad 0 0 0), .int x, .int y, .ref (ad 20 0 0)]) (c_L_inClass l hfl) ⟨rfl, rfl⟩ wl sm_L_inClass in_L cd_L_inClass (n := 4) (by decide +kernel) hR rfl hsz hst rfl hdg hcs) hS (fun _ _ h => h) (fun _ h => h) (fun r u t H1 locs1 ht _ hr hB _ _ hS1 => by
    subst hr
    have hB9 := hB; try dsimp only at hB9
    rw [ht] at hB9
    rcases hB9 with ⟨rfl, q0, ad9, hA, hG1⟩ | ⟨t9, q1, q2, q3, rfl, hG1⟩
    · exact k0 q0 ad9 _ _ hA hG1 hS1
    · exact k1 t9 q1 q2 q3 _ _ hG1 hS1)
set_option maxHeartbeats 4000000 in
set_option maxRecDepth 100000 in
theorem c_L_close (l : Launch) (hfl : l.stackTraces = false) {D : va_G} {cy : Nat → ClassId} {sa : Nat → Nat} {de B : Nat} {ad : Ad} {S : St} {n : Nat → Nat} {T : St} {k : Nat → Nat} {th : Int32} {f : Nat → Int64} {g9 : Nat → UInt64} {x : Int32} : Met l yL_close (Cond.codeWith yL_close cL_close 4 (Option.some Jvm.ClassFile.FieldType.int) [((0 : Nat), (9 : Nat), (12 : Nat), (13 : Nat)), ((0 : Nat), (9 : Nat), (15 : Nat), (46 : Nat))] :: G0) ({ frames := 8, cells := 2, slots := 12, locals := 125 } : Room) (va_Pc [.ref (ad 0 0 0), .int x, .ref (ad 20 0 0)] (PW D cy sa de B ad (Vw cy de ad S n T k th (Xl cy f g9)) (Inv S n))) (oI B (fun r H => (r = 0 ∧ cd_close S n x = 0 ∧ ∃ ad9, Ag ad ad9 ∧ GW D B ad9 (Vw cy de ad9 (up3 S 19 (ci x) 0 1) n T k th (Xl cy (vp_updL f 0 (Int32.toInt64 (cnt (timeP S (ci x)) 16))) g9)) H) ∨ (∃ t9 : Nat, t9 < 4 ∧ ¬ t9 = 0 ∧ cd_close S n x = t9 ∧ r = nI t9 ∧ GW D B ad (Vw cy de ad S n T k th (Xl cy f g9)) H))) 2 12 (AB B) := by
  refine E_metW (own := RL) rfl rfl (Nat.le_of_ble_eq_true rfl) ?_
  intro p e s m below meth c hC hr hlk htab hG h0 ls hl
  have hx := hC.x
  have hb := hC.b
  have hS : va_S (AB B) s.heap s.heap [] := va_S.rf
  have hl : lo ls 4 [some (.ref (ad 0 0 0)), some (.int x), some (.ref (ad 20 0 0)), none] := lo_of hl
  refine o_aload_n hx hb dL_close_0 hl rfl ?_
  refine lv_iconst (v := 0) hx hb dL_close_1 (by decide) ?_
  refine o_aload_n hx hb dL_close_2 hl rfl ?_
  refine o_iload_n hx hb dL_close_3 hl rfl ?_
  refine vx_calli (xV hC hS hG h0.1 (As := [.int x]) (c_X6_close l hfl) ⟨rfl, rfl⟩ ml_L_99 im_X6_close sl_X6_X6_close in_X6 cd_X6_close (n := 1) (by decide +kernel) ⟨(Nat.le_of_ble_eq_true rfl), (Nat.le_of_ble_eq_true rfl)⟩ (recv hC hG (q := (RX6, TX6, 6)) rfl V_games) rfl hl.1 (Nat.le_of_ble_eq_true rfl) rfl dL_close_4 ⟨(Nat.le_of_ble_eq_true rfl), (Nat.le_of_ble_eq_true rfl)⟩) hS (fun _ _ h => h) (fun _ h => h) (fun _ _ h => h) (fun E ce q9 u t H1 locs1 ht hv hp hB hz hq hS1 hce hcv hcl => ?_) (fun r u t H1 locs1 ht _ hr1 hB _ _ hS1 => ?_)
  · (try dsimp only at hB)
    rw [ht] at hB
    obtain ⟨hE, hG1⟩ := hB
    rcases hE with ⟨rfl, hcd⟩ | ⟨rfl, hcd⟩
    · refine caught hC [] ⟨0, 9, 12, 13⟩ [⟨0, 9, 15, 46⟩] (htab.trans rfl) (fun z hz => absurd hz List.not_mem_nil) rfl (by decide) cl_L_13 (by decide) hce hcv hcl ?_
      refine o_astore_n hx hb dL_close_12 hl (by decide) rfl (fun ls hl => ?_)
      refine lv_iconst (v := 1) hx hb dL_close_13 (by decide) ?_
      exact R_I hC hS1 hr hlk rfl (Or.inr ⟨1, by decide, by decide, hcd, rfl, hG1⟩) (Nat.le_of_ble_eq_true rfl) (Nat.le_of_ble_eq_true rfl) dL_close_14
    · refine caught hC [⟨0, 9, 12, 13⟩] ⟨0, 9, 15, 46⟩ [] (htab.trans rfl) (fun z hz => by
            cases List.mem_singleton.mp hz
            exact Or.inr ⟨by decide, _, hC.t _ cl_L_13, hC.k.2.2.2.2.1 (_, _) (by decide)⟩) rfl (by decide) cl_L_46 (by decide) hce hcv hcl ?_
      refine o_astore_n hx hb dL_close_15 hl (by decide) rfl (fun ls hl => ?_)
      refine lv_iconst (v := 2) hx hb dL_close_16 (by decide) ?_
      exact R_I hC hS1 hr hlk rfl (Or.inr ⟨2, by decide, by decide, hcd, rfl, hG1⟩) (Nat.le_of_ble_eq_true rfl) (Nat.le_of_ble_eq_true rfl) dL_close_17
  · subst hr1
    (try dsimp only at hB)
    rw [ht] at hB
    obtain ⟨q0, rfl, hG1⟩ := hB
    refine lv_i2l hx hb dL_close_7 rfl ?_
    refine g_last hC hG1 hS1 V_out 0 rfl (by decide) (by decide) (up_Vw (by decide) Xl_out) dL_close_8 (fun H locs hG hS => ?_)
    refine lv_goto (tgt := 18) hx hb dL_close_9 (by decide) ?_
    refine lv_iconst (v := 0) hx hb dL_close_18 (by decide) ?_
    exact R_I hC hS hr hlk rfl (Or.inl ⟨rfl, q0, ad, Ag.rf, hG⟩) (Nat.le_of_ble_eq_true rfl) (Nat.le_of_ble_eq_true rfl) dL_close_19
theorem k_L_close {p : Program} {l : Launch} {e : Env} {R : Room} {s : State} {m : MethodId} {args : Array Value} {below : List Frame} {meth : Method} {c : Code} {H : Heap} {locs : List Loc} {cells slots : Nat} {Q : State → Prop} {cc : ByteArray} {pc nL : Nat} {ls : Array Slot} {rest : List Value} {own : String} {D : va_G} {cy : Nat → ClassId} {sa : Nat → Nat} {de B : Nat} {ad : Ad} {S : St} {n : Nat → Nat} {T : St} {k : Nat → Nat} {th : Int32} {f : Nat → Int64} {g9 : Nat → UInt64} {x : Int32} (hfl : l.stackTraces = false) (hC : Cx p m c cc nL s args own D cy sa de B) (hS : va_S (AB B) s.heap H locs) (hG : GW D B ad (Vw cy de ad S n T k th (Xl cy f g9)) H) (h0 : Inv S n) {idx : Nat} (wl : Cond.methodLink own idx yL_close ∈ G0) (hR : 8 + 1 ≤ R.frames ∧ 8 + (4 + 11) + 125 ≤ R.locals) (hsz : ls.size = nL) (hst : (rest.map fun v => v.category).sum ≤ 8) (hdg : decode cc pc = .ok (.invokestatic idx, 3)) (hcs : cells + 2 ≤ R.cells ∧ slots + 12 ≤ R.slots) (k0 : cd_close S n x = 0 → ∀ (ad9 : Ad) (H1 : Heap) (locs1 : List Loc), Ag ad ad9 → GW D B ad9 (Vw cy de ad9 (up3 S 19 (ci x) 0 1) n T k th (Xl cy (vp_updL f 0 (Int32.toInt64 (cnt (timeP S (ci x)) 16))) g9)) H1 → va_S (AB B) s.heap H1 locs1 → W p l e R s m args below meth c H1 locs1 (cells + 2) (slots + 12) Q (F0 m (pc + 3) ls (.int 0 :: rest))) (k1 : ∀ t9 : Nat, t9 < 4 → ¬ t9 = 0 → cd_close S n x = t9 → ∀ (H1 : Heap) (locs1 : List Loc), GW D B ad (Vw cy de ad S n T k th (Xl cy f g9)) H1 → va_S (AB B) s.heap H1 locs1 → W p l e R s m args below meth c H1 locs1 (cells + 2) (slots + 12) Q (F0 m (pc + 3) ls (.int (nI t9) :: rest))) : W p l e R s m args below meth c H locs cells slots Q (F0 m pc ls (.ref (ad 20 0 0) :: .int x :: .ref (ad 0 0 0) :: rest)) :=
  va_calli (rSW hC hS hG h0 (As := [.ref (ad 0 0 0), .int x, .ref (ad 20 0 0)]) (c_L_close l hfl) ⟨rfl, rfl⟩ wl sm_L_close in_L cd_L_close (n := 3) (by decide +kernel) hR rfl hsz hst rfl hdg hcs) hS (fun _ _ h => h) (fun _ h => h) (fun r u t H1 locs1 ht _ hr hB _ _ hS1 => by
    subst hr
    have hB9 := hB; try dsimp only at hB9
    rw [ht] at hB9
    rcases hB9 with ⟨rfl, q0, ad9, hA, hG1⟩ | ⟨t9, q1, q2, q3, rfl, hG1⟩
    · exact k0 q0 ad9 _ _ hA hG1 hS1
    · exact k1 t9 q1 q2 q3 _ _ hG1 hS1)
set_option maxHeartbeats 4000000 in
set_option maxRecDepth 100000 in
theorem c_L_at (l : Launch) (hfl : l.stackTraces = false) {D : va_G} {cy : Nat → ClassId} {sa : Nat → Nat} {de B : Nat} {ad : Ad} {S : St} {n : Nat → Nat} {T : St} {k : Nat → Nat} {th : Int32} {f : Nat → Int64} {g9 : Nat → UInt64} {x y : Int32} : Met l yL_at (Cond.codeWith yL_at cL_at 5 (Option.some Jvm.ClassFile.FieldType.int) [((0 : Nat), (10 : Nat), (13 : Nat), (13 : Nat)), ((0 : Nat), (10 : Nat), (17 : Nat), (30 : Nat))] :: G0) ({ frames := 8, cells := 2, slots := 12, locals := 126 } : Room) (va_Pc [.ref (ad 0 0 0), .int x, .int y, .ref (ad 20 0 0)] (PW D cy sa de B ad (Vw cy de ad S n T k th (Xl cy f g9)) (Inv S n))) (oI B (fun r H => (r = 0 ∧ cd_at S n x y = 0 ∧ ∃ ad9, Ag ad ad9 ∧ GW D B ad9 (Vw cy de ad9 S n T k th (Xl cy (vp_updL f 0 (Int32.toInt64 (vl_at S x y))) g9)) H) ∨ (∃ t9 : Nat, t9 < 4 ∧ ¬ t9 = 0 ∧ cd_at S n x y = t9 ∧ r = nI t9 ∧ GW D B ad (Vw cy de ad S n T k th (Xl cy f g9)) H))) 2 12 (AB B) := by
  refine E_metW (own := RL) rfl rfl (Nat.le_of_ble_eq_true rfl) ?_
  intro p e s m below meth c hC hr hlk htab hG h0 ls hl
  have hx := hC.x
  have hb := hC.b
  have hS : va_S (AB B) s.heap s.heap [] := va_S.rf
  have hl : lo ls 5 [some (.ref (ad 0 0 0)), some (.int x), some (.int y), some (.ref (ad 20 0 0)), none] := lo_of hl
  refine o_aload_n hx hb dL_at_0 hl rfl ?_
  refine lv_iconst (v := 0) hx hb dL_at_1 (by decide) ?_
  refine o_aload_n hx hb dL_at_2 hl rfl ?_
  refine o_iload_n hx hb dL_at_3 hl rfl ?_
  refine o_iload_n hx hb dL_at_4 hl rfl ?_
  refine vx_calli (xV hC hS hG h0.1 (As := [.int x, .int y]) (c_X6_at l hfl) ⟨rfl, rfl⟩ ml_L_102 im_X6_at sl_X6_X6_at in_X6 cd_X6_at (n := 2) (by decide +kernel) ⟨(Nat.le_of_ble_eq_true rfl), (Nat.le_of_ble_eq_true rfl)⟩ (recv hC hG (q := (RX6, TX6, 6)) rfl V_games) rfl hl.1 (Nat.le_of_ble_eq_true rfl) rfl dL_at_5 ⟨(Nat.le_of_ble_eq_true rfl), (Nat.le_of_ble_eq_true rfl)⟩) hS (fun _ _ h => h) (fun _ h => h) (fun _ _ h => h) (fun E ce q9 u t H1 locs1 ht hv hp hB hz hq hS1 hce hcv hcl => ?_) (fun r u t H1 locs1 ht _ hr1 hB _ _ hS1 => ?_)
  · (try dsimp only at hB)
    rw [ht] at hB
    obtain ⟨hE, hG1⟩ := hB
    rcases hE with ⟨rfl, hcd⟩ | ⟨rfl, hcd⟩
    · refine caught hC [] ⟨0, 10, 13, 13⟩ [⟨0, 10, 17, 30⟩] (htab.trans rfl) (fun z hz => absurd hz List.not_mem_nil) rfl (by decide) cl_L_13 (by decide) hce hcv hcl ?_
      refine o_astore hx hb dL_at_13 hl (by decide) rfl (fun ls hl => ?_)
      refine lv_iconst (v := 1) hx hb dL_at_15 (by decide) ?_
      exact R_I hC hS1 hr hlk rfl (Or.inr ⟨1, by decide, by decide, hcd, rfl, hG1⟩) (Nat.le_of_ble_eq_true rfl) (Nat.le_of_ble_eq_true rfl) dL_at_16
    · refine caught hC [⟨0, 10, 13, 13⟩] ⟨0, 10, 17, 30⟩ [] (htab.trans rfl) (fun z hz => by
            cases List.mem_singleton.mp hz
            exact Or.inr ⟨by decide, _, hC.t _ cl_L_13, hC.k.2.2.2.2.1 (_, _) (by decide)⟩) rfl (by decide) cl_L_30 (by decide) hce hcv hcl ?_
      refine o_astore hx hb dL_at_17 hl (by decide) rfl (fun ls hl => ?_)
      refine lv_iconst (v := 2) hx hb dL_at_19 (by decide) ?_
      exact R_I hC hS1 hr hlk rfl (Or.inr ⟨2, by decide, by decide, hcd, rfl, hG1⟩) (Nat.le_of_ble_eq_true rfl) (Nat.le_of_ble_eq_true rfl) dL_at_20
  · subst hr1
    (try dsimp only at hB)
    rw [ht] at hB
    obtain ⟨q0, rfl, hG1⟩ := hB
    refine lv_i2l hx hb dL_at_8 rfl ?_
    refine g_last hC hG1 hS1 V_out 0 rfl (by decide) (by decide) (up_Vw (by decide) Xl_out) dL_at_9 (fun H locs hG hS => ?_)
    refine lv_goto (tgt := 21) hx hb dL_at_10 (by decide) ?_
    refine lv_iconst (v := 0) hx hb dL_at_21 (by decide) ?_
    exact R_I hC hS hr hlk rfl (Or.inl ⟨rfl, q0, ad, Ag.rf, hG⟩) (Nat.le_of_ble_eq_true rfl) (Nat.le_of_ble_eq_true rfl) dL_at_22
theorem k_L_at {p : Program} {l : Launch} {e : Env} {R : Room} {s : State} {m : MethodId} {args : Array Value} {below : List Frame} {meth : Method} {c : Code} {H : Heap} {locs : List Loc} {cells slots : Nat} {Q : State → Prop} {cc : ByteArray} {pc nL : Nat} {ls : Array Slot} {rest : List Value} {own : String} {D : va_G} {cy : Nat → ClassId} {sa : Nat → Nat} {de B : Nat} {ad : Ad} {S : St} {n : Nat → Nat} {T : St} {k : Nat → Nat} {th : Int32} {f : Nat → Int64} {g9 : Nat → UInt64} {x y : Int32} (hfl : l.stackTraces = false) (hC : Cx p m c cc nL s args own D cy sa de B) (hS : va_S (AB B) s.heap H locs) (hG : GW D B ad (Vw cy de ad S n T k th (Xl cy f g9)) H) (h0 : Inv S n) {idx : Nat} (wl : Cond.methodLink own idx yL_at ∈ G0) (hR : 8 + 1 ≤ R.frames ∧ 8 + (5 + 11) + 126 ≤ R.locals) (hsz : ls.size = nL) (hst : (rest.map fun v => v.category).sum ≤ 8) (hdg : decode cc pc = .ok (.invokestatic idx, 3)) (hcs : cells + 2 ≤ R.cells ∧ slots + 12 ≤ R.slots) (k0 : cd_at S n x y = 0 → ∀ (ad9 : Ad) (H1 : Heap) (locs1 : List Loc), Ag ad ad9 → GW D B ad9 (Vw cy de ad9 S n T k th (Xl cy (vp_updL f 0 (Int32.toInt64 (vl_at S x y))) g9)) H1 → va_S (AB B) s.heap H1 locs1 → W p l e R s m args below meth c H1 locs1 (cells + 2) (slots + 12) Q (F0 m (pc + 3) ls (.int 0 :: rest))) (k1 : ∀ t9 : Nat, t9 < 4 → ¬ t9 = 0 → cd_at S n x y = t9 → ∀ (H1 : Heap) (locs1 : List Loc), GW D B ad (Vw cy de ad S n T k th (Xl cy f g9)) H1 → va_S (AB B) s.heap H1 locs1 → W p l e R s m args below meth c H1 locs1 (cells + 2) (slots + 12) Q (F0 m (pc + 3) ls (.int (nI t9) :: rest))) : W p l e R s m args below meth c H locs cells slots Q (F0 m pc ls (.ref (ad 20 0 0) :: .int y :: .int x :: .ref (ad 0 0 0) :: rest)) :=
  va_calli (rSW hC hS hG h0 (As := [.ref (ad 0 0 0), .int x, .int y, .ref (ad 20 0 0)]) (c_L_at l hfl) ⟨rfl, rfl⟩ wl sm_L_at in_L cd_L_at (n := 4) (by decide +kernel) hR rfl hsz hst rfl hdg hcs) hS (fun _ _ h => h) (fun _ h => h) (fun r u t H1 locs1 ht _ hr hB _ _ hS1 => by
    subst hr
    have hB9 := hB; try dsimp only at hB9
    rw [ht] at hB9
    rcases hB9 with ⟨rfl, q0, ad9, hA, hG1⟩ | ⟨t9, q1, q2, q3, rfl, hG1⟩
    · exact k0 q0 ad9 _ _ hA hG1 hS1
    · exact k1 t9 q1 q2 q3 _ _ hG1 hS1)
set_option maxHeartbeats 4000000 in
set_option maxRecDepth 100000 in
theorem c_L_place (l : Launch) (hfl : l.stackTraces = false) {D : va_G} {cy : Nat → ClassId} {sa : Nat → Nat} {de B : Nat} {ad : Ad} {S : St} {n : Nat → Nat} {T : St} {k : Nat → Nat} {th : Int32} {f : Nat → Int64} {g9 : Nat → UInt64} {x y : Int32} : Met l yL_place (Cond.codeWith yL_place cL_place 5 (Option.some Jvm.ClassFile.FieldType.int) [((0 : Nat), (10 : Nat), (13 : Nat), (13 : Nat)), ((0 : Nat), (10 : Nat), (17 : Nat), (30 : Nat))] :: G0) ({ frames := 10, cells := 5, slots := 30, locals := 172 } : Room) (va_Pc [.ref (ad 0 0 0), .int x, .int y, .ref (ad 20 0 0)] (PW D cy sa de B ad (Vw cy de ad S n T k th (Xl cy f g9)) (Inv S n))) (oI B (fun r H => (r = 0 ∧ cd_time S n x y = 0 ∧ ∃ ad9, Ag ad ad9 ∧ GW D B ad9 (Vw cy de ad9 S n T k th (Xl cy (vp_updL f 0 (Int32.toInt64 (cnt (fasP S (ci x) (ci y)) 16 + 1))) g9)) H) ∨ (∃ t9 : Nat, t9 < 4 ∧ ¬ t9 = 0 ∧ cd_time S n x y = t9 ∧ r = nI t9 ∧ GW D B ad (Vw cy de ad S n T k th (Xl cy f g9)) H))) 5 30 (AB B) := by
  refine E_metW (own := RL) rfl rfl (Nat.le_of_ble_eq_true rfl) ?_
  intro p e s m below meth c hC hr hlk htab hG h0 ls hl
  have hx := hC.x
  have hb := hC.b
  have hS : va_S (AB B) s.heap s.heap [] := va_S.rf
  have hl : lo ls 5 [some (.ref (ad 0 0 0)), some (.int x), some (.int y), some (.ref (ad 20 0 0)), none] := lo_of hl
  refine o_aload_n hx hb dL_place_0 hl rfl ?_
  refine lv_iconst (v := 0) hx hb dL_place_1 (by decide) ?_
  refine o_aload_n hx hb dL_place_2 hl rfl ?_
  refine o_iload_n hx hb dL_place_3 hl rfl ?_
  refine o_iload_n hx hb dL_place_4 hl rfl ?_
  refine vx_calli (xV hC hS hG h0.1 (As := [.int x, .int y]) (c_X6_place l hfl) ⟨rfl, rfl⟩ ml_L_105 im_X6_place sl_X6_X6_place in_X6 cd_X6_place (n := 2) (by decide +kernel) ⟨(Nat.le_of_ble_eq_true rfl), (Nat.le_of_ble_eq_true rfl)⟩ (recv hC hG (q := (RX6, TX6, 6)) rfl V_games) rfl hl.1 (Nat.le_of_ble_eq_true rfl) rfl dL_place_5 ⟨(Nat.le_of_ble_eq_true rfl), (Nat.le_of_ble_eq_true rfl)⟩) hS (fun _ _ h => h) (fun _ h => h) (fun _ _ h => h) (fun E ce q9 u t H1 locs1 ht hv hp hB hz hq hS1 hce hcv hcl => ?_) (fun r u t H1 locs1 ht _ hr1 hB _ _ hS1 => ?_)
  · (try dsimp only at hB)
    rw [ht] at hB
    obtain ⟨hE, hG1⟩ := hB
    rcases hE with ⟨rfl, hcd⟩ | ⟨rfl, hcd⟩
    · refine caught hC [] ⟨0, 10, 13, 13⟩ [⟨0, 10, 17, 30⟩] (htab.trans rfl) (fun z hz => absurd hz List.not_mem_nil) rfl (by decide) cl_L_13 (by decide) hce hcv hcl ?_
      refine o_astore hx hb dL_place_13 hl (by decide) rfl (fun ls hl => ?_)
      refine lv_iconst (v := 1) hx hb dL_place_15 (by decide) ?_
      exact R_I hC hS1 hr hlk rfl (Or.inr ⟨1, by decide, by decide, hcd, rfl, hG1⟩) (Nat.le_of_ble_eq_true rfl) (Nat.le_of_ble_eq_true rfl) dL_place_16
    · refine caught hC [⟨0, 10, 13, 13⟩] ⟨0, 10, 17, 30⟩ [] (htab.trans rfl) (fun z hz => by
            cases List.mem_singleton.mp hz
            exact Or.inr ⟨by decide, _, hC.t _ cl_L_13, hC.k.2.2.2.2.1 (_, _) (by decide)⟩) rfl (by decide) cl_L_30 (by decide) hce hcv hcl ?_
      refine o_astore hx hb dL_place_17 hl (by decide) rfl (fun ls hl => ?_)
      refine lv_iconst (v := 2) hx hb dL_place_19 (by decide) ?_
      exact R_I hC hS1 hr hlk rfl (Or.inr ⟨2, by decide, by decide, hcd, rfl, hG1⟩) (Nat.le_of_ble_eq_true rfl) (Nat.le_of_ble_eq_true rfl) dL_place_20
  · subst hr1
    (try dsimp only at hB)
    rw [ht] at hB
    obtain ⟨q0, rfl, hG1⟩ := hB
    refine lv_i2l hx hb dL_place_8 rfl ?_
    refine g_last hC hG1 hS1 V_out 0 rfl (by decide) (by decide) (up_Vw (by decide) Xl_out) dL_place_9 (fun H locs hG hS => ?_)
    refine lv_goto (tgt := 21) hx hb dL_place_10 (by decide) ?_
    refine lv_iconst (v := 0) hx hb dL_place_21 (by decide) ?_
    exact R_I hC hS hr hlk rfl (Or.inl ⟨rfl, q0, ad, Ag.rf, hG⟩) (Nat.le_of_ble_eq_true rfl) (Nat.le_of_ble_eq_true rfl) dL_place_22
theorem k_L_place {p : Program} {l : Launch} {e : Env} {R : Room} {s : State} {m : MethodId} {args : Array Value} {below : List Frame} {meth : Method} {c : Code} {H : Heap} {locs : List Loc} {cells slots : Nat} {Q : State → Prop} {cc : ByteArray} {pc nL : Nat} {ls : Array Slot} {rest : List Value} {own : String} {D : va_G} {cy : Nat → ClassId} {sa : Nat → Nat} {de B : Nat} {ad : Ad} {S : St} {n : Nat → Nat} {T : St} {k : Nat → Nat} {th : Int32} {f : Nat → Int64} {g9 : Nat → UInt64} {x y : Int32} (hfl : l.stackTraces = false) (hC : Cx p m c cc nL s args own D cy sa de B) (hS : va_S (AB B) s.heap H locs) (hG : GW D B ad (Vw cy de ad S n T k th (Xl cy f g9)) H) (h0 : Inv S n) {idx : Nat} (wl : Cond.methodLink own idx yL_place ∈ G0) (hR : 10 + 1 ≤ R.frames ∧ 8 + (5 + 11) + 172 ≤ R.locals) (hsz : ls.size = nL) (hst : (rest.map fun v => v.category).sum ≤ 8) (hdg : decode cc pc = .ok (.invokestatic idx, 3)) (hcs : cells + 5 ≤ R.cells ∧ slots + 30 ≤ R.slots) (k0 : cd_time S n x y = 0 → ∀ (ad9 : Ad) (H1 : Heap) (locs1 : List Loc), Ag ad ad9 → GW D B ad9 (Vw cy de ad9 S n T k th (Xl cy (vp_updL f 0 (Int32.toInt64 (cnt (fasP S (ci x) (ci y)) 16 + 1))) g9)) H1 → va_S (AB B) s.heap H1 locs1 → W p l e R s m args below meth c H1 locs1 (cells + 5) (slots + 30) Q (F0 m (pc + 3) ls (.int 0 :: rest))) (k1 : ∀ t9 : Nat, t9 < 4 → ¬ t9 = 0 → cd_time S n x y = t9 → ∀ (H1 : Heap) (locs1 : List Loc), GW D B ad (Vw cy de ad S n T k th (Xl cy f g9)) H1 → va_S (AB B) s.heap H1 locs1 → W p l e R s m args below meth c H1 locs1 (cells + 5) (slots + 30) Q (F0 m (pc + 3) ls (.int (nI t9) :: rest))) : W p l e R s m args below meth c H locs cells slots Q (F0 m pc ls (.ref (ad 20 0 0) :: .int y :: .int x :: .ref (ad 0 0 0) :: rest)) :=
  va_calli (rSW hC hS hG h0 (As := [.ref (ad 0 0 0), .int x, .int y, .ref (ad 20 0 0)]) (c_L_place l hfl) ⟨rfl, rfl⟩ wl sm_L_place in_L cd_L_place (n := 4) (by decide +kernel) hR rfl hsz hst rfl hdg hcs) hS (fun _ _ h => h) (fun _ h => h) (fun r u t H1 locs1 ht _ hr hB _ _ hS1 => by
    subst hr
    have hB9 := hB; try dsimp only at hB9
    rw [ht] at hB9
    rcases hB9 with ⟨rfl, q0, ad9, hA, hG1⟩ | ⟨t9, q1, q2, q3, rfl, hG1⟩
    · exact k0 q0 ad9 _ _ hA hG1 hS1
    · exact k1 t9 q1 q2 q3 _ _ hG1 hS1)
set_option maxHeartbeats 4000000 in
set_option maxRecDepth 100000 in
theorem c_L_slot (l : Launch) (hfl : l.stackTraces = false) {D : va_G} {cy : Nat → ClassId} {sa : Nat → Nat} {de B : Nat} {ad : Ad} {S : St} {n : Nat → Nat} {T : St} {k : Nat → Nat} {th : Int32} {f : Nat → Int64} {g9 : Nat → UInt64} {x y z : Int32} : Met l yL_slot (Cond.codeWith yL_slot cL_slot 6 (Option.some Jvm.ClassFile.FieldType.int) [((0 : Nat), (12 : Nat), (15 : Nat), (13 : Nat)), ((0 : Nat), (12 : Nat), (19 : Nat), (21 : Nat)), ((0 : Nat), (12 : Nat), (23 : Nat), (30 : Nat))] :: G0) ({ frames := 8, cells := 2, slots := 12, locals := 128 } : Room) (va_Pc [.ref (ad 0 0 0), .int x, .int y, .int z, .ref (ad 20 0 0)] (PW D cy sa de B ad (Vw cy de ad S n T k th (Xl cy f g9)) (Inv S n))) (oI B (fun r H => (r = 0 ∧ cd_slot S n x y z = 0 ∧ ∃ ad9, Ag ad ad9 ∧ GW D B ad9 (Vw cy de ad9 S n T k th (Xl cy (vp_updL f 0 (Int32.toInt64 (vl_slot S x z))) g9)) H) ∨ (∃ t9 : Nat, t9 < 4 ∧ ¬ t9 = 0 ∧ cd_slot S n x y z = t9 ∧ r = nI t9 ∧ GW D B ad (Vw cy de ad S n T k th (Xl cy f g9)) H))) 2 12 (AB B) := by
  refine E_metW (own := RL) rfl rfl (Nat.le_of_ble_eq_true rfl) ?_
  intro p e s m below meth c hC hr hlk htab hG h0 ls hl
  have hx := hC.x
  have hb := hC.b
  have hS : va_S (AB B) s.heap s.heap [] := va_S.rf
  have hl : lo ls 6 [some (.ref (ad 0 0 0)), some (.int x), some (.int y), some (.int z), some (.ref (ad 20 0 0)), none] := lo_of hl
  refine o_aload hx hb dL_slot_0 hl rfl ?_
  refine lv_iconst (v := 0) hx hb dL_slot_2 (by decide) ?_
  refine o_aload_n hx hb dL_slot_3 hl rfl ?_
  refine o_iload_n hx hb dL_slot_4 hl rfl ?_
  refine o_iload_n hx hb dL_slot_5 hl rfl ?_
  refine o_iload_n hx hb dL_slot_6 hl rfl ?_
  refine vx_calli (xV hC hS hG h0.1 (As := [.int x, .int y, .int z]) (c_X6_slot l hfl) ⟨rfl, rfl⟩ ml_L_108 im_X6_slot sl_X6_X6_slot in_X6 cd_X6_slot (n := 3) (by decide +kernel) ⟨(Nat.le_of_ble_eq_true rfl), (Nat.le_of_ble_eq_true rfl)⟩ (recv hC hG (q := (RX6, TX6, 6)) rfl V_games) rfl hl.1 (Nat.le_of_ble_eq_true rfl) rfl dL_slot_7 ⟨(Nat.le_of_ble_eq_true rfl), (Nat.le_of_ble_eq_true rfl)⟩) hS (fun _ _ h => h) (fun _ h => h) (fun _ _ h => h) (fun E ce q9 u t H1 locs1 ht hv hp hB hz hq hS1 hce hcv hcl => ?_) (fun r u t H1 locs1 ht _ hr1 hB _ _ hS1 => ?_)
  · (try dsimp only at hB)
    rw [ht] at hB
    obtain ⟨hE, hG1⟩ := hB
    rcases hE with ⟨rfl, hcd⟩ | ⟨rfl, hcd⟩ | ⟨rfl, hcd⟩
    · refine caught hC [] ⟨0, 12, 15, 13⟩ [⟨0, 12, 19, 21⟩, ⟨0, 12, 23, 30⟩] (htab.trans rfl) (fun z hz => absurd hz List.not_mem_nil) rfl (by decide) cl_L_13 (by decide) hce hcv hcl ?_
      refine o_astore hx hb dL_slot_15 hl (by decide) rfl (fun ls hl => ?_)
      refine lv_iconst (v := 1) hx hb dL_slot_17 (by decide) ?_
      exact R_I hC hS1 hr hlk rfl (Or.inr ⟨1, by decide, by decide, hcd, rfl, hG1⟩) (Nat.le_of_ble_eq_true rfl) (Nat.le_of_ble_eq_true rfl) dL_slot_18
    · refine caught hC [⟨0, 12, 15, 13⟩] ⟨0, 12, 19, 21⟩ [⟨0, 12, 23, 30⟩] (htab.trans rfl) (fun z hz => by
            cases List.mem_singleton.mp hz
            exact Or.inr ⟨by decide, _, hC.t _ cl_L_13, hC.k.2.2.2.2.1 (_, _) (by decide)⟩) rfl (by decide) cl_L_21 (by decide) hce hcv hcl ?_
      refine o_astore hx hb dL_slot_19 hl (by decide) rfl (fun ls hl => ?_)
      refine lv_iconst (v := 2) hx hb dL_slot_21 (by decide) ?_
      exact R_I hC hS1 hr hlk rfl (Or.inr ⟨2, by decide, by decide, hcd, rfl, hG1⟩) (Nat.le_of_ble_eq_true rfl) (Nat.le_of_ble_eq_true rfl) dL_slot_22
    · refine caught hC [⟨0, 12, 15, 13⟩, ⟨0, 12, 19, 21⟩] ⟨0, 12, 23, 30⟩ [] (htab.trans rfl) (fun z hz => by
            rcases List.mem_cons.mp hz with h | h
            · cases h; exact Or.inr ⟨by decide, _, hC.t _ cl_L_13, hC.k.2.2.2.2.1 (_, _) (by decide)⟩
            · cases List.mem_singleton.mp h; exact Or.inr ⟨by decide, _, hC.t _ cl_L_21, hC.k.2.2.2.2.1 (_, _) (by decide)⟩) rfl (by decide) cl_L_30 (by decide) hce hcv hcl ?_
      refine o_astore hx hb dL_slot_23 hl (by decide) rfl (fun ls hl => ?_)
      refine lv_iconst (v := 3) hx hb dL_slot_25 (by decide) ?_
      exact R_I hC hS1 hr hlk rfl (Or.inr ⟨3, by decide, by decide, hcd, rfl, hG1⟩) (Nat.le_of_ble_eq_true rfl) (Nat.le_of_ble_eq_true rfl) dL_slot_26
  · subst hr1
    (try dsimp only at hB)
    rw [ht] at hB
    obtain ⟨q0, rfl, hG1⟩ := hB
    refine lv_i2l hx hb dL_slot_10 rfl ?_
    refine g_last hC hG1 hS1 V_out 0 rfl (by decide) (by decide) (up_Vw (by decide) Xl_out) dL_slot_11 (fun H locs hG hS => ?_)
    refine lv_goto (tgt := 27) hx hb dL_slot_12 (by decide) ?_
    refine lv_iconst (v := 0) hx hb dL_slot_27 (by decide) ?_
    exact R_I hC hS hr hlk rfl (Or.inl ⟨rfl, q0, ad, Ag.rf, hG⟩) (Nat.le_of_ble_eq_true rfl) (Nat.le_of_ble_eq_true rfl) dL_slot_28
theorem k_L_slot {p : Program} {l : Launch} {e : Env} {R : Room} {s : State} {m : MethodId} {args : Array Value} {below : List Frame} {meth : Method} {c : Code} {H : Heap} {locs : List Loc} {cells slots : Nat} {Q : State → Prop} {cc : ByteArray} {pc nL : Nat} {ls : Array Slot} {rest : List Value} {own : String} {D : va_G} {cy : Nat → ClassId} {sa : Nat → Nat} {de B : Nat} {ad : Ad} {S : St} {n : Nat → Nat} {T : St} {k : Nat → Nat} {th : Int32} {f : Nat → Int64} {g9 : Nat → UInt64} {x y z : Int32} (hfl : l.stackTraces = false) (hC : Cx p m c cc nL s args own D cy sa de B) (hS : va_S (AB B) s.heap H locs) (hG : GW D B ad (Vw cy de ad S n T k th (Xl cy f g9)) H) (h0 : Inv S n) {idx : Nat} (wl : Cond.methodLink own idx yL_slot ∈ G0) (hR : 8 + 1 ≤ R.frames ∧ 8 + (6 + 11) + 128 ≤ R.locals) (hsz : ls.size = nL) (hst : (rest.map fun v => v.category).sum ≤ 8) (hdg : decode cc pc = .ok (.invokestatic idx, 3)) (hcs : cells + 2 ≤ R.cells ∧ slots + 12 ≤ R.slots) (k0 : cd_slot S n x y z = 0 → ∀ (ad9 : Ad) (H1 : Heap) (locs1 : List Loc), Ag ad ad9 → GW D B ad9 (Vw cy de ad9 S n T k th (Xl cy (vp_updL f 0 (Int32.toInt64 (vl_slot S x z))) g9)) H1 → va_S (AB B) s.heap H1 locs1 → W p l e R s m args below meth c H1 locs1 (cells + 2) (slots + 12) Q (F0 m (pc + 3) ls (.int 0 :: rest))) (k1 : ∀ t9 : Nat, t9 < 4 → ¬ t9 = 0 → cd_slot S n x y z = t9 → ∀ (H1 : Heap) (locs1 : List Loc), GW D B ad (Vw cy de ad S n T k th (Xl cy f g9)) H1 → va_S (AB B) s.heap H1 locs1 → W p l e R s m args below meth c H1 locs1 (cells + 2) (slots + 12) Q (F0 m (pc + 3) ls (.int (nI t9) :: rest))) : W p l e R s m args below meth c H locs cells slots Q (F0 m pc ls (.ref (ad 20 0 0) :: .int z :: .int y :: .int x :: .ref (ad 0 0 0) :: rest)) :=
  va_calli (rSW hC hS hG h0 (As := [.ref (ad 0 0 0), .int x, .int y, .int z, .ref (ad 20 0 0)]) (c_L_slot l hfl) ⟨rfl, rfl⟩ wl sm_L_slot in_L cd_L_slot (n := 5) (by decide +kernel) hR rfl hsz hst rfl hdg hcs) hS (fun _ _ h => h) (fun _ h => h) (fun r u t H1 locs1 ht _ hr hB _ _ hS1 => by
    subst hr
    have hB9 := hB; try dsimp only at hB9
    rw [ht] at hB9
    rcases hB9 with ⟨rfl, q0, ad9, hA, hG1⟩ | ⟨t9, q1, q2, q3, rfl, hG1⟩
    · exact k0 q0 ad9 _ _ hA hG1 hS1
    · exact k1 t9 q1 q2 q3 _ _ hG1 hS1)
set_option maxHeartbeats 4000000 in
set_option maxRecDepth 100000 in
theorem c_L_record (l : Launch) (hfl : l.stackTraces = false) {D : va_G} {cy : Nat → ClassId} {sa : Nat → Nat} {de B : Nat} {ad : Ad} {S : St} {n : Nat → Nat} {T : St} {k : Nat → Nat} {th : Int32} {f : Nat → Int64} {g9 : Nat → UInt64} {x : Int32} : Met l yL_record (Cond.codeWith yL_record cL_record 4 (Option.some Jvm.ClassFile.FieldType.int) [((0 : Nat), (9 : Nat), (12 : Nat), (13 : Nat)), ((0 : Nat), (9 : Nat), (15 : Nat), (30 : Nat))] :: G0) ({ frames := 8, cells := 2, slots := 12, locals := 125 } : Room) (va_Pc [.ref (ad 0 0 0), .int x, .ref (ad 20 0 0)] (PW D cy sa de B ad (Vw cy de ad S n T k th (Xl cy f g9)) (Inv S n))) (oI B (fun r H => (r = 0 ∧ cd_record S n x = 0 ∧ ∃ ad9, Ag ad ad9 ∧ GW D B ad9 (Vw cy de ad9 S n T k th (Xl cy (vp_updL f 0 (Int32.toInt64 (S 14 (ci x) 0))) g9)) H) ∨ (∃ t9 : Nat, t9 < 4 ∧ ¬ t9 = 0 ∧ cd_record S n x = t9 ∧ r = nI t9 ∧ GW D B ad (Vw cy de ad S n T k th (Xl cy f g9)) H))) 2 12 (AB B) := by
  refine E_metW (own := RL) rfl rfl (Nat.le_of_ble_eq_true rfl) ?_
  intro p e s m below meth c hC hr hlk htab hG h0 ls hl
  have hx := hC.x
  have hb := hC.b
  have hS : va_S (AB B) s.heap s.heap [] := va_S.rf
  have hl : lo ls 4 [some (.ref (ad 0 0 0)), some (.int x), some (.ref (ad 20 0 0)), none] := lo_of hl
  refine o_aload_n hx hb dL_record_0 hl rfl ?_
  refine lv_iconst (v := 0) hx hb dL_record_1 (by decide) ?_
  refine o_aload_n hx hb dL_record_2 hl rfl ?_
  refine o_iload_n hx hb dL_record_3 hl rfl ?_
  refine vx_calli (xV hC hS hG h0.1 (As := [.int x]) (c_X6_record l hfl) ⟨rfl, rfl⟩ ml_L_111 im_X6_record sl_X6_X6_record in_X6 cd_X6_record (n := 1) (by decide +kernel) ⟨(Nat.le_of_ble_eq_true rfl), (Nat.le_of_ble_eq_true rfl)⟩ (recv hC hG (q := (RX6, TX6, 6)) rfl V_games) rfl hl.1 (Nat.le_of_ble_eq_true rfl) rfl dL_record_4 ⟨(Nat.le_of_ble_eq_true rfl), (Nat.le_of_ble_eq_true rfl)⟩) hS (fun _ _ h => h) (fun _ h => h) (fun _ _ h => h) (fun E ce q9 u t H1 locs1 ht hv hp hB hz hq hS1 hce hcv hcl => ?_) (fun r u t H1 locs1 ht _ hr1 hB _ _ hS1 => ?_)
  · (try dsimp only at hB)
    rw [ht] at hB
    obtain ⟨hE, hG1⟩ := hB
    rcases hE with ⟨rfl, hcd⟩ | ⟨rfl, hcd⟩
    · refine caught hC [] ⟨0, 9, 12, 13⟩ [⟨0, 9, 15, 30⟩] (htab.trans rfl) (fun z hz => absurd hz List.not_mem_nil) rfl (by decide) cl_L_13 (by decide) hce hcv hcl ?_
      refine o_astore_n hx hb dL_record_12 hl (by decide) rfl (fun ls hl => ?_)
      refine lv_iconst (v := 1) hx hb dL_record_13 (by decide) ?_
      exact R_I hC hS1 hr hlk rfl (Or.inr ⟨1, by decide, by decide, hcd, rfl, hG1⟩) (Nat.le_of_ble_eq_true rfl) (Nat.le_of_ble_eq_true rfl) dL_record_14
    · refine caught hC [⟨0, 9, 12, 13⟩] ⟨0, 9, 15, 30⟩ [] (htab.trans rfl) (fun z hz => by
            cases List.mem_singleton.mp hz
            exact Or.inr ⟨by decide, _, hC.t _ cl_L_13, hC.k.2.2.2.2.1 (_, _) (by decide)⟩) rfl (by decide) cl_L_30 (by decide) hce hcv hcl ?_
      refine o_astore_n hx hb dL_record_15 hl (by decide) rfl (fun ls hl => ?_)
      refine lv_iconst (v := 2) hx hb dL_record_16 (by decide) ?_
      exact R_I hC hS1 hr hlk rfl (Or.inr ⟨2, by decide, by decide, hcd, rfl, hG1⟩) (Nat.le_of_ble_eq_true rfl) (Nat.le_of_ble_eq_true rfl) dL_record_17
  · subst hr1
    (try dsimp only at hB)
    rw [ht] at hB
    obtain ⟨q0, rfl, hG1⟩ := hB
    refine lv_i2l hx hb dL_record_7 rfl ?_
    refine g_last hC hG1 hS1 V_out 0 rfl (by decide) (by decide) (up_Vw (by decide) Xl_out) dL_record_8 (fun H locs hG hS => ?_)
    refine lv_goto (tgt := 18) hx hb dL_record_9 (by decide) ?_
    refine lv_iconst (v := 0) hx hb dL_record_18 (by decide) ?_
    exact R_I hC hS hr hlk rfl (Or.inl ⟨rfl, q0, ad, Ag.rf, hG⟩) (Nat.le_of_ble_eq_true rfl) (Nat.le_of_ble_eq_true rfl) dL_record_19
theorem k_L_record {p : Program} {l : Launch} {e : Env} {R : Room} {s : State} {m : MethodId} {args : Array Value} {below : List Frame} {meth : Method} {c : Code} {H : Heap} {locs : List Loc} {cells slots : Nat} {Q : State → Prop} {cc : ByteArray} {pc nL : Nat} {ls : Array Slot} {rest : List Value} {own : String} {D : va_G} {cy : Nat → ClassId} {sa : Nat → Nat} {de B : Nat} {ad : Ad} {S : St} {n : Nat → Nat} {T : St} {k : Nat → Nat} {th : Int32} {f : Nat → Int64} {g9 : Nat → UInt64} {x : Int32} (hfl : l.stackTraces = false) (hC : Cx p m c cc nL s args own D cy sa de B) (hS : va_S (AB B) s.heap H locs) (hG : GW D B ad (Vw cy de ad S n T k th (Xl cy f g9)) H) (h0 : Inv S n) {idx : Nat} (wl : Cond.methodLink own idx yL_record ∈ G0) (hR : 8 + 1 ≤ R.frames ∧ 8 + (4 + 11) + 125 ≤ R.locals) (hsz : ls.size = nL) (hst : (rest.map fun v => v.category).sum ≤ 8) (hdg : decode cc pc = .ok (.invokestatic idx, 3)) (hcs : cells + 2 ≤ R.cells ∧ slots + 12 ≤ R.slots) (k0 : cd_record S n x = 0 → ∀ (ad9 : Ad) (H1 : Heap) (locs1 : List Loc), Ag ad ad9 → GW D B ad9 (Vw cy de ad9 S n T k th (Xl cy (vp_updL f 0 (Int32.toInt64 (S 14 (ci x) 0))) g9)) H1 → va_S (AB B) s.heap H1 locs1 → W p l e R s m args below meth c H1 locs1 (cells + 2) (slots + 12) Q (F0 m (pc + 3) ls (.int 0 :: rest))) (k1 : ∀ t9 : Nat, t9 < 4 → ¬ t9 = 0 → cd_record S n x = t9 → ∀ (H1 : Heap) (locs1 : List Loc), GW D B ad (Vw cy de ad S n T k th (Xl cy f g9)) H1 → va_S (AB B) s.heap H1 locs1 → W p l e R s m args below meth c H1 locs1 (cells + 2) (slots + 12) Q (F0 m (pc + 3) ls (.int (nI t9) :: rest))) : W p l e R s m args below meth c H locs cells slots Q (F0 m pc ls (.ref (ad 20 0 0) :: .int x :: .ref (ad 0 0 0) :: rest)) :=
  va_calli (rSW hC hS hG h0 (As := [.ref (ad 0 0 0), .int x, .ref (ad 20 0 0)]) (c_L_record l hfl) ⟨rfl, rfl⟩ wl sm_L_record in_L cd_L_record (n := 3) (by decide +kernel) hR rfl hsz hst rfl hdg hcs) hS (fun _ _ h => h) (fun _ h => h) (fun r u t H1 locs1 ht _ hr hB _ _ hS1 => by
    subst hr
    have hB9 := hB; try dsimp only at hB9
    rw [ht] at hB9
    rcases hB9 with ⟨rfl, q0, ad9, hA, hG1⟩ | ⟨t9, q1, q2, q3, rfl, hG1⟩
    · exact k0 q0 ad9 _ _ hA hG1 hS1
    · exact k1 t9 q1 q2 q3 _ _ hG1 hS1)
set_option maxHeartbeats 4000000 in
set_option maxRecDepth 100000 in
theorem c_L_floor (l : Launch) (hfl : l.stackTraces = false) {D : va_G} {cy : Nat → ClassId} {sa : Nat → Nat} {de B : Nat} {ad : Ad} {S : St} {n : Nat → Nat} {T : St} {k : Nat → Nat} {th : Int32} {f : Nat → Int64} {g9 : Nat → UInt64} {x y : Int32} : Met l yL_floor (Cond.codeWith yL_floor cL_floor 5 (Option.some Jvm.ClassFile.FieldType.int) [((0 : Nat), (10 : Nat), (13 : Nat), (13 : Nat)), ((0 : Nat), (10 : Nat), (17 : Nat), (21 : Nat)), ((0 : Nat), (10 : Nat), (21 : Nat), (46 : Nat))] :: G0) ({ frames := 8, cells := 2, slots := 12, locals := 125 } : Room) (va_Pc [.ref (ad 0 0 0), .int x, .int y, .ref (ad 20 0 0)] (PW D cy sa de B ad (Vw cy de ad S n T k th (Xl cy f g9)) (Inv S n))) (oI B (fun r H => (r = 0 ∧ cd_floor S n x y = 0 ∧ ∃ ad9, Ag ad ad9 ∧ GW D B ad9 (Vw cy de ad9 (puF S x y (n 0)) n T k th (Xl cy (vp_updL f 0 (Int32.toInt64 (ptF S y (n 0)))) g9)) H) ∨ (∃ t9 : Nat, t9 < 4 ∧ ¬ t9 = 0 ∧ cd_floor S n x y = t9 ∧ r = nI t9 ∧ GW D B ad (Vw cy de ad S n T k th (Xl cy f g9)) H))) 2 12 (AB B) := by
  refine E_metW (own := RL) rfl rfl (Nat.le_of_ble_eq_true rfl) ?_
  intro p e s m below meth c hC hr hlk htab hG h0 ls hl
  have hx := hC.x
  have hb := hC.b
  have hS : va_S (AB B) s.heap s.heap [] := va_S.rf
  have hl : lo ls 5 [some (.ref (ad 0 0 0)), some (.int x), some (.int y), some (.ref (ad 20 0 0)), none] := lo_of hl
  refine o_aload_n hx hb dL_floor_0 hl rfl ?_
  refine lv_iconst (v := 0) hx hb dL_floor_1 (by decide) ?_
  refine o_aload_n hx hb dL_floor_2 hl rfl ?_
  refine o_iload_n hx hb dL_floor_3 hl rfl ?_
  refine o_iload_n hx hb dL_floor_4 hl rfl ?_
  refine vx_calli (xV hC hS hG h0.1 (As := [.int x, .int y]) (c_X6_floor l hfl) ⟨rfl, rfl⟩ ml_L_114 im_X6_floor sl_X6_X6_floor in_X6 cd_X6_floor (n := 2) (by decide +kernel) ⟨(Nat.le_of_ble_eq_true rfl), (Nat.le_of_ble_eq_true rfl)⟩ (recv hC hG (q := (RX6, TX6, 6)) rfl V_games) rfl hl.1 (Nat.le_of_ble_eq_true rfl) rfl dL_floor_5 ⟨(Nat.le_of_ble_eq_true rfl), (Nat.le_of_ble_eq_true rfl)⟩) hS (fun _ _ h => h) (fun _ h => h) (fun _ _ h => h) (fun E ce q9 u t H1 locs1 ht hv hp hB hz hq hS1 hce hcv hcl => ?_) (fun r u t H1 locs1 ht _ hr1 hB _ _ hS1 => ?_)
  · (try dsimp only at hB)
    rw [ht] at hB
    obtain ⟨hE, hG1⟩ := hB
    rcases hE with ⟨rfl, hcd⟩ | ⟨rfl, hcd⟩ | ⟨rfl, hcd⟩
    · refine caught hC [] ⟨0, 10, 13, 13⟩ [⟨0, 10, 17, 21⟩, ⟨0, 10, 21, 46⟩] (htab.trans rfl) (fun z hz => absurd hz List.not_mem_nil) rfl (by decide) cl_L_13 (by decide) hce hcv hcl ?_
      refine o_astore hx hb dL_floor_13 hl (by decide) rfl (fun ls hl => ?_)
      refine lv_iconst (v := 1) hx hb dL_floor_15 (by decide) ?_
      exact R_I hC hS1 hr hlk rfl (Or.inr ⟨1, by decide, by decide, hcd, rfl, hG1⟩) (Nat.le_of_ble_eq_true rfl) (Nat.le_of_ble_eq_true rfl) dL_floor_16
    · refine caught hC [⟨0, 10, 13, 13⟩] ⟨0, 10, 17, 21⟩ [⟨0, 10, 21, 46⟩] (htab.trans rfl) (fun z hz => by
            cases List.mem_singleton.mp hz
            exact Or.inr ⟨by decide, _, hC.t _ cl_L_13, hC.k.2.2.2.2.1 (_, _) (by decide)⟩) rfl (by decide) cl_L_21 (by decide) hce hcv hcl ?_
      refine o_astore hx hb dL_floor_17 hl (by decide) rfl (fun ls hl => ?_)
      refine lv_iconst (v := 2) hx hb dL_floor_19 (by decide) ?_
      exact R_I hC hS1 hr hlk rfl (Or.inr ⟨2, by decide, by decide, hcd, rfl, hG1⟩) (Nat.le_of_ble_eq_true rfl) (Nat.le_of_ble_eq_true rfl) dL_floor_20
    · refine caught hC [⟨0, 10, 13, 13⟩, ⟨0, 10, 17, 21⟩] ⟨0, 10, 21, 46⟩ [] (htab.trans rfl) (fun z hz => by
            rcases List.mem_cons.mp hz with h | h
            · cases h; exact Or.inr ⟨by decide, _, hC.t _ cl_L_13, hC.k.2.2.2.2.1 (_, _) (by decide)⟩
            · cases List.mem_singleton.mp h; exact Or.inr ⟨by decide, _, hC.t _ cl_L_21, hC.k.2.2.2.2.1 (_, _) (by decide)⟩) rfl (by decide) cl_L_46 (by decide) hce hcv hcl ?_
      refine o_astore hx hb dL_floor_21 hl (by decide) rfl (fun ls hl => ?_)
      refine lv_iconst (v := 3) hx hb dL_floor_23 (by decide) ?_
      exact R_I hC hS1 hr hlk rfl (Or.inr ⟨3, by decide, by decide, hcd, rfl, hG1⟩) (Nat.le_of_ble_eq_true rfl) (Nat.le_of_ble_eq_true rfl) dL_floor_24
  · subst hr1
    (try dsimp only at hB)
    rw [ht] at hB
    obtain ⟨q0, rfl, hG1⟩ := hB
    refine lv_i2l hx hb dL_floor_8 rfl ?_
    refine g_last hC hG1 hS1 V_out 0 rfl (by decide) (by decide) (up_Vw (by decide) Xl_out) dL_floor_9 (fun H locs hG hS => ?_)
    refine lv_goto (tgt := 25) hx hb dL_floor_10 (by decide) ?_
    refine lv_iconst (v := 0) hx hb dL_floor_25 (by decide) ?_
    exact R_I hC hS hr hlk rfl (Or.inl ⟨rfl, q0, ad, Ag.rf, hG⟩) (Nat.le_of_ble_eq_true rfl) (Nat.le_of_ble_eq_true rfl) dL_floor_26
theorem k_L_floor {p : Program} {l : Launch} {e : Env} {R : Room} {s : State} {m : MethodId} {args : Array Value} {below : List Frame} {meth : Method} {c : Code} {H : Heap} {locs : List Loc} {cells slots : Nat} {Q : State → Prop} {cc : ByteArray} {pc nL : Nat} {ls : Array Slot} {rest : List Value} {own : String} {D : va_G} {cy : Nat → ClassId} {sa : Nat → Nat} {de B : Nat} {ad : Ad} {S : St} {n : Nat → Nat} {T : St} {k : Nat → Nat} {th : Int32} {f : Nat → Int64} {g9 : Nat → UInt64} {x y : Int32} (hfl : l.stackTraces = false) (hC : Cx p m c cc nL s args own D cy sa de B) (hS : va_S (AB B) s.heap H locs) (hG : GW D B ad (Vw cy de ad S n T k th (Xl cy f g9)) H) (h0 : Inv S n) {idx : Nat} (wl : Cond.methodLink own idx yL_floor ∈ G0) (hR : 8 + 1 ≤ R.frames ∧ 8 + (5 + 11) + 125 ≤ R.locals) (hsz : ls.size = nL) (hst : (rest.map fun v => v.category).sum ≤ 8) (hdg : decode cc pc = .ok (.invokestatic idx, 3)) (hcs : cells + 2 ≤ R.cells ∧ slots + 12 ≤ R.slots) (k0 : cd_floor S n x y = 0 → ∀ (ad9 : Ad) (H1 : Heap) (locs1 : List Loc), Ag ad ad9 → GW D B ad9 (Vw cy de ad9 (puF S x y (n 0)) n T k th (Xl cy (vp_updL f 0 (Int32.toInt64 (ptF S y (n 0)))) g9)) H1 → va_S (AB B) s.heap H1 locs1 → W p l e R s m args below meth c H1 locs1 (cells + 2) (slots + 12) Q (F0 m (pc + 3) ls (.int 0 :: rest))) (k1 : ∀ t9 : Nat, t9 < 4 → ¬ t9 = 0 → cd_floor S n x y = t9 → ∀ (H1 : Heap) (locs1 : List Loc), GW D B ad (Vw cy de ad S n T k th (Xl cy f g9)) H1 → va_S (AB B) s.heap H1 locs1 → W p l e R s m args below meth c H1 locs1 (cells + 2) (slots + 12) Q (F0 m (pc + 3) ls (.int (nI t9) :: rest))) : W p l e R s m args below meth c H locs cells slots Q (F0 m pc ls (.ref (ad 20 0 0) :: .int y :: .int x :: .ref (ad 0 0 0) :: rest)) :=
  va_calli (rSW hC hS hG h0 (As := [.ref (ad 0 0 0), .int x, .int y, .ref (ad 20 0 0)]) (c_L_floor l hfl) ⟨rfl, rfl⟩ wl sm_L_floor in_L cd_L_floor (n := 4) (by decide +kernel) hR rfl hsz hst rfl hdg hcs) hS (fun _ _ h => h) (fun _ h => h) (fun r u t H1 locs1 ht _ hr hB _ _ hS1 => by
    subst hr
    have hB9 := hB; try dsimp only at hB9
    rw [ht] at hB9
    rcases hB9 with ⟨rfl, q0, ad9, hA, hG1⟩ | ⟨t9, q1, q2, q3, rfl, hG1⟩
    · exact k0 q0 ad9 _ _ hA hG1 hS1
    · exact k1 t9 q1 q2 q3 _ _ hG1 hS1)
set_option maxHeartbeats 4000000 in
set_option maxRecDepth 100000 in
theorem c_L_swap (l : Launch) (hfl : l.stackTraces = false) {D : va_G} {cy : Nat → ClassId} {sa : Nat → Nat} {de B : Nat} {ad : Ad} {S : St} {n : Nat → Nat} {T : St} {k : Nat → Nat} {th : Int32} {f : Nat → Int64} {g9 : Nat → UInt64} {x y z : Int32} : Met l yL_swap (Cond.codeWith yL_swap cL_swap 6 (Option.some Jvm.ClassFile.FieldType.int) [((0 : Nat), (12 : Nat), (15 : Nat), (13 : Nat)), ((0 : Nat), (12 : Nat), (19 : Nat), (21 : Nat)), ((0 : Nat), (12 : Nat), (23 : Nat), (46 : Nat))] :: G0) ({ frames := 8, cells := 4, slots := 24, locals := 129 } : Room) (va_Pc [.ref (ad 0 0 0), .int x, .int y, .int z, .ref (ad 20 0 0)] (PW D cy sa de B ad (Vw cy de ad S n T k th (Xl cy f g9)) (Inv S n))) (oI B (fun r H => (r = 0 ∧ cd_swap S n x y z = 0 ∧ ∃ ad9, Ag ad ad9 ∧ GW D B ad9 (Vw cy de ad9 (up_swap S y z) n T k th (Xl cy (vp_updL f 0 (Int32.toInt64 (swp S n x (ci y) (ci z)))) g9)) H) ∨ (∃ t9 : Nat, t9 < 4 ∧ ¬ t9 = 0 ∧ cd_swap S n x y z = t9 ∧ r = nI t9 ∧ GW D B ad (Vw cy de ad S n T k th (Xl cy f g9)) H))) 4 24 (AB B) := by
  refine E_metW (own := RL) rfl rfl (Nat.le_of_ble_eq_true rfl) ?_
  intro p e s m below meth c hC hr hlk htab hG h0 ls hl
  have hx := hC.x
  have hb := hC.b
  have hS : va_S (AB B) s.heap s.heap [] := va_S.rf
  have hl : lo ls 6 [some (.ref (ad 0 0 0)), some (.int x), some (.int y), some (.int z), some (.ref (ad 20 0 0)), none] := lo_of hl
  refine o_aload hx hb dL_swap_0 hl rfl ?_
  refine lv_iconst (v := 0) hx hb dL_swap_2 (by decide) ?_
  refine o_aload_n hx hb dL_swap_3 hl rfl ?_
  refine o_iload_n hx hb dL_swap_4 hl rfl ?_
  refine o_iload_n hx hb dL_swap_5 hl rfl ?_
  refine o_iload_n hx hb dL_swap_6 hl rfl ?_
  refine vx_calli (xV hC hS hG h0.1 (As := [.int x, .int y, .int z]) (c_X6_swap l hfl) ⟨rfl, rfl⟩ ml_L_117 im_X6_swap sl_X6_X6_swap in_X6 cd_X6_swap (n := 3) (by decide +kernel) ⟨(Nat.le_of_ble_eq_true rfl), (Nat.le_of_ble_eq_true rfl)⟩ (recv hC hG (q := (RX6, TX6, 6)) rfl V_games) rfl hl.1 (Nat.le_of_ble_eq_true rfl) rfl dL_swap_7 ⟨(Nat.le_of_ble_eq_true rfl), (Nat.le_of_ble_eq_true rfl)⟩) hS (fun _ _ h => h) (fun _ h => h) (fun _ _ h => h) (fun E ce q9 u t H1 locs1 ht hv hp hB hz hq hS1 hce hcv hcl => ?_) (fun r u t H1 locs1 ht _ hr1 hB _ _ hS1 => ?_)
  · (try dsimp only at hB)
    rw [ht] at hB
    obtain ⟨hE, hG1⟩ := hB
    rcases hE with ⟨rfl, hcd⟩ | ⟨rfl, hcd⟩ | ⟨rfl, hcd⟩
    · refine caught hC [] ⟨0, 12, 15, 13⟩ [⟨0, 12, 19, 21⟩, ⟨0, 12, 23, 46⟩] (htab.trans rfl) (fun z hz => absurd hz List.not_mem_nil) rfl (by decide) cl_L_13 (by decide) hce hcv hcl ?_
      refine o_astore hx hb dL_swap_15 hl (by decide) rfl (fun ls hl => ?_)
      refine lv_iconst (v := 1) hx hb dL_swap_17 (by decide) ?_
      exact R_I hC hS1 hr hlk rfl (Or.inr ⟨1, by decide, by decide, hcd, rfl, hG1⟩) (Nat.le_of_ble_eq_true rfl) (Nat.le_of_ble_eq_true rfl) dL_swap_18
    · refine caught hC [⟨0, 12, 15, 13⟩] ⟨0, 12, 19, 21⟩ [⟨0, 12, 23, 46⟩] (htab.trans rfl) (fun z hz => by
            cases List.mem_singleton.mp hz
            exact Or.inr ⟨by decide, _, hC.t _ cl_L_13, hC.k.2.2.2.2.1 (_, _) (by decide)⟩) rfl (by decide) cl_L_21 (by decide) hce hcv hcl ?_
      refine o_astore hx hb dL_swap_19 hl (by decide) rfl (fun ls hl => ?_)
      refine lv_iconst (v := 2) hx hb dL_swap_21 (by decide) ?_
      exact R_I hC hS1 hr hlk rfl (Or.inr ⟨2, by decide, by decide, hcd, rfl, hG1⟩) (Nat.le_of_ble_eq_true rfl) (Nat.le_of_ble_eq_true rfl) dL_swap_22
    · refine caught hC [⟨0, 12, 15, 13⟩, ⟨0, 12, 19, 21⟩] ⟨0, 12, 23, 46⟩ [] (htab.trans rfl) (fun z hz => by
            rcases List.mem_cons.mp hz with h | h
            · cases h; exact Or.inr ⟨by decide, _, hC.t _ cl_L_13, hC.k.2.2.2.2.1 (_, _) (by decide)⟩
            · cases List.mem_singleton.mp h; exact Or.inr ⟨by decide, _, hC.t _ cl_L_21, hC.k.2.2.2.2.1 (_, _) (by decide)⟩) rfl (by decide) cl_L_46 (by decide) hce hcv hcl ?_
      refine o_astore hx hb dL_swap_23 hl (by decide) rfl (fun ls hl => ?_)
      refine lv_iconst (v := 3) hx hb dL_swap_25 (by decide) ?_
      exact R_I hC hS1 hr hlk rfl (Or.inr ⟨3, by decide, by decide, hcd, rfl, hG1⟩) (Nat.le_of_ble_eq_true rfl) (Nat.le_of_ble_eq_true rfl) dL_swap_26
  · subst hr1
    (try dsimp only at hB)
    rw [ht] at hB
    obtain ⟨q0, rfl, hG1⟩ := hB
    refine lv_i2l hx hb dL_swap_10 rfl ?_
    refine g_last hC hG1 hS1 V_out 0 rfl (by decide) (by decide) (up_Vw (by decide) Xl_out) dL_swap_11 (fun H locs hG hS => ?_)
    refine lv_goto (tgt := 27) hx hb dL_swap_12 (by decide) ?_
    refine lv_iconst (v := 0) hx hb dL_swap_27 (by decide) ?_
    exact R_I hC hS hr hlk rfl (Or.inl ⟨rfl, q0, ad, Ag.rf, hG⟩) (Nat.le_of_ble_eq_true rfl) (Nat.le_of_ble_eq_true rfl) dL_swap_28
theorem k_L_swap {p : Program} {l : Launch} {e : Env} {R : Room} {s : State} {m : MethodId} {args : Array Value} {below : List Frame} {meth : Method} {c : Code} {H : Heap} {locs : List Loc} {cells slots : Nat} {Q : State → Prop} {cc : ByteArray} {pc nL : Nat} {ls : Array Slot} {rest : List Value} {own : String} {D : va_G} {cy : Nat → ClassId} {sa : Nat → Nat} {de B : Nat} {ad : Ad} {S : St} {n : Nat → Nat} {T : St} {k : Nat → Nat} {th : Int32} {f : Nat → Int64} {g9 : Nat → UInt64} {x y z : Int32} (hfl : l.stackTraces = false) (hC : Cx p m c cc nL s args own D cy sa de B) (hS : va_S (AB B) s.heap H locs) (hG : GW D B ad (Vw cy de ad S n T k th (Xl cy f g9)) H) (h0 : Inv S n) {idx : Nat} (wl : Cond.methodLink own idx yL_swap ∈ G0) (hR : 8 + 1 ≤ R.frames ∧ 8 + (6 + 11) + 129 ≤ R.locals) (hsz : ls.size = nL) (hst : (rest.map fun v => v.category).sum ≤ 8) (hdg : decode cc pc = .ok (.invokestatic idx, 3)) (hcs : cells + 4 ≤ R.cells ∧ slots + 24 ≤ R.slots) (k0 : cd_swap S n x y z = 0 → ∀ (ad9 : Ad) (H1 : Heap) (locs1 : List Loc), Ag ad ad9 → GW D B ad9 (Vw cy de ad9 (up_swap S y z) n T k th (Xl cy (vp_updL f 0 (Int32.toInt64 (swp S n x (ci y) (ci z)))) g9)) H1 → va_S (AB B) s.heap H1 locs1 → W p l e R s m args below meth c H1 locs1 (cells + 4) (slots + 24) Q (F0 m (pc + 3) ls (.int 0 :: rest))) (k1 : ∀ t9 : Nat, t9 < 4 → ¬ t9 = 0 → cd_swap S n x y z = t9 → ∀ (H1 : Heap) (locs1 : List Loc), GW D B ad (Vw cy de ad S n T k th (Xl cy f g9)) H1 → va_S (AB B) s.heap H1 locs1 → W p l e R s m args below meth c H1 locs1 (cells + 4) (slots + 24) Q (F0 m (pc + 3) ls (.int (nI t9) :: rest))) : W p l e R s m args below meth c H locs cells slots Q (F0 m pc ls (.ref (ad 20 0 0) :: .int z :: .int y :: .int x :: .ref (ad 0 0 0) :: rest)) :=
  va_calli (rSW hC hS hG h0 (As := [.ref (ad 0 0 0), .int x, .int y, .int z, .ref (ad 20 0 0)]) (c_L_swap l hfl) ⟨rfl, rfl⟩ wl sm_L_swap in_L cd_L_swap (n := 5) (by decide +kernel) hR rfl hsz hst rfl hdg hcs) hS (fun _ _ h => h) (fun _ h => h) (fun r u t H1 locs1 ht _ hr hB _ _ hS1 => by
    subst hr
    have hB9 := hB; try dsimp only at hB9
    rw [ht] at hB9
    rcases hB9 with ⟨rfl, q0, ad9, hA, hG1⟩ | ⟨t9, q1, q2, q3, rfl, hG1⟩
    · exact k0 q0 ad9 _ _ hA hG1 hS1
    · exact k1 t9 q1 q2 q3 _ _ hG1 hS1)
set_option maxHeartbeats 4000000 in
set_option maxRecDepth 100000 in
theorem c_L_onFloor (l : Launch) (hfl : l.stackTraces = false) {D : va_G} {cy : Nat → ClassId} {sa : Nat → Nat} {de B : Nat} {ad : Ad} {S : St} {n : Nat → Nat} {T : St} {k : Nat → Nat} {th : Int32} {f : Nat → Int64} {g9 : Nat → UInt64} {x : Int32} : Met l yL_onFloor (Cond.codeWith yL_onFloor cL_onFloor 4 (Option.some Jvm.ClassFile.FieldType.int) [((0 : Nat), (9 : Nat), (12 : Nat), (13 : Nat))] :: G0) ({ frames := 8, cells := 1, slots := 6, locals := 123 } : Room) (va_Pc [.ref (ad 0 0 0), .int x, .ref (ad 20 0 0)] (PW D cy sa de B ad (Vw cy de ad S n T k th (Xl cy f g9)) (Inv S n))) (oI B (fun r H => (r = 0 ∧ cd_money x = 0 ∧ ∃ ad9, Ag ad ad9 ∧ GW D B ad9 (Vw cy de ad9 S n T k th (Xl cy (vp_updL f 0 (Int32.toInt64 (biF S x (n 0)))) g9)) H) ∨ (∃ t9 : Nat, t9 < 4 ∧ ¬ t9 = 0 ∧ cd_money x = t9 ∧ r = nI t9 ∧ GW D B ad (Vw cy de ad S n T k th (Xl cy f g9)) H))) 1 6 (AB B) := by
  refine E_metW (own := RL) rfl rfl (Nat.le_of_ble_eq_true rfl) ?_
  intro p e s m below meth c hC hr hlk htab hG h0 ls hl
  have hx := hC.x
  have hb := hC.b
  have hS : va_S (AB B) s.heap s.heap [] := va_S.rf
  have hl : lo ls 4 [some (.ref (ad 0 0 0)), some (.int x), some (.ref (ad 20 0 0)), none] := lo_of hl
  refine o_aload_n hx hb dL_onFloor_0 hl rfl ?_
  refine lv_iconst (v := 0) hx hb dL_onFloor_1 (by decide) ?_
  refine o_aload_n hx hb dL_onFloor_2 hl rfl ?_
  refine o_iload_n hx hb dL_onFloor_3 hl rfl ?_
  refine vx_calli (xV hC hS hG h0.1 (As := [.int x]) (c_X6_onFloor l hfl) ⟨rfl, rfl⟩ ml_L_120 im_X6_onFloor sl_X6_X6_onFloor in_X6 cd_X6_onFloor (n := 1) (by decide +kernel) ⟨(Nat.le_of_ble_eq_true rfl), (Nat.le_of_ble_eq_true rfl)⟩ (recv hC hG (q := (RX6, TX6, 6)) rfl V_games) rfl hl.1 (Nat.le_of_ble_eq_true rfl) rfl dL_onFloor_4 ⟨(Nat.le_of_ble_eq_true rfl), (Nat.le_of_ble_eq_true rfl)⟩) hS (fun _ _ h => h) (fun _ h => h) (fun _ _ h => h) (fun E ce q9 u t H1 locs1 ht hv hp hB hz hq hS1 hce hcv hcl => ?_) (fun r u t H1 locs1 ht _ hr1 hB _ _ hS1 => ?_)
  · (try dsimp only at hB)
    rw [ht] at hB
    obtain ⟨⟨rfl, hcd⟩, hG1⟩ := hB
    · refine caught hC [] ⟨0, 9, 12, 13⟩ [] (htab.trans rfl) (fun z hz => absurd hz List.not_mem_nil) rfl (by decide) cl_L_13 (by decide) hce hcv hcl ?_
      refine o_astore_n hx hb dL_onFloor_12 hl (by decide) rfl (fun ls hl => ?_)
      refine lv_iconst (v := 1) hx hb dL_onFloor_13 (by decide) ?_
      exact R_I hC hS1 hr hlk rfl (Or.inr ⟨1, by decide, by decide, hcd, rfl, hG1⟩) (Nat.le_of_ble_eq_true rfl) (Nat.le_of_ble_eq_true rfl) dL_onFloor_14
  · subst hr1
    (try dsimp only at hB)
    rw [ht] at hB
    obtain ⟨q0, rfl, hG1⟩ := hB
    refine lv_i2l hx hb dL_onFloor_7 rfl ?_
    refine g_last hC hG1 hS1 V_out 0 rfl (by decide) (by decide) (up_Vw (by decide) Xl_out) dL_onFloor_8 (fun H locs hG hS => ?_)
    refine lv_goto (tgt := 15) hx hb dL_onFloor_9 (by decide) ?_
    refine lv_iconst (v := 0) hx hb dL_onFloor_15 (by decide) ?_
    exact R_I hC hS hr hlk rfl (Or.inl ⟨rfl, q0, ad, Ag.rf, hG⟩) (Nat.le_of_ble_eq_true rfl) (Nat.le_of_ble_eq_true rfl) dL_onFloor_16
theorem k_L_onFloor {p : Program} {l : Launch} {e : Env} {R : Room} {s : State} {m : MethodId} {args : Array Value} {below : List Frame} {meth : Method} {c : Code} {H : Heap} {locs : List Loc} {cells slots : Nat} {Q : State → Prop} {cc : ByteArray} {pc nL : Nat} {ls : Array Slot} {rest : List Value} {own : String} {D : va_G} {cy : Nat → ClassId} {sa : Nat → Nat} {de B : Nat} {ad : Ad} {S : St} {n : Nat → Nat} {T : St} {k : Nat → Nat} {th : Int32} {f : Nat → Int64} {g9 : Nat → UInt64} {x : Int32} (hfl : l.stackTraces = false) (hC : Cx p m c cc nL s args own D cy sa de B) (hS : va_S (AB B) s.heap H locs) (hG : GW D B ad (Vw cy de ad S n T k th (Xl cy f g9)) H) (h0 : Inv S n) {idx : Nat} (wl : Cond.methodLink own idx yL_onFloor ∈ G0) (hR : 8 + 1 ≤ R.frames ∧ 8 + (4 + 11) + 123 ≤ R.locals) (hsz : ls.size = nL) (hst : (rest.map fun v => v.category).sum ≤ 8) (hdg : decode cc pc = .ok (.invokestatic idx, 3)) (hcs : cells + 1 ≤ R.cells ∧ slots + 6 ≤ R.slots) (k0 : cd_money x = 0 → ∀ (ad9 : Ad) (H1 : Heap) (locs1 : List Loc), Ag ad ad9 → GW D B ad9 (Vw cy de ad9 S n T k th (Xl cy (vp_updL f 0 (Int32.toInt64 (biF S x (n 0)))) g9)) H1 → va_S (AB B) s.heap H1 locs1 → W p l e R s m args below meth c H1 locs1 (cells + 1) (slots + 6) Q (F0 m (pc + 3) ls (.int 0 :: rest))) (k1 : ∀ t9 : Nat, t9 < 4 → ¬ t9 = 0 → cd_money x = t9 → ∀ (H1 : Heap) (locs1 : List Loc), GW D B ad (Vw cy de ad S n T k th (Xl cy f g9)) H1 → va_S (AB B) s.heap H1 locs1 → W p l e R s m args below meth c H1 locs1 (cells + 1) (slots + 6) Q (F0 m (pc + 3) ls (.int (nI t9) :: rest))) : W p l e R s m args below meth c H locs cells slots Q (F0 m pc ls (.ref (ad 20 0 0) :: .int x :: .ref (ad 0 0 0) :: rest)) :=
  va_calli (rSW hC hS hG h0 (As := [.ref (ad 0 0 0), .int x, .ref (ad 20 0 0)]) (c_L_onFloor l hfl) ⟨rfl, rfl⟩ wl sm_L_onFloor in_L cd_L_onFloor (n := 3) (by decide +kernel) hR rfl hsz hst rfl hdg hcs) hS (fun _ _ h => h) (fun _ h => h) (fun r u t H1 locs1 ht _ hr hB _ _ hS1 => by
    subst hr
    have hB9 := hB; try dsimp only at hB9
    rw [ht] at hB9
    rcases hB9 with ⟨rfl, q0, ad9, hA, hG1⟩ | ⟨t9, q1, q2, q3, rfl, hG1⟩
    · exact k0 q0 ad9 _ _ hA hG1 hS1
    · exact k1 t9 q1 q2 q3 _ _ hG1 hS1)
set_option maxHeartbeats 4000000 in
set_option maxRecDepth 100000 in
theorem c_L_points (l : Launch) (hfl : l.stackTraces = false) {D : va_G} {cy : Nat → ClassId} {sa : Nat → Nat} {de B : Nat} {ad : Ad} {S : St} {n : Nat → Nat} {T : St} {k : Nat → Nat} {th : Int32} {f : Nat → Int64} {g9 : Nat → UInt64} {x : Int32} : Met l yL_points (Cond.codeWith yL_points cL_points 4 (Option.some Jvm.ClassFile.FieldType.int) [((0 : Nat), (9 : Nat), (12 : Nat), (13 : Nat))] :: G0) ({ frames := 8, cells := 1, slots := 6, locals := 123 } : Room) (va_Pc [.ref (ad 0 0 0), .int x, .ref (ad 20 0 0)] (PW D cy sa de B ad (Vw cy de ad S n T k th (Xl cy f g9)) (Inv S n))) (oI B (fun r H => (r = 0 ∧ cd_money x = 0 ∧ ∃ ad9, Ag ad ad9 ∧ GW D B ad9 (Vw cy de ad9 S n T k th (Xl cy (vp_updL f 0 (Int32.toInt64 (ptF S (biF S x (n 0)) (n 0)))) g9)) H) ∨ (∃ t9 : Nat, t9 < 4 ∧ ¬ t9 = 0 ∧ cd_money x = t9 ∧ r = nI t9 ∧ GW D B ad (Vw cy de ad S n T k th (Xl cy f g9)) H))) 1 6 (AB B) := by
  refine E_metW (own := RL) rfl rfl (Nat.le_of_ble_eq_true rfl) ?_
  intro p e s m below meth c hC hr hlk htab hG h0 ls hl
  have hx := hC.x
  have hb := hC.b
  have hS : va_S (AB B) s.heap s.heap [] := va_S.rf
  have hl : lo ls 4 [some (.ref (ad 0 0 0)), some (.int x), some (.ref (ad 20 0 0)), none] := lo_of hl
  refine o_aload_n hx hb dL_points_0 hl rfl ?_
  refine lv_iconst (v := 0) hx hb dL_points_1 (by decide) ?_
  refine o_aload_n hx hb dL_points_2 hl rfl ?_
  refine o_iload_n hx hb dL_points_3 hl rfl ?_
  refine vx_calli (xV hC hS hG h0.1 (As := [.int x]) (c_X6_points l hfl) ⟨rfl, rfl⟩ ml_L_123 im_X6_points sl_X6_X6_points in_X6 cd_X6_points (n := 1) (by decide +kernel) ⟨(Nat.le_of_ble_eq_true rfl), (Nat.le_of_ble_eq_true rfl)⟩ (recv hC hG (q := (RX6, TX6, 6)) rfl V_games) rfl hl.1 (Nat.le_of_ble_eq_true rfl) rfl dL_points_4 ⟨(Nat.le_of_ble_eq_true rfl), (Nat.le_of_ble_eq_true rfl)⟩) hS (fun _ _ h => h) (fun _ h => h) (fun _ _ h => h) (fun E ce q9 u t H1 locs1 ht hv hp hB hz hq hS1 hce hcv hcl => ?_) (fun r u t H1 locs1 ht _ hr1 hB _ _ hS1 => ?_)
  · (try dsimp only at hB)
    rw [ht] at hB
    obtain ⟨⟨rfl, hcd⟩, hG1⟩ := hB
    · refine caught hC [] ⟨0, 9, 12, 13⟩ [] (htab.trans rfl) (fun z hz => absurd hz List.not_mem_nil) rfl (by decide) cl_L_13 (by decide) hce hcv hcl ?_
      refine o_astore_n hx hb dL_points_12 hl (by decide) rfl (fun ls hl => ?_)
      refine lv_iconst (v := 1) hx hb dL_points_13 (by decide) ?_
      exact R_I hC hS1 hr hlk rfl (Or.inr ⟨1, by decide, by decide, hcd, rfl, hG1⟩) (Nat.le_of_ble_eq_true rfl) (Nat.le_of_ble_eq_true rfl) dL_points_14
  · subst hr1
    (try dsimp only at hB)
    rw [ht] at hB
    obtain ⟨q0, rfl, hG1⟩ := hB
    refine lv_i2l hx hb dL_points_7 rfl ?_
    refine g_last hC hG1 hS1 V_out 0 rfl (by decide) (by decide) (up_Vw (by decide) Xl_out) dL_points_8 (fun H locs hG hS => ?_)
    refine lv_goto (tgt := 15) hx hb dL_points_9 (by decide) ?_
    refine lv_iconst (v := 0) hx hb dL_points_15 (by decide) ?_
    exact R_I hC hS hr hlk rfl (Or.inl ⟨rfl, q0, ad, Ag.rf, hG⟩) (Nat.le_of_ble_eq_true rfl) (Nat.le_of_ble_eq_true rfl) dL_points_16
theorem k_L_points {p : Program} {l : Launch} {e : Env} {R : Room} {s : State} {m : MethodId} {args : Array Value} {below : List Frame} {meth : Method} {c : Code} {H : Heap} {locs : List Loc} {cells slots : Nat} {Q : State → Prop} {cc : ByteArray} {pc nL : Nat} {ls : Array Slot} {rest : List Value} {own : String} {D : va_G} {cy : Nat → ClassId} {sa : Nat → Nat} {de B : Nat} {ad : Ad} {S : St} {n : Nat → Nat} {T : St} {k : Nat → Nat} {th : Int32} {f : Nat → Int64} {g9 : Nat → UInt64} {x : Int32} (hfl : l.stackTraces = false) (hC : Cx p m c cc nL s args own D cy sa de B) (hS : va_S (AB B) s.heap H locs) (hG : GW D B ad (Vw cy de ad S n T k th (Xl cy f g9)) H) (h0 : Inv S n) {idx : Nat} (wl : Cond.methodLink own idx yL_points ∈ G0) (hR : 8 + 1 ≤ R.frames ∧ 8 + (4 + 11) + 123 ≤ R.locals) (hsz : ls.size = nL) (hst : (rest.map fun v => v.category).sum ≤ 8) (hdg : decode cc pc = .ok (.invokestatic idx, 3)) (hcs : cells + 1 ≤ R.cells ∧ slots + 6 ≤ R.slots) (k0 : cd_money x = 0 → ∀ (ad9 : Ad) (H1 : Heap) (locs1 : List Loc), Ag ad ad9 → GW D B ad9 (Vw cy de ad9 S n T k th (Xl cy (vp_updL f 0 (Int32.toInt64 (ptF S (biF S x (n 0)) (n 0)))) g9)) H1 → va_S (AB B) s.heap H1 locs1 → W p l e R s m args below meth c H1 locs1 (cells + 1) (slots + 6) Q (F0 m (pc + 3) ls (.int 0 :: rest))) (k1 : ∀ t9 : Nat, t9 < 4 → ¬ t9 = 0 → cd_money x = t9 → ∀ (H1 : Heap) (locs1 : List Loc), GW D B ad (Vw cy de ad S n T k th (Xl cy f g9)) H1 → va_S (AB B) s.heap H1 locs1 → W p l e R s m args below meth c H1 locs1 (cells + 1) (slots + 6) Q (F0 m (pc + 3) ls (.int (nI t9) :: rest))) : W p l e R s m args below meth c H locs cells slots Q (F0 m pc ls (.ref (ad 20 0 0) :: .int x :: .ref (ad 0 0 0) :: rest)) :=
  va_calli (rSW hC hS hG h0 (As := [.ref (ad 0 0 0), .int x, .ref (ad 20 0 0)]) (c_L_points l hfl) ⟨rfl, rfl⟩ wl sm_L_points in_L cd_L_points (n := 3) (by decide +kernel) hR rfl hsz hst rfl hdg hcs) hS (fun _ _ h => h) (fun _ h => h) (fun r u t H1 locs1 ht _ hr hB _ _ hS1 => by
    subst hr
    have hB9 := hB; try dsimp only at hB9
    rw [ht] at hB9
    rcases hB9 with ⟨rfl, q0, ad9, hA, hG1⟩ | ⟨t9, q1, q2, q3, rfl, hG1⟩
    · exact k0 q0 ad9 _ _ hA hG1 hS1
    · exact k1 t9 q1 q2 q3 _ _ hG1 hS1)
set_option maxHeartbeats 4000000 in
set_option maxRecDepth 100000 in
theorem c_L_fallenShare (l : Launch) (hfl : l.stackTraces = false) {D : va_G} {cy : Nat → ClassId} {sa : Nat → Nat} {de B : Nat} {ad : Ad} {S : St} {n : Nat → Nat} {T : St} {k : Nat → Nat} {th : Int32} {f : Nat → Int64} {g9 : Nat → UInt64} : Met l yL_fallenShare (Cond.codeWith yL_fallenShare cL_fallenShare 3 (Option.some Jvm.ClassFile.FieldType.int) [((0 : Nat), (8 : Nat), (11 : Nat), (30 : Nat))] :: G0) ({ frames := 7, cells := 1, slots := 6, locals := 105 } : Room) (va_Pc [.ref (ad 0 0 0), .ref (ad 20 1 0)] (PW D cy sa de B ad (Vw cy de ad S n T k th (Xl cy f g9)) (Inv S n))) (oI B (fun r H => (r = 0 ∧ cd_share S n = 0 ∧ ∃ ad9, Ag ad ad9 ∧ GW D B ad9 (Vw cy de ad9 S n T k th (Xl cy f (vf_upd g9 0 (FP.f2d (vl_share S n))))) H) ∨ (∃ t9 : Nat, t9 < 4 ∧ ¬ t9 = 0 ∧ cd_share S n = t9 ∧ r = nI t9 ∧ GW D B ad (Vw cy de ad S n T k th (Xl cy f g9)) H))) 1 6 (AB B) := by
  refine E_metW (own := RL) rfl rfl (Nat.le_of_ble_eq_true rfl) ?_
  intro p e s m below meth c hC hr hlk htab hG h0 ls hl
  have hx := hC.x
  have hb := hC.b
  have hS : va_S (AB B) s.heap s.heap [] := va_S.rf
  have hl : lo ls 3 [some (.ref (ad 0 0 0)), some (.ref (ad 20 1 0)), none] := lo_of hl
  refine o_aload_n hx hb dL_fallenShare_0 hl rfl ?_
  refine lv_iconst (v := 0) hx hb dL_fallenShare_1 (by decide) ?_
  refine o_aload_n hx hb dL_fallenShare_2 hl rfl ?_
  refine vx_callf (xV hC hS hG h0 (As := []) (c_X6_fallenShare l hfl) ⟨rfl, rfl⟩ ml_L_126 im_X6_fallenShare sl_X6_X6_fallenShare in_X6 cd_X6_fallenShare (n := 0) (by decide +kernel) ⟨(Nat.le_of_ble_eq_true rfl), (Nat.le_of_ble_eq_true rfl)⟩ (recv hC hG (q := (RX6, TX6, 6)) rfl V_games) rfl hl.1 (Nat.le_of_ble_eq_true rfl) rfl dL_fallenShare_3 ⟨(Nat.le_of_ble_eq_true rfl), (Nat.le_of_ble_eq_true rfl)⟩) hS (fun _ _ h => h) (fun _ h => h) (fun _ _ h => h) (fun E ce q9 u t H1 locs1 ht hv hp hB hz hq hS1 hce hcv hcl => ?_) (fun r u t H1 locs1 ht _ hr1 hB _ _ hS1 => ?_)
  · (try dsimp only at hB)
    rw [ht] at hB
    obtain ⟨⟨rfl, hcd⟩, hG1⟩ := hB
    · refine caught hC [] ⟨0, 8, 11, 30⟩ [] (htab.trans rfl) (fun z hz => absurd hz List.not_mem_nil) rfl (by decide) cl_L_30 (by decide) hce hcv hcl ?_
      refine o_astore_n hx hb dL_fallenShare_11 hl (by decide) rfl (fun ls hl => ?_)
      refine lv_iconst (v := 1) hx hb dL_fallenShare_12 (by decide) ?_
      exact R_I hC hS1 hr hlk rfl (Or.inr ⟨1, by decide, by decide, hcd, rfl, hG1⟩) (Nat.le_of_ble_eq_true rfl) (Nat.le_of_ble_eq_true rfl) dL_fallenShare_13
  · subst hr1
    (try dsimp only at hB)
    rw [ht] at hB
    obtain ⟨q0, rfl, hG1⟩ := hB
    refine lv_f2d hx hb dL_fallenShare_6 (share_n64 h0 q0) ?_
    refine g_dast hC hG1 hS1 V_outD 0 rfl (by decide) (by decide) (up_Vw (by decide) Xl_outD) dL_fallenShare_7 (fun H locs hG hS => ?_)
    refine lv_goto (tgt := 14) hx hb dL_fallenShare_8 (by decide) ?_
    refine lv_iconst (v := 0) hx hb dL_fallenShare_14 (by decide) ?_
    exact R_I hC hS hr hlk rfl (Or.inl ⟨rfl, q0, ad, Ag.rf, hG⟩) (Nat.le_of_ble_eq_true rfl) (Nat.le_of_ble_eq_true rfl) dL_fallenShare_15
theorem k_L_fallenShare {p : Program} {l : Launch} {e : Env} {R : Room} {s : State} {m : MethodId} {args : Array Value} {below : List Frame} {meth : Method} {c : Code} {H : Heap} {locs : List Loc} {cells slots : Nat} {Q : State → Prop} {cc : ByteArray} {pc nL : Nat} {ls : Array Slot} {rest : List Value} {own : String} {D : va_G} {cy : Nat → ClassId} {sa : Nat → Nat} {de B : Nat} {ad : Ad} {S : St} {n : Nat → Nat} {T : St} {k : Nat → Nat} {th : Int32} {f : Nat → Int64} {g9 : Nat → UInt64} (hfl : l.stackTraces = false) (hC : Cx p m c cc nL s args own D cy sa de B) (hS : va_S (AB B) s.heap H locs) (hG : GW D B ad (Vw cy de ad S n T k th (Xl cy f g9)) H) (h0 : Inv S n) {idx : Nat} (wl : Cond.methodLink own idx yL_fallenShare ∈ G0) (hR : 7 + 1 ≤ R.frames ∧ 8 + (3 + 11) + 105 ≤ R.locals) (hsz : ls.size = nL) (hst : (rest.map fun v => v.category).sum ≤ 8) (hdg : decode cc pc = .ok (.invokestatic idx, 3)) (hcs : cells + 1 ≤ R.cells ∧ slots + 6 ≤ R.slots) (k0 : cd_share S n = 0 → ∀ (ad9 : Ad) (H1 : Heap) (locs1 : List Loc), Ag ad ad9 → GW D B ad9 (Vw cy de ad9 S n T k th (Xl cy f (vf_upd g9 0 (FP.f2d (vl_share S n))))) H1 → va_S (AB B) s.heap H1 locs1 → W p l e R s m args below meth c H1 locs1 (cells + 1) (slots + 6) Q (F0 m (pc + 3) ls (.int 0 :: rest))) (k1 : ∀ t9 : Nat, t9 < 4 → ¬ t9 = 0 → cd_share S n = t9 → ∀ (H1 : Heap) (locs1 : List Loc), GW D B ad (Vw cy de ad S n T k th (Xl cy f g9)) H1 → va_S (AB B) s.heap H1 locs1 → W p l e R s m args below meth c H1 locs1 (cells + 1) (slots + 6) Q (F0 m (pc + 3) ls (.int (nI t9) :: rest))) : W p l e R s m args below meth c H locs cells slots Q (F0 m pc ls (.ref (ad 20 1 0) :: .ref (ad 0 0 0) :: rest)) :=
  va_calli (rSW hC hS hG h0 (As := [.ref (ad 0 0 0), .ref (ad 20 1 0)]) (c_L_fallenShare l hfl) ⟨rfl, rfl⟩ wl sm_L_fallenShare in_L cd_L_fallenShare (n := 2) (by decide +kernel) hR rfl hsz hst rfl hdg hcs) hS (fun _ _ h => h) (fun _ h => h) (fun r u t H1 locs1 ht _ hr hB _ _ hS1 => by
    subst hr
    have hB9 := hB; try dsimp only at hB9
    rw [ht] at hB9
    rcases hB9 with ⟨rfl, q0, ad9, hA, hG1⟩ | ⟨t9, q1, q2, q3, rfl, hG1⟩
    · exact k0 q0 ad9 _ _ hA hG1 hS1
    · exact k1 t9 q1 q2 q3 _ _ hG1 hS1)
set_option maxHeartbeats 4000000 in
set_option maxRecDepth 100000 in
theorem c_L_meanLack (l : Launch) (hfl : l.stackTraces = false) {D : va_G} {cy : Nat → ClassId} {sa : Nat → Nat} {de B : Nat} {ad : Ad} {S : St} {n : Nat → Nat} {T : St} {k : Nat → Nat} {th : Int32} {f : Nat → Int64} {g9 : Nat → UInt64} {x : Int32} : Met l yL_meanLack (Cond.codeWith yL_meanLack cL_meanLack 4 (Option.some Jvm.ClassFile.FieldType.int) [((0 : Nat), (8 : Nat), (11 : Nat), (13 : Nat))] :: G0) ({ frames := 8, cells := 1, slots := 6, locals := 124 } : Room) (va_Pc [.ref (ad 0 0 0), .int x, .ref (ad 20 1 0)] (PW D cy sa de B ad (Vw cy de ad S n T k th (Xl cy f g9)) (Inv S n))) (oI B (fun r H => (r = 0 ∧ cd_ath n x = 0 ∧ ∃ ad9, Ag ad ad9 ∧ GW D B ad9 (Vw cy de ad9 S n T k th (Xl cy f (vf_upd g9 0 (vl_mean S (ci x))))) H) ∨ (∃ t9 : Nat, t9 < 4 ∧ ¬ t9 = 0 ∧ cd_ath n x = t9 ∧ r = nI t9 ∧ GW D B ad (Vw cy de ad S n T k th (Xl cy f g9)) H))) 1 6 (AB B) := by
  refine E_metW (own := RL) rfl rfl (Nat.le_of_ble_eq_true rfl) ?_
  intro p e s m below meth c hC hr hlk htab hG h0 ls hl
  have hx := hC.x
  have hb := hC.b
  have hS : va_S (AB B) s.heap s.heap [] := va_S.rf
  have hl : lo ls 4 [some (.ref (ad 0 0 0)), some (.int x), some (.ref (ad 20 1 0)), none] := lo_of hl
  refine o_aload_n hx hb dL_meanLack_0 hl rfl ?_
  refine lv_iconst (v := 0) hx hb dL_meanLack_1 (by decide) ?_
  refine o_aload_n hx hb dL_meanLack_2 hl rfl ?_
  refine o_iload_n hx hb dL_meanLack_3 hl rfl ?_
  refine vx_calld (xV hC hS hG h0 (As := [.int x]) (c_X6_meanLack l hfl) ⟨rfl, rfl⟩ ml_L_130 im_X6_meanLack sl_X6_X6_meanLack in_X6 cd_X6_meanLack (n := 1) (by decide +kernel) ⟨(Nat.le_of_ble_eq_true rfl), (Nat.le_of_ble_eq_true rfl)⟩ (recv hC hG (q := (RX6, TX6, 6)) rfl V_games) rfl hl.1 (Nat.le_of_ble_eq_true rfl) rfl dL_meanLack_4 ⟨(Nat.le_of_ble_eq_true rfl), (Nat.le_of_ble_eq_true rfl)⟩) hS (fun _ _ h => h) (fun _ h => h) (fun _ _ h => h) (fun E ce q9 u t H1 locs1 ht hv hp hB hz hq hS1 hce hcv hcl => ?_) (fun r u t H1 locs1 ht _ hr1 hB _ _ hS1 => ?_)
  · (try dsimp only at hB)
    rw [ht] at hB
    obtain ⟨⟨rfl, hcd⟩, hG1⟩ := hB
    · refine caught hC [] ⟨0, 8, 11, 13⟩ [] (htab.trans rfl) (fun z hz => absurd hz List.not_mem_nil) rfl (by decide) cl_L_13 (by decide) hce hcv hcl ?_
      refine o_astore_n hx hb dL_meanLack_11 hl (by decide) rfl (fun ls hl => ?_)
      refine lv_iconst (v := 1) hx hb dL_meanLack_12 (by decide) ?_
      exact R_I hC hS1 hr hlk rfl (Or.inr ⟨1, by decide, by decide, hcd, rfl, hG1⟩) (Nat.le_of_ble_eq_true rfl) (Nat.le_of_ble_eq_true rfl) dL_meanLack_13
  · subst hr1
    (try dsimp only at hB)
    rw [ht] at hB
    obtain ⟨q0, rfl, hG1⟩ := hB
    refine g_dast hC hG1 hS1 V_outD 0 rfl (by decide) (by decide) (up_Vw (by decide) Xl_outD) dL_meanLack_7 (fun H locs hG hS => ?_)
    refine lv_goto (tgt := 14) hx hb dL_meanLack_8 (by decide) ?_
    refine lv_iconst (v := 0) hx hb dL_meanLack_14 (by decide) ?_
    exact R_I hC hS hr hlk rfl (Or.inl ⟨rfl, q0, ad, Ag.rf, hG⟩) (Nat.le_of_ble_eq_true rfl) (Nat.le_of_ble_eq_true rfl) dL_meanLack_15
theorem k_L_meanLack {p : Program} {l : Launch} {e : Env} {R : Room} {s : State} {m : MethodId} {args : Array Value} {below : List Frame} {meth : Method} {c : Code} {H : Heap} {locs : List Loc} {cells slots : Nat} {Q : State → Prop} {cc : ByteArray} {pc nL : Nat} {ls : Array Slot} {rest : List Value} {own : String} {D : va_G} {cy : Nat → ClassId} {sa : Nat → Nat} {de B : Nat} {ad : Ad} {S : St} {n : Nat → Nat} {T : St} {k : Nat → Nat} {th : Int32} {f : Nat → Int64} {g9 : Nat → UInt64} {x : Int32} (hfl : l.stackTraces = false) (hC : Cx p m c cc nL s args own D cy sa de B) (hS : va_S (AB B) s.heap H locs) (hG : GW D B ad (Vw cy de ad S n T k th (Xl cy f g9)) H) (h0 : Inv S n) {idx : Nat} (wl : Cond.methodLink own idx yL_meanLack ∈ G0) (hR : 8 + 1 ≤ R.frames ∧ 8 + (4 + 11) + 124 ≤ R.locals) (hsz : ls.size = nL) (hst : (rest.map fun v => v.category).sum ≤ 8) (hdg : decode cc pc = .ok (.invokestatic idx, 3)) (hcs : cells + 1 ≤ R.cells ∧ slots + 6 ≤ R.slots) (k0 : cd_ath n x = 0 → ∀ (ad9 : Ad) (H1 : Heap) (locs1 : List Loc), Ag ad ad9 → GW D B ad9 (Vw cy de ad9 S n T k th (Xl cy f (vf_upd g9 0 (vl_mean S (ci x))))) H1 → va_S (AB B) s.heap H1 locs1 → W p l e R s m args below meth c H1 locs1 (cells + 1) (slots + 6) Q (F0 m (pc + 3) ls (.int 0 :: rest))) (k1 : ∀ t9 : Nat, t9 < 4 → ¬ t9 = 0 → cd_ath n x = t9 → ∀ (H1 : Heap) (locs1 : List Loc), GW D B ad (Vw cy de ad S n T k th (Xl cy f g9)) H1 → va_S (AB B) s.heap H1 locs1 → W p l e R s m args below meth c H1 locs1 (cells + 1) (slots + 6) Q (F0 m (pc + 3) ls (.int (nI t9) :: rest))) : W p l e R s m args below meth c H locs cells slots Q (F0 m pc ls (.ref (ad 20 1 0) :: .int x :: .ref (ad 0 0 0) :: rest)) :=
  va_calli (rSW hC hS hG h0 (As := [.ref (ad 0 0 0), .int x, .ref (ad 20 1 0)]) (c_L_meanLack l hfl) ⟨rfl, rfl⟩ wl sm_L_meanLack in_L cd_L_meanLack (n := 3) (by decide +kernel) hR rfl hsz hst rfl hdg hcs) hS (fun _ _ h => h) (fun _ h => h) (fun r u t H1 locs1 ht _ hr hB _ _ hS1 => by
    subst hr
    have hB9 := hB; try dsimp only at hB9
    rw [ht] at hB9
    rcases hB9 with ⟨rfl, q0, ad9, hA, hG1⟩ | ⟨t9, q1, q2, q3, rfl, hG1⟩
    · exact k0 q0 ad9 _ _ hA hG1 hS1
    · exact k1 t9 q1 q2 q3 _ _ hG1 hS1)
