/-! THE LAW'S WRAPPERS. Each: the answer, or the number that the law gives to its exception. -/
def wer (t : Nat) : Int32 := if t = 1 then -900001 else if t = 2 then -900002 else -900003
theorem pr_1 {S : St} {n : Nat → Nat} {i : Nat} (h : ¬ vl_protest S n i = 0) : 1 = vl_protest S n i := by
  unfold vl_protest at h ⊢
  by_cases z : exS S n i 10 i 0 = S 10 i 0
  · rw [cif_t z] at h; exact absurd rfl h
  · rw [cif_f z]
set_option maxHeartbeats 4000000 in
set_option maxRecDepth 100000 in
theorem c_L_athlete (l : Launch) (hfl : l.stackTraces = false) {D : va_G} {cy : Nat → ClassId} {sa : Nat → Nat} {de B : Nat} {ad : Ad} {S : St} {n : Nat → Nat} {T : St} {k : Nat → Nat} {th : Int32} {X : Rl} {x : Int32} : Met l yL_athlete (Cond.codeWith yL_athlete cL_athlete 3 (Option.some Jvm.ClassFile.FieldType.int) [((0 : Nat), (5 : Nat), (6 : Nat), (15 : Nat)), ((0 : Nat), (5 : Nat), (10 : Nat), (18 : Nat))] :: G0) ({ frames := 9, cells := 9, slots := 56, locals := 212 } : Room) (va_Pc [.ref (ad 0 0 0), .int x] (PW D cy sa de B ad (Vw cy de ad S n T k th X) (Inv S n ∧ X 19 0 0 = none))) (oI B (fun r H => (cd_athlete n x = 0 ∧ ∃ ad9, Ag ad ad9 ∧ r = (nI (n 0)) ∧ GW D B ad9 (Vw cy de ad9 (atS S (n 0) x) (nUp n 0) T k th X) H) ∨ (∃ t9 : Nat, ¬ t9 = 0 ∧ cd_athlete n x = t9 ∧ r = wer t9 ∧ GW D B ad (Vw cy de ad S n T k th X) H))) 9 56 (AB B) := by
  refine E_metW (own := RL) rfl rfl (Nat.le_of_ble_eq_true rfl) ?_
  intro p e s m below meth c hC hr hlk htab hG h0 ls hl
  have hx := hC.x
  have hb := hC.b
  have hS : va_S (AB B) s.heap s.heap [] := va_S.rf
  have hl : lo ls 3 [some (.ref (ad 0 0 0)), some (.int x), none] := lo_of hl
  refine o_aload_n hx hb dL_athlete_0 hl rfl ?_
  refine o_iload_n hx hb dL_athlete_1 hl rfl ?_
  refine vx_calli (xV hC hS hG h0 (As := [.int x]) (c_X6_athlete l hfl) ⟨rfl, rfl⟩ ml_L_9 im_X6_athlete sl_X6_X6_athlete in_X6 cd_X6_athlete (n := 1) (by decide +kernel) ⟨(Nat.le_of_ble_eq_true rfl), (Nat.le_of_ble_eq_true rfl)⟩ (recv hC hG (q := (RX6, TX6, 6)) rfl V_games) rfl hl.1 (Nat.le_of_ble_eq_true rfl) rfl dL_athlete_2 ⟨(Nat.le_of_ble_eq_true rfl), (Nat.le_of_ble_eq_true rfl)⟩) hS (fun _ _ h => h) (fun _ h => h) (fun _ _ h => h) (fun E ce q9 u t H1 locs1 ht hv hp hB hz hq hS1 hce hcv hcl => ?_) (fun r u t H1 locs1 ht _ hr1 hB _ _ hS1 => ?_)
  · (try dsimp only at hB)
    rw [ht] at hB
    obtain ⟨hE, hG1⟩ := hB
    rcases hE with ⟨rfl, hcd⟩ | ⟨rfl, hcd⟩
    · refine caught hC [] ⟨0, 5, 6, 15⟩ [⟨0, 5, 10, 18⟩] (htab.trans rfl) (fun z hz => absurd hz List.not_mem_nil) rfl (by decide) cl_L_15 (by decide) hce hcv hcl ?_
      refine o_astore_n hx hb dL_athlete_6 hl (by decide) rfl (fun ls hl => ?_)
      refine lv_ldc hx hb hC.o (hC.t _ ct_L_17) dL_athlete_7 ?_
      exact R_I hC hS1 hr hlk rfl (Or.inr ⟨1, by decide, hcd, rfl, hG1⟩) (Nat.le_of_ble_eq_true rfl) (Nat.le_of_ble_eq_true rfl) dL_athlete_9
    · refine caught hC [⟨0, 5, 6, 15⟩] ⟨0, 5, 10, 18⟩ [] (htab.trans rfl) (fun z hz => by
            cases List.mem_singleton.mp hz
            exact Or.inr ⟨by decide, _, hC.t _ cl_L_15, hC.k.2.2.2.2.1 (_, _) (by decide)⟩) rfl (by decide) cl_L_18 (by decide) hce hcv hcl ?_
      refine o_astore_n hx hb dL_athlete_10 hl (by decide) rfl (fun ls hl => ?_)
      refine lv_ldc hx hb hC.o (hC.t _ ct_L_20) dL_athlete_11 ?_
      exact R_I hC hS1 hr hlk rfl (Or.inr ⟨2, by decide, hcd, rfl, hG1⟩) (Nat.le_of_ble_eq_true rfl) (Nat.le_of_ble_eq_true rfl) dL_athlete_13
  · subst hr1
    (try dsimp only at hB)
    rw [ht] at hB
    obtain ⟨q0, rfl, ad9, hA, hG1⟩ := hB
    exact R_I hC hS1 hr hlk rfl (Or.inl ⟨q0, ad9, hA, rfl, hG1⟩) (Nat.le_of_ble_eq_true rfl) (Nat.le_of_ble_eq_true rfl) dL_athlete_5
theorem kv_L_athlete {p : Program} {l : Launch} {e : Env} {R : Room} {s : State} {m : MethodId} {args : Array Value} {below : List Frame} {meth : Method} {c : Code} {H : Heap} {locs : List Loc} {cells slots : Nat} {Q : State → Prop} {cc : ByteArray} {pc nL : Nat} {ls : Array Slot} {rest : List Value} {own : String} {D : va_G} {cy : Nat → ClassId} {sa : Nat → Nat} {de B : Nat} {ad : Ad} {S : St} {n : Nat → Nat} {T : St} {k : Nat → Nat} {th : Int32} {X : Rl} {x : Int32} (hfl : l.stackTraces = false) (hC : Cx p m c cc nL s args own D cy sa de B) (hS : va_S (AB B) s.heap H locs) (hG : GW D B ad (Vw cy de ad S n T k th X) H) (h0 : Inv S n ∧ X 19 0 0 = none) {idx : Nat} (wl : Cond.methodLink own idx yL_athlete ∈ G0) (hR : 9 + 1 ≤ R.frames ∧ 8 + (3 + 11) + 212 ≤ R.locals) (hsz : ls.size = nL) (hst : (rest.map fun v => v.category).sum ≤ 8) (hdg : decode cc pc = .ok (.invokestatic idx, 3)) (hcs : cells + 9 ≤ R.cells ∧ slots + 56 ≤ R.slots) (hcd : cd_athlete n x = 0) (k0 : ∀ (ad9 : Ad) (H1 : Heap) (locs1 : List Loc), Ag ad ad9 → GW D B ad9 (Vw cy de ad9 (atS S (n 0) x) (nUp n 0) T k th X) H1 → va_S (AB B) s.heap H1 locs1 → W p l e R s m args below meth c H1 locs1 (cells + 9) (slots + 56) Q (F0 m (pc + 3) ls (.int (nI (n 0)) :: rest))) : W p l e R s m args below meth c H locs cells slots Q (F0 m pc ls (.int x :: .ref (ad 0 0 0) :: rest)) :=
  va_calli (rSW hC hS hG h0 (As := [.ref (ad 0 0 0), .int x]) (c_L_athlete l hfl) ⟨rfl, rfl⟩ wl sm_L_athlete in_L cd_L_athlete (n := 2) (by decide +kernel) hR rfl hsz hst rfl hdg hcs) hS (fun _ _ h => h) (fun _ h => h) (fun r u t H1 locs1 ht _ hr hB _ _ hS1 => by
    subst hr
    have hB9 := hB; try dsimp only at hB9
    rw [ht] at hB9
    rcases hB9 with ⟨q0, ad9, hA, rfl, hG1⟩ | ⟨t9, q1, q2, rfl, hG1⟩
    · exact k0 ad9 _ _ hA hG1 hS1
    · exact absurd (q2.symm.trans hcd) q1)
theorem kx_L_athlete {p : Program} {l : Launch} {e : Env} {R : Room} {s : State} {m : MethodId} {args : Array Value} {below : List Frame} {meth : Method} {c : Code} {H : Heap} {locs : List Loc} {cells slots : Nat} {Q : State → Prop} {cc : ByteArray} {pc nL : Nat} {ls : Array Slot} {rest : List Value} {own : String} {D : va_G} {cy : Nat → ClassId} {sa : Nat → Nat} {de B : Nat} {ad : Ad} {S : St} {n : Nat → Nat} {T : St} {k : Nat → Nat} {th : Int32} {X : Rl} {x : Int32} {t0 : Nat} (hfl : l.stackTraces = false) (hC : Cx p m c cc nL s args own D cy sa de B) (hS : va_S (AB B) s.heap H locs) (hG : GW D B ad (Vw cy de ad S n T k th X) H) (h0 : Inv S n ∧ X 19 0 0 = none) {idx : Nat} (wl : Cond.methodLink own idx yL_athlete ∈ G0) (hR : 9 + 1 ≤ R.frames ∧ 8 + (3 + 11) + 212 ≤ R.locals) (hsz : ls.size = nL) (hst : (rest.map fun v => v.category).sum ≤ 8) (hdg : decode cc pc = .ok (.invokestatic idx, 3)) (hcs : cells + 9 ≤ R.cells ∧ slots + 56 ≤ R.slots) (ht0 : ¬ t0 = 0) (hcd : cd_athlete n x = t0) (k1 : ∀ (H1 : Heap) (locs1 : List Loc), GW D B ad (Vw cy de ad S n T k th X) H1 → va_S (AB B) s.heap H1 locs1 → W p l e R s m args below meth c H1 locs1 (cells + 9) (slots + 56) Q (F0 m (pc + 3) ls (.int (wer t0) :: rest))) : W p l e R s m args below meth c H locs cells slots Q (F0 m pc ls (.int x :: .ref (ad 0 0 0) :: rest)) :=
  va_calli (rSW hC hS hG h0 (As := [.ref (ad 0 0 0), .int x]) (c_L_athlete l hfl) ⟨rfl, rfl⟩ wl sm_L_athlete in_L cd_L_athlete (n := 2) (by decide +kernel) hR rfl hsz hst rfl hdg hcs) hS (fun _ _ h => h) (fun _ h => h) (fun r u t H1 locs1 ht _ hr hB _ _ hS1 => by
    subst hr
    have hB9 := hB; try dsimp only at hB9
    rw [ht] at hB9
    rcases hB9 with ⟨q0, ad9, hA, rfl, hG1⟩ | ⟨t9, q1, q2, rfl, hG1⟩
    · exact absurd (hcd.symm.trans q0) ht0
    · obtain rfl : t9 = t0 := q2.symm.trans hcd
      exact k1 _ _ hG1 hS1)
set_option maxHeartbeats 4000000 in
set_option maxRecDepth 100000 in
theorem c_L_body (l : Launch) (hfl : l.stackTraces = false) {D : va_G} {cy : Nat → ClassId} {sa : Nat → Nat} {de B : Nat} {ad : Ad} {S : St} {n : Nat → Nat} {T : St} {k : Nat → Nat} {th : Int32} {X : Rl} {x y z : Int32} : Met l yL_body (Cond.codeWith yL_body cL_body 5 (Option.some Jvm.ClassFile.FieldType.int) [((0 : Nat), (7 : Nat), (8 : Nat), (15 : Nat)), ((0 : Nat), (7 : Nat), (13 : Nat), (25 : Nat))] :: G0) ({ frames := 8, cells := 3, slots := 18, locals := 128 } : Room) (va_Pc [.ref (ad 0 0 0), .int x, .int y, .int z] (PW D cy sa de B ad (Vw cy de ad S n T k th X) (Inv S n ∧ X 19 0 0 = none))) (oI B (fun r H => (cd_body n x y z = 0 ∧ r = (S 6 (ci x) (ci y)) ∧ GW D B ad (Vw cy de ad (up_body S x y z) n T k th X) H) ∨ (∃ t9 : Nat, ¬ t9 = 0 ∧ cd_body n x y z = t9 ∧ r = wer t9 ∧ GW D B ad (Vw cy de ad S n T k th X) H))) 3 18 (AB B) := by
  refine E_metW (own := RL) rfl rfl (Nat.le_of_ble_eq_true rfl) ?_
  intro p e s m below meth c hC hr hlk htab hG h0 ls hl
  have hx := hC.x
  have hb := hC.b
  have hS : va_S (AB B) s.heap s.heap [] := va_S.rf
  have hl : lo ls 5 [some (.ref (ad 0 0 0)), some (.int x), some (.int y), some (.int z), none] := lo_of hl
  refine o_aload_n hx hb dL_body_0 hl rfl ?_
  refine o_iload_n hx hb dL_body_1 hl rfl ?_
  refine o_iload_n hx hb dL_body_2 hl rfl ?_
  refine o_iload_n hx hb dL_body_3 hl rfl ?_
  refine vx_calli (xV hC hS hG h0.1.1 (As := [.int x, .int y, .int z]) (c_X6_body l hfl) ⟨rfl, rfl⟩ ml_L_21 im_X6_body sl_X6_X6_body in_X6 cd_X6_body (n := 3) (by decide +kernel) ⟨(Nat.le_of_ble_eq_true rfl), (Nat.le_of_ble_eq_true rfl)⟩ (recv hC hG (q := (RX6, TX6, 6)) rfl V_games) rfl hl.1 (Nat.le_of_ble_eq_true rfl) rfl dL_body_4 ⟨(Nat.le_of_ble_eq_true rfl), (Nat.le_of_ble_eq_true rfl)⟩) hS (fun _ _ h => h) (fun _ h => h) (fun _ _ h => h) (fun E ce q9 u t H1 locs1 ht hv hp hB hz hq hS1 hce hcv hcl => ?_) (fun r u t H1 locs1 ht _ hr1 hB _ _ hS1 => ?_)
  · (try dsimp only at hB)
    rw [ht] at hB
    obtain ⟨hE, hG1⟩ := hB
    rcases hE with ⟨rfl, hcd⟩ | ⟨rfl, hcd⟩
    · refine caught hC [] ⟨0, 7, 8, 15⟩ [⟨0, 7, 13, 25⟩] (htab.trans rfl) (fun z hz => absurd hz List.not_mem_nil) rfl (by decide) cl_L_15 (by decide) hce hcv hcl ?_
      refine o_astore hx hb dL_body_8 hl (by decide) rfl (fun ls hl => ?_)
      refine lv_ldc hx hb hC.o (hC.t _ ct_L_17) dL_body_10 ?_
      exact R_I hC hS1 hr hlk rfl (Or.inr ⟨1, by decide, hcd, rfl, hG1⟩) (Nat.le_of_ble_eq_true rfl) (Nat.le_of_ble_eq_true rfl) dL_body_12
    · refine caught hC [⟨0, 7, 8, 15⟩] ⟨0, 7, 13, 25⟩ [] (htab.trans rfl) (fun z hz => by
            cases List.mem_singleton.mp hz
            exact Or.inr ⟨by decide, _, hC.t _ cl_L_15, hC.k.2.2.2.2.1 (_, _) (by decide)⟩) rfl (by decide) cl_L_25 (by decide) hce hcv hcl ?_
      refine o_astore hx hb dL_body_13 hl (by decide) rfl (fun ls hl => ?_)
      refine lv_ldc hx hb hC.o (hC.t _ ct_L_20) dL_body_15 ?_
      exact R_I hC hS1 hr hlk rfl (Or.inr ⟨2, by decide, hcd, rfl, hG1⟩) (Nat.le_of_ble_eq_true rfl) (Nat.le_of_ble_eq_true rfl) dL_body_17
  · subst hr1
    (try dsimp only at hB)
    rw [ht] at hB
    obtain ⟨q0, rfl, hG1⟩ := hB
    exact R_I hC hS1 hr hlk rfl (Or.inl ⟨q0, rfl, hG1⟩) (Nat.le_of_ble_eq_true rfl) (Nat.le_of_ble_eq_true rfl) dL_body_7
theorem kv_L_body {p : Program} {l : Launch} {e : Env} {R : Room} {s : State} {m : MethodId} {args : Array Value} {below : List Frame} {meth : Method} {c : Code} {H : Heap} {locs : List Loc} {cells slots : Nat} {Q : State → Prop} {cc : ByteArray} {pc nL : Nat} {ls : Array Slot} {rest : List Value} {own : String} {D : va_G} {cy : Nat → ClassId} {sa : Nat → Nat} {de B : Nat} {ad : Ad} {S : St} {n : Nat → Nat} {T : St} {k : Nat → Nat} {th : Int32} {X : Rl} {x y z : Int32} (hfl : l.stackTraces = false) (hC : Cx p m c cc nL s args own D cy sa de B) (hS : va_S (AB B) s.heap H locs) (hG : GW D B ad (Vw cy de ad S n T k th X) H) (h0 : Inv S n ∧ X 19 0 0 = none) {idx : Nat} (wl : Cond.methodLink own idx yL_body ∈ G0) (hR : 8 + 1 ≤ R.frames ∧ 8 + (5 + 11) + 128 ≤ R.locals) (hsz : ls.size = nL) (hst : (rest.map fun v => v.category).sum ≤ 8) (hdg : decode cc pc = .ok (.invokestatic idx, 3)) (hcs : cells + 3 ≤ R.cells ∧ slots + 18 ≤ R.slots) (hcd : cd_body n x y z = 0) (k0 : ∀ (H1 : Heap) (locs1 : List Loc), GW D B ad (Vw cy de ad (up_body S x y z) n T k th X) H1 → va_S (AB B) s.heap H1 locs1 → W p l e R s m args below meth c H1 locs1 (cells + 3) (slots + 18) Q (F0 m (pc + 3) ls (.int (S 6 (ci x) (ci y)) :: rest))) : W p l e R s m args below meth c H locs cells slots Q (F0 m pc ls (.int z :: .int y :: .int x :: .ref (ad 0 0 0) :: rest)) :=
  va_calli (rSW hC hS hG h0 (As := [.ref (ad 0 0 0), .int x, .int y, .int z]) (c_L_body l hfl) ⟨rfl, rfl⟩ wl sm_L_body in_L cd_L_body (n := 4) (by decide +kernel) hR rfl hsz hst rfl hdg hcs) hS (fun _ _ h => h) (fun _ h => h) (fun r u t H1 locs1 ht _ hr hB _ _ hS1 => by
    subst hr
    have hB9 := hB; try dsimp only at hB9
    rw [ht] at hB9
    rcases hB9 with ⟨q0, rfl, hG1⟩ | ⟨t9, q1, q2, rfl, hG1⟩
    · exact k0 _ _ hG1 hS1
    · exact absurd (q2.symm.trans hcd) q1)
theorem kx_L_body {p : Program} {l : Launch} {e : Env} {R : Room} {s : State} {m : MethodId} {args : Array Value} {below : List Frame} {meth : Method} {c : Code} {H : Heap} {locs : List Loc} {cells slots : Nat} {Q : State → Prop} {cc : ByteArray} {pc nL : Nat} {ls : Array Slot} {rest : List Value} {own : String} {D : va_G} {cy : Nat → ClassId} {sa : Nat → Nat} {de B : Nat} {ad : Ad} {S : St} {n : Nat → Nat} {T : St} {k : Nat → Nat} {th : Int32} {X : Rl} {x y z : Int32} {t0 : Nat} (hfl : l.stackTraces = false) (hC : Cx p m c cc nL s args own D cy sa de B) (hS : va_S (AB B) s.heap H locs) (hG : GW D B ad (Vw cy de ad S n T k th X) H) (h0 : Inv S n ∧ X 19 0 0 = none) {idx : Nat} (wl : Cond.methodLink own idx yL_body ∈ G0) (hR : 8 + 1 ≤ R.frames ∧ 8 + (5 + 11) + 128 ≤ R.locals) (hsz : ls.size = nL) (hst : (rest.map fun v => v.category).sum ≤ 8) (hdg : decode cc pc = .ok (.invokestatic idx, 3)) (hcs : cells + 3 ≤ R.cells ∧ slots + 18 ≤ R.slots) (ht0 : ¬ t0 = 0) (hcd : cd_body n x y z = t0) (k1 : ∀ (H1 : Heap) (locs1 : List Loc), GW D B ad (Vw cy de ad S n T k th X) H1 → va_S (AB B) s.heap H1 locs1 → W p l e R s m args below meth c H1 locs1 (cells + 3) (slots + 18) Q (F0 m (pc + 3) ls (.int (wer t0) :: rest))) : W p l e R s m args below meth c H locs cells slots Q (F0 m pc ls (.int z :: .int y :: .int x :: .ref (ad 0 0 0) :: rest)) :=
  va_calli (rSW hC hS hG h0 (As := [.ref (ad 0 0 0), .int x, .int y, .int z]) (c_L_body l hfl) ⟨rfl, rfl⟩ wl sm_L_body in_L cd_L_body (n := 4) (by decide +kernel) hR rfl hsz hst rfl hdg hcs) hS (fun _ _ h => h) (fun _ h => h) (fun r u t H1 locs1 ht _ hr hB _ _ hS1 => by
    subst hr
    have hB9 := hB; try dsimp only at hB9
    rw [ht] at hB9
    rcases hB9 with ⟨q0, rfl, hG1⟩ | ⟨t9, q1, q2, rfl, hG1⟩
    · exact absurd (hcd.symm.trans q0) ht0
    · obtain rfl : t9 = t0 := q2.symm.trans hcd
      exact k1 _ _ hG1 hS1)
set_option maxHeartbeats 4000000 in
set_option maxRecDepth 100000 in
theorem c_L_show (l : Launch) (hfl : l.stackTraces = false) {D : va_G} {cy : Nat → ClassId} {sa : Nat → Nat} {de B : Nat} {ad : Ad} {S : St} {n : Nat → Nat} {T : St} {k : Nat → Nat} {th : Int32} {X : Rl} {x y z : Int32} : Met l yL_show (Cond.codeWith yL_show cL_show 5 (Option.some Jvm.ClassFile.FieldType.int) [((0 : Nat), (7 : Nat), (8 : Nat), (15 : Nat)), ((0 : Nat), (7 : Nat), (13 : Nat), (25 : Nat))] :: G0) ({ frames := 8, cells := 3, slots := 18, locals := 128 } : Room) (va_Pc [.ref (ad 0 0 0), .int x, .int y, .int z] (PW D cy sa de B ad (Vw cy de ad S n T k th X) (Inv S n ∧ X 19 0 0 = none))) (oI B (fun r H => (cd_show n x y z = 0 ∧ r = (shv S (ci x) (ci y)) ∧ GW D B ad (Vw cy de ad (up_show S x y z) n T k th X) H) ∨ (∃ t9 : Nat, ¬ t9 = 0 ∧ cd_show n x y z = t9 ∧ r = wer t9 ∧ GW D B ad (Vw cy de ad S n T k th X) H))) 3 18 (AB B) := by
  refine E_metW (own := RL) rfl rfl (Nat.le_of_ble_eq_true rfl) ?_
  intro p e s m below meth c hC hr hlk htab hG h0 ls hl
  have hx := hC.x
  have hb := hC.b
  have hS : va_S (AB B) s.heap s.heap [] := va_S.rf
  have hl : lo ls 5 [some (.ref (ad 0 0 0)), some (.int x), some (.int y), some (.int z), none] := lo_of hl
  refine o_aload_n hx hb dL_show_0 hl rfl ?_
  refine o_iload_n hx hb dL_show_1 hl rfl ?_
  refine o_iload_n hx hb dL_show_2 hl rfl ?_
  refine o_iload_n hx hb dL_show_3 hl rfl ?_
  refine vx_calli (xV hC hS hG h0.1.1 (As := [.int x, .int y, .int z]) (c_X6_show l hfl) ⟨rfl, rfl⟩ ml_L_27 im_X6_show sl_X6_X6_show in_X6 cd_X6_show (n := 3) (by decide +kernel) ⟨(Nat.le_of_ble_eq_true rfl), (Nat.le_of_ble_eq_true rfl)⟩ (recv hC hG (q := (RX6, TX6, 6)) rfl V_games) rfl hl.1 (Nat.le_of_ble_eq_true rfl) rfl dL_show_4 ⟨(Nat.le_of_ble_eq_true rfl), (Nat.le_of_ble_eq_true rfl)⟩) hS (fun _ _ h => h) (fun _ h => h) (fun _ _ h => h) (fun E ce q9 u t H1 locs1 ht hv hp hB hz hq hS1 hce hcv hcl => ?_) (fun r u t H1 locs1 ht _ hr1 hB _ _ hS1 => ?_)
  · (try dsimp only at hB)
    rw [ht] at hB
    obtain ⟨hE, hG1⟩ := hB
    rcases hE with ⟨rfl, hcd⟩ | ⟨rfl, hcd⟩
    · refine caught hC [] ⟨0, 7, 8, 15⟩ [⟨0, 7, 13, 25⟩] (htab.trans rfl) (fun z hz => absurd hz List.not_mem_nil) rfl (by decide) cl_L_15 (by decide) hce hcv hcl ?_
      refine o_astore hx hb dL_show_8 hl (by decide) rfl (fun ls hl => ?_)
      refine lv_ldc hx hb hC.o (hC.t _ ct_L_17) dL_show_10 ?_
      exact R_I hC hS1 hr hlk rfl (Or.inr ⟨1, by decide, hcd, rfl, hG1⟩) (Nat.le_of_ble_eq_true rfl) (Nat.le_of_ble_eq_true rfl) dL_show_12
    · refine caught hC [⟨0, 7, 8, 15⟩] ⟨0, 7, 13, 25⟩ [] (htab.trans rfl) (fun z hz => by
            cases List.mem_singleton.mp hz
            exact Or.inr ⟨by decide, _, hC.t _ cl_L_15, hC.k.2.2.2.2.1 (_, _) (by decide)⟩) rfl (by decide) cl_L_25 (by decide) hce hcv hcl ?_
      refine o_astore hx hb dL_show_13 hl (by decide) rfl (fun ls hl => ?_)
      refine lv_ldc hx hb hC.o (hC.t _ ct_L_20) dL_show_15 ?_
      exact R_I hC hS1 hr hlk rfl (Or.inr ⟨2, by decide, hcd, rfl, hG1⟩) (Nat.le_of_ble_eq_true rfl) (Nat.le_of_ble_eq_true rfl) dL_show_17
  · subst hr1
    (try dsimp only at hB)
    rw [ht] at hB
    obtain ⟨q0, rfl, hG1⟩ := hB
    exact R_I hC hS1 hr hlk rfl (Or.inl ⟨q0, rfl, hG1⟩) (Nat.le_of_ble_eq_true rfl) (Nat.le_of_ble_eq_true rfl) dL_show_7
theorem kv_L_show {p : Program} {l : Launch} {e : Env} {R : Room} {s : State} {m : MethodId} {args : Array Value} {below : List Frame} {meth : Method} {c : Code} {H : Heap} {locs : List Loc} {cells slots : Nat} {Q : State → Prop} {cc : ByteArray} {pc nL : Nat} {ls : Array Slot} {rest : List Value} {own : String} {D : va_G} {cy : Nat → ClassId} {sa : Nat → Nat} {de B : Nat} {ad : Ad} {S : St} {n : Nat → Nat} {T : St} {k : Nat → Nat} {th : Int32} {X : Rl} {x y z : Int32} (hfl : l.stackTraces = false) (hC : Cx p m c cc nL s args own D cy sa de B) (hS : va_S (AB B) s.heap H locs) (hG : GW D B ad (Vw cy de ad S n T k th X) H) (h0 : Inv S n ∧ X 19 0 0 = none) {idx : Nat} (wl : Cond.methodLink own idx yL_show ∈ G0) (hR : 8 + 1 ≤ R.frames ∧ 8 + (5 + 11) + 128 ≤ R.locals) (hsz : ls.size = nL) (hst : (rest.map fun v => v.category).sum ≤ 8) (hdg : decode cc pc = .ok (.invokestatic idx, 3)) (hcs : cells + 3 ≤ R.cells ∧ slots + 18 ≤ R.slots) (hcd : cd_show n x y z = 0) (k0 : ∀ (H1 : Heap) (locs1 : List Loc), GW D B ad (Vw cy de ad (up_show S x y z) n T k th X) H1 → va_S (AB B) s.heap H1 locs1 → W p l e R s m args below meth c H1 locs1 (cells + 3) (slots + 18) Q (F0 m (pc + 3) ls (.int (shv S (ci x) (ci y)) :: rest))) : W p l e R s m args below meth c H locs cells slots Q (F0 m pc ls (.int z :: .int y :: .int x :: .ref (ad 0 0 0) :: rest)) :=
  va_calli (rSW hC hS hG h0 (As := [.ref (ad 0 0 0), .int x, .int y, .int z]) (c_L_show l hfl) ⟨rfl, rfl⟩ wl sm_L_show in_L cd_L_show (n := 4) (by decide +kernel) hR rfl hsz hst rfl hdg hcs) hS (fun _ _ h => h) (fun _ h => h) (fun r u t H1 locs1 ht _ hr hB _ _ hS1 => by
    subst hr
    have hB9 := hB; try dsimp only at hB9
    rw [ht] at hB9
    rcases hB9 with ⟨q0, rfl, hG1⟩ | ⟨t9, q1, q2, rfl, hG1⟩
    · exact k0 _ _ hG1 hS1
    · exact absurd (q2.symm.trans hcd) q1)
theorem kx_L_show {p : Program} {l : Launch} {e : Env} {R : Room} {s : State} {m : MethodId} {args : Array Value} {below : List Frame} {meth : Method} {c : Code} {H : Heap} {locs : List Loc} {cells slots : Nat} {Q : State → Prop} {cc : ByteArray} {pc nL : Nat} {ls : Array Slot} {rest : List Value} {own : String} {D : va_G} {cy : Nat → ClassId} {sa : Nat → Nat} {de B : Nat} {ad : Ad} {S : St} {n : Nat → Nat} {T : St} {k : Nat → Nat} {th : Int32} {X : Rl} {x y z : Int32} {t0 : Nat} (hfl : l.stackTraces = false) (hC : Cx p m c cc nL s args own D cy sa de B) (hS : va_S (AB B) s.heap H locs) (hG : GW D B ad (Vw cy de ad S n T k th X) H) (h0 : Inv S n ∧ X 19 0 0 = none) {idx : Nat} (wl : Cond.methodLink own idx yL_show ∈ G0) (hR : 8 + 1 ≤ R.frames ∧ 8 + (5 + 11) + 128 ≤ R.locals) (hsz : ls.size = nL) (hst : (rest.map fun v => v.category).sum ≤ 8) (hdg : decode cc pc = .ok (.invokestatic idx, 3)) (hcs : cells + 3 ≤ R.cells ∧ slots + 18 ≤ R.slots) (ht0 : ¬ t0 = 0) (hcd : cd_show n x y z = t0) (k1 : ∀ (H1 : Heap) (locs1 : List Loc), GW D B ad (Vw cy de ad S n T k th X) H1 → va_S (AB B) s.heap H1 locs1 → W p l e R s m args below meth c H1 locs1 (cells + 3) (slots + 18) Q (F0 m (pc + 3) ls (.int (wer t0) :: rest))) : W p l e R s m args below meth c H locs cells slots Q (F0 m pc ls (.int z :: .int y :: .int x :: .ref (ad 0 0 0) :: rest)) :=
  va_calli (rSW hC hS hG h0 (As := [.ref (ad 0 0 0), .int x, .int y, .int z]) (c_L_show l hfl) ⟨rfl, rfl⟩ wl sm_L_show in_L cd_L_show (n := 4) (by decide +kernel) hR rfl hsz hst rfl hdg hcs) hS (fun _ _ h => h) (fun _ h => h) (fun r u t H1 locs1 ht _ hr hB _ _ hS1 => by
    subst hr
    have hB9 := hB; try dsimp only at hB9
    rw [ht] at hB9
    rcases hB9 with ⟨q0, rfl, hG1⟩ | ⟨t9, q1, q2, rfl, hG1⟩
    · exact absurd (hcd.symm.trans q0) ht0
    · obtain rfl : t9 = t0 := q2.symm.trans hcd
      exact k1 _ _ hG1 hS1)
set_option maxHeartbeats 4000000 in
set_option maxRecDepth 100000 in
theorem c_L_found (l : Launch) (hfl : l.stackTraces = false) {D : va_G} {cy : Nat → ClassId} {sa : Nat → Nat} {de B : Nat} {ad : Ad} {S : St} {n : Nat → Nat} {T : St} {k : Nat → Nat} {th : Int32} {X : Rl} {x y : Int32} : Met l yL_found (Cond.codeWith yL_found cL_found 4 (Option.some Jvm.ClassFile.FieldType.int) [((0 : Nat), (6 : Nat), (7 : Nat), (15 : Nat)), ((0 : Nat), (6 : Nat), (11 : Nat), (25 : Nat)), ((0 : Nat), (6 : Nat), (15 : Nat), (34 : Nat))] :: G0) ({ frames := 8, cells := 3, slots := 18, locals := 126 } : Room) (va_Pc [.ref (ad 0 0 0), .int x, .int y] (PW D cy sa de B ad (Vw cy de ad S n T k th X) (Inv S n ∧ X 19 0 0 = none))) (oI B (fun r H => (cd_found S n x y = 0 ∧ r = (S 1 (ci x) (ci y)) ∧ GW D B ad (Vw cy de ad S n T k th X) H) ∨ (∃ t9 : Nat, ¬ t9 = 0 ∧ cd_found S n x y = t9 ∧ r = wer t9 ∧ GW D B ad (Vw cy de ad S n T k th X) H))) 3 18 (AB B) := by
  refine E_metW (own := RL) rfl rfl (Nat.le_of_ble_eq_true rfl) ?_
  intro p e s m below meth c hC hr hlk htab hG h0 ls hl
  have hx := hC.x
  have hb := hC.b
  have hS : va_S (AB B) s.heap s.heap [] := va_S.rf
  have hl : lo ls 4 [some (.ref (ad 0 0 0)), some (.int x), some (.int y), none] := lo_of hl
  refine o_aload_n hx hb dL_found_0 hl rfl ?_
  refine o_iload_n hx hb dL_found_1 hl rfl ?_
  refine o_iload_n hx hb dL_found_2 hl rfl ?_
  refine vx_calli (xV hC hS hG h0.1.1 (As := [.int x, .int y]) (c_X6_found l hfl) ⟨rfl, rfl⟩ ml_L_30 im_X6_found sl_X6_X6_found in_X6 cd_X6_found (n := 2) (by decide +kernel) ⟨(Nat.le_of_ble_eq_true rfl), (Nat.le_of_ble_eq_true rfl)⟩ (recv hC hG (q := (RX6, TX6, 6)) rfl V_games) rfl hl.1 (Nat.le_of_ble_eq_true rfl) rfl dL_found_3 ⟨(Nat.le_of_ble_eq_true rfl), (Nat.le_of_ble_eq_true rfl)⟩) hS (fun _ _ h => h) (fun _ h => h) (fun _ _ h => h) (fun E ce q9 u t H1 locs1 ht hv hp hB hz hq hS1 hce hcv hcl => ?_) (fun r u t H1 locs1 ht _ hr1 hB _ _ hS1 => ?_)
  · (try dsimp only at hB)
    rw [ht] at hB
    obtain ⟨hE, hG1⟩ := hB
    rcases hE with ⟨rfl, hcd⟩ | ⟨rfl, hcd⟩ | ⟨rfl, hcd⟩
    · refine caught hC [] ⟨0, 6, 7, 15⟩ [⟨0, 6, 11, 25⟩, ⟨0, 6, 15, 34⟩] (htab.trans rfl) (fun z hz => absurd hz List.not_mem_nil) rfl (by decide) cl_L_15 (by decide) hce hcv hcl ?_
      refine o_astore_n hx hb dL_found_7 hl (by decide) rfl (fun ls hl => ?_)
      refine lv_ldc hx hb hC.o (hC.t _ ct_L_17) dL_found_8 ?_
      exact R_I hC hS1 hr hlk rfl (Or.inr ⟨1, by decide, hcd, rfl, hG1⟩) (Nat.le_of_ble_eq_true rfl) (Nat.le_of_ble_eq_true rfl) dL_found_10
    · refine caught hC [⟨0, 6, 7, 15⟩] ⟨0, 6, 11, 25⟩ [⟨0, 6, 15, 34⟩] (htab.trans rfl) (fun z hz => by
            cases List.mem_singleton.mp hz
            exact Or.inr ⟨by decide, _, hC.t _ cl_L_15, hC.k.2.2.2.2.1 (_, _) (by decide)⟩) rfl (by decide) cl_L_25 (by decide) hce hcv hcl ?_
      refine o_astore_n hx hb dL_found_11 hl (by decide) rfl (fun ls hl => ?_)
      refine lv_ldc hx hb hC.o (hC.t _ ct_L_20) dL_found_12 ?_
      exact R_I hC hS1 hr hlk rfl (Or.inr ⟨2, by decide, hcd, rfl, hG1⟩) (Nat.le_of_ble_eq_true rfl) (Nat.le_of_ble_eq_true rfl) dL_found_14
    · refine caught hC [⟨0, 6, 7, 15⟩, ⟨0, 6, 11, 25⟩] ⟨0, 6, 15, 34⟩ [] (htab.trans rfl) (fun z hz => by
            rcases List.mem_cons.mp hz with h | h
            · cases h; exact Or.inr ⟨by decide, _, hC.t _ cl_L_15, hC.k.2.2.2.2.1 (_, _) (by decide)⟩
            · cases List.mem_singleton.mp h; exact Or.inr ⟨by decide, _, hC.t _ cl_L_25, hC.k.2.2.2.2.1 (_, _) (by decide)⟩) rfl (by decide) cl_L_34 (by decide) hce hcv hcl ?_
      refine o_astore_n hx hb dL_found_15 hl (by decide) rfl (fun ls hl => ?_)
      refine lv_ldc hx hb hC.o (hC.t _ ct_L_36) dL_found_16 ?_
      exact R_I hC hS1 hr hlk rfl (Or.inr ⟨3, by decide, hcd, rfl, hG1⟩) (Nat.le_of_ble_eq_true rfl) (Nat.le_of_ble_eq_true rfl) dL_found_18
  · subst hr1
    (try dsimp only at hB)
    rw [ht] at hB
    obtain ⟨q0, rfl, hG1⟩ := hB
    exact R_I hC hS1 hr hlk rfl (Or.inl ⟨q0, rfl, hG1⟩) (Nat.le_of_ble_eq_true rfl) (Nat.le_of_ble_eq_true rfl) dL_found_6
theorem kv_L_found {p : Program} {l : Launch} {e : Env} {R : Room} {s : State} {m : MethodId} {args : Array Value} {below : List Frame} {meth : Method} {c : Code} {H : Heap} {locs : List Loc} {cells slots : Nat} {Q : State → Prop} {cc : ByteArray} {pc nL : Nat} {ls : Array Slot} {rest : List Value} {own : String} {D : va_G} {cy : Nat → ClassId} {sa : Nat → Nat} {de B : Nat} {ad : Ad} {S : St} {n : Nat → Nat} {T : St} {k : Nat → Nat} {th : Int32} {X : Rl} {x y : Int32} (hfl : l.stackTraces = false) (hC : Cx p m c cc nL s args own D cy sa de B) (hS : va_S (AB B) s.heap H locs) (hG : GW D B ad (Vw cy de ad S n T k th X) H) (h0 : Inv S n ∧ X 19 0 0 = none) {idx : Nat} (wl : Cond.methodLink own idx yL_found ∈ G0) (hR : 8 + 1 ≤ R.frames ∧ 8 + (4 + 11) + 126 ≤ R.locals) (hsz : ls.size = nL) (hst : (rest.map fun v => v.category).sum ≤ 8) (hdg : decode cc pc = .ok (.invokestatic idx, 3)) (hcs : cells + 3 ≤ R.cells ∧ slots + 18 ≤ R.slots) (hcd : cd_found S n x y = 0) (k0 : ∀ (H1 : Heap) (locs1 : List Loc), GW D B ad (Vw cy de ad S n T k th X) H1 → va_S (AB B) s.heap H1 locs1 → W p l e R s m args below meth c H1 locs1 (cells + 3) (slots + 18) Q (F0 m (pc + 3) ls (.int (S 1 (ci x) (ci y)) :: rest))) : W p l e R s m args below meth c H locs cells slots Q (F0 m pc ls (.int y :: .int x :: .ref (ad 0 0 0) :: rest)) :=
  va_calli (rSW hC hS hG h0 (As := [.ref (ad 0 0 0), .int x, .int y]) (c_L_found l hfl) ⟨rfl, rfl⟩ wl sm_L_found in_L cd_L_found (n := 3) (by decide +kernel) hR rfl hsz hst rfl hdg hcs) hS (fun _ _ h => h) (fun _ h => h) (fun r u t H1 locs1 ht _ hr hB _ _ hS1 => by
    subst hr
    have hB9 := hB; try dsimp only at hB9
    rw [ht] at hB9
    rcases hB9 with ⟨q0, rfl, hG1⟩ | ⟨t9, q1, q2, rfl, hG1⟩
    · exact k0 _ _ hG1 hS1
    · exact absurd (q2.symm.trans hcd) q1)
theorem kx_L_found {p : Program} {l : Launch} {e : Env} {R : Room} {s : State} {m : MethodId} {args : Array Value} {below : List Frame} {meth : Method} {c : Code} {H : Heap} {locs : List Loc} {cells slots : Nat} {Q : State → Prop} {cc : ByteArray} {pc nL : Nat} {ls : Array Slot} {rest : List Value} {own : String} {D : va_G} {cy : Nat → ClassId} {sa : Nat → Nat} {de B : Nat} {ad : Ad} {S : St} {n : Nat → Nat} {T : St} {k : Nat → Nat} {th : Int32} {X : Rl} {x y : Int32} {t0 : Nat} (hfl : l.stackTraces = false) (hC : Cx p m c cc nL s args own D cy sa de B) (hS : va_S (AB B) s.heap H locs) (hG : GW D B ad (Vw cy de ad S n T k th X) H) (h0 : Inv S n ∧ X 19 0 0 = none) {idx : Nat} (wl : Cond.methodLink own idx yL_found ∈ G0) (hR : 8 + 1 ≤ R.frames ∧ 8 + (4 + 11) + 126 ≤ R.locals) (hsz : ls.size = nL) (hst : (rest.map fun v => v.category).sum ≤ 8) (hdg : decode cc pc = .ok (.invokestatic idx, 3)) (hcs : cells + 3 ≤ R.cells ∧ slots + 18 ≤ R.slots) (ht0 : ¬ t0 = 0) (hcd : cd_found S n x y = t0) (k1 : ∀ (H1 : Heap) (locs1 : List Loc), GW D B ad (Vw cy de ad S n T k th X) H1 → va_S (AB B) s.heap H1 locs1 → W p l e R s m args below meth c H1 locs1 (cells + 3) (slots + 18) Q (F0 m (pc + 3) ls (.int (wer t0) :: rest))) : W p l e R s m args below meth c H locs cells slots Q (F0 m pc ls (.int y :: .int x :: .ref (ad 0 0 0) :: rest)) :=
  va_calli (rSW hC hS hG h0 (As := [.ref (ad 0 0 0), .int x, .int y]) (c_L_found l hfl) ⟨rfl, rfl⟩ wl sm_L_found in_L cd_L_found (n := 3) (by decide +kernel) hR rfl hsz hst rfl hdg hcs) hS (fun _ _ h => h) (fun _ h => h) (fun r u t H1 locs1 ht _ hr hB _ _ hS1 => by
    subst hr
    have hB9 := hB; try dsimp only at hB9
    rw [ht] at hB9
    rcases hB9 with ⟨q0, rfl, hG1⟩ | ⟨t9, q1, q2, rfl, hG1⟩
    · exact absurd (hcd.symm.trans q0) ht0
    · obtain rfl : t9 = t0 := q2.symm.trans hcd
      exact k1 _ _ hG1 hS1)
set_option maxHeartbeats 4000000 in
set_option maxRecDepth 100000 in
theorem c_L_classifier (l : Launch) (hfl : l.stackTraces = false) {D : va_G} {cy : Nat → ClassId} {sa : Nat → Nat} {de B : Nat} {ad : Ad} {S : St} {n : Nat → Nat} {T : St} {k : Nat → Nat} {th : Int32} {X : Rl} {x : Int32} : Met l yL_classifier (Cond.codeWith yL_classifier cL_classifier 3 (Option.some Jvm.ClassFile.FieldType.int) [((0 : Nat), (5 : Nat), (6 : Nat), (15 : Nat)), ((0 : Nat), (5 : Nat), (10 : Nat), (18 : Nat))] :: G0) ({ frames := 9, cells := 3, slots := 29, locals := 212 } : Room) (va_Pc [.ref (ad 0 0 0), .int x] (PW D cy sa de B ad (Vw cy de ad S n T k th X) (Inv S n ∧ X 19 0 0 = none))) (oI B (fun r H => (cd_classifier n x = 0 ∧ ∃ ad9, Ag ad ad9 ∧ r = (nI (n 1)) ∧ GW D B ad9 (Vw cy de ad9 (clS S (n 1) x) (nUp n 1) T k th X) H) ∨ (∃ t9 : Nat, ¬ t9 = 0 ∧ cd_classifier n x = t9 ∧ r = wer t9 ∧ GW D B ad (Vw cy de ad S n T k th X) H))) 3 29 (AB B) := by
  refine E_metW (own := RL) rfl rfl (Nat.le_of_ble_eq_true rfl) ?_
  intro p e s m below meth c hC hr hlk htab hG h0 ls hl
  have hx := hC.x
  have hb := hC.b
  have hS : va_S (AB B) s.heap s.heap [] := va_S.rf
  have hl : lo ls 3 [some (.ref (ad 0 0 0)), some (.int x), none] := lo_of hl
  refine o_aload_n hx hb dL_classifier_0 hl rfl ?_
  refine o_iload_n hx hb dL_classifier_1 hl rfl ?_
  refine vx_calli (xV hC hS hG h0 (As := [.int x]) (c_X6_classifier l hfl) ⟨rfl, rfl⟩ ml_L_37 im_X6_classifier sl_X6_X6_classifier in_X6 cd_X6_classifier (n := 1) (by decide +kernel) ⟨(Nat.le_of_ble_eq_true rfl), (Nat.le_of_ble_eq_true rfl)⟩ (recv hC hG (q := (RX6, TX6, 6)) rfl V_games) rfl hl.1 (Nat.le_of_ble_eq_true rfl) rfl dL_classifier_2 ⟨(Nat.le_of_ble_eq_true rfl), (Nat.le_of_ble_eq_true rfl)⟩) hS (fun _ _ h => h) (fun _ h => h) (fun _ _ h => h) (fun E ce q9 u t H1 locs1 ht hv hp hB hz hq hS1 hce hcv hcl => ?_) (fun r u t H1 locs1 ht _ hr1 hB _ _ hS1 => ?_)
  · (try dsimp only at hB)
    rw [ht] at hB
    obtain ⟨hE, hG1⟩ := hB
    rcases hE with ⟨rfl, hcd⟩ | ⟨rfl, hcd⟩
    · refine caught hC [] ⟨0, 5, 6, 15⟩ [⟨0, 5, 10, 18⟩] (htab.trans rfl) (fun z hz => absurd hz List.not_mem_nil) rfl (by decide) cl_L_15 (by decide) hce hcv hcl ?_
      refine o_astore_n hx hb dL_classifier_6 hl (by decide) rfl (fun ls hl => ?_)
      refine lv_ldc hx hb hC.o (hC.t _ ct_L_17) dL_classifier_7 ?_
      exact R_I hC hS1 hr hlk rfl (Or.inr ⟨1, by decide, hcd, rfl, hG1⟩) (Nat.le_of_ble_eq_true rfl) (Nat.le_of_ble_eq_true rfl) dL_classifier_9
    · refine caught hC [⟨0, 5, 6, 15⟩] ⟨0, 5, 10, 18⟩ [] (htab.trans rfl) (fun z hz => by
            cases List.mem_singleton.mp hz
            exact Or.inr ⟨by decide, _, hC.t _ cl_L_15, hC.k.2.2.2.2.1 (_, _) (by decide)⟩) rfl (by decide) cl_L_18 (by decide) hce hcv hcl ?_
      refine o_astore_n hx hb dL_classifier_10 hl (by decide) rfl (fun ls hl => ?_)
      refine lv_ldc hx hb hC.o (hC.t _ ct_L_20) dL_classifier_11 ?_
      exact R_I hC hS1 hr hlk rfl (Or.inr ⟨2, by decide, hcd, rfl, hG1⟩) (Nat.le_of_ble_eq_true rfl) (Nat.le_of_ble_eq_true rfl) dL_classifier_13
  · subst hr1
    (try dsimp only at hB)
    rw [ht] at hB
    obtain ⟨q0, rfl, ad9, hA, hG1⟩ := hB
    exact R_I hC hS1 hr hlk rfl (Or.inl ⟨q0, ad9, hA, rfl, hG1⟩) (Nat.le_of_ble_eq_true rfl) (Nat.le_of_ble_eq_true rfl) dL_classifier_5
theorem kv_L_classifier {p : Program} {l : Launch} {e : Env} {R : Room} {s : State} {m : MethodId} {args : Array Value} {below : List Frame} {meth : Method} {c : Code} {H : Heap} {locs : List Loc} {cells slots : Nat} {Q : State → Prop} {cc : ByteArray} {pc nL : Nat} {ls : Array Slot} {rest : List Value} {own : String} {D : va_G} {cy : Nat → ClassId} {sa : Nat → Nat} {de B : Nat} {ad : Ad} {S : St} {n : Nat → Nat} {T : St} {k : Nat → Nat} {th : Int32} {X : Rl} {x : Int32} (hfl : l.stackTraces = false) (hC : Cx p m c cc nL s args own D cy sa de B) (hS : va_S (AB B) s.heap H locs) (hG : GW D B ad (Vw cy de ad S n T k th X) H) (h0 : Inv S n ∧ X 19 0 0 = none) {idx : Nat} (wl : Cond.methodLink own idx yL_classifier ∈ G0) (hR : 9 + 1 ≤ R.frames ∧ 8 + (3 + 11) + 212 ≤ R.locals) (hsz : ls.size = nL) (hst : (rest.map fun v => v.category).sum ≤ 8) (hdg : decode cc pc = .ok (.invokestatic idx, 3)) (hcs : cells + 3 ≤ R.cells ∧ slots + 29 ≤ R.slots) (hcd : cd_classifier n x = 0) (k0 : ∀ (ad9 : Ad) (H1 : Heap) (locs1 : List Loc), Ag ad ad9 → GW D B ad9 (Vw cy de ad9 (clS S (n 1) x) (nUp n 1) T k th X) H1 → va_S (AB B) s.heap H1 locs1 → W p l e R s m args below meth c H1 locs1 (cells + 3) (slots + 29) Q (F0 m (pc + 3) ls (.int (nI (n 1)) :: rest))) : W p l e R s m args below meth c H locs cells slots Q (F0 m pc ls (.int x :: .ref (ad 0 0 0) :: rest)) :=
  va_calli (rSW hC hS hG h0 (As := [.ref (ad 0 0 0), .int x]) (c_L_classifier l hfl) ⟨rfl, rfl⟩ wl sm_L_classifier in_L cd_L_classifier (n := 2) (by decide +kernel) hR rfl hsz hst rfl hdg hcs) hS (fun _ _ h => h) (fun _ h => h) (fun r u t H1 locs1 ht _ hr hB _ _ hS1 => by
    subst hr
    have hB9 := hB; try dsimp only at hB9
    rw [ht] at hB9
    rcases hB9 with ⟨q0, ad9, hA, rfl, hG1⟩ | ⟨t9, q1, q2, rfl, hG1⟩
    · exact k0 ad9 _ _ hA hG1 hS1
    · exact absurd (q2.symm.trans hcd) q1)
theorem kx_L_classifier {p : Program} {l : Launch} {e : Env} {R : Room} {s : State} {m : MethodId} {args : Array Value} {below : List Frame} {meth : Method} {c : Code} {H : Heap} {locs : List Loc} {cells slots : Nat} {Q : State → Prop} {cc : ByteArray} {pc nL : Nat} {ls : Array Slot} {rest : List Value} {own : String} {D : va_G} {cy : Nat → ClassId} {sa : Nat → Nat} {de B : Nat} {ad : Ad} {S : St} {n : Nat → Nat} {T : St} {k : Nat → Nat} {th : Int32} {X : Rl} {x : Int32} {t0 : Nat} (hfl : l.stackTraces = false) (hC : Cx p m c cc nL s args own D cy sa de B) (hS : va_S (AB B) s.heap H locs) (hG : GW D B ad (Vw cy de ad S n T k th X) H) (h0 : Inv S n ∧ X 19 0 0 = none) {idx : Nat} (wl : Cond.methodLink own idx yL_classifier ∈ G0) (hR : 9 + 1 ≤ R.frames ∧ 8 + (3 + 11) + 212 ≤ R.locals) (hsz : ls.size = nL) (hst : (rest.map fun v => v.category).sum ≤ 8) (hdg : decode cc pc = .ok (.invokestatic idx, 3)) (hcs : cells + 3 ≤ R.cells ∧ slots + 29 ≤ R.slots) (ht0 : ¬ t0 = 0) (hcd : cd_classifier n x = t0) (k1 : ∀ (H1 : Heap) (locs1 : List Loc), GW D B ad (Vw cy de ad S n T k th X) H1 → va_S (AB B) s.heap H1 locs1 → W p l e R s m args below meth c H1 locs1 (cells + 3) (slots + 29) Q (F0 m (pc + 3) ls (.int (wer t0) :: rest))) : W p l e R s m args below meth c H locs cells slots Q (F0 m pc ls (.int x :: .ref (ad 0 0 0) :: rest)) :=
  va_calli (rSW hC hS hG h0 (As := [.ref (ad 0 0 0), .int x]) (c_L_classifier l hfl) ⟨rfl, rfl⟩ wl sm_L_classifier in_L cd_L_classifier (n := 2) (by decide +kernel) hR rfl hsz hst rfl hdg hcs) hS (fun _ _ h => h) (fun _ h => h) (fun r u t H1 locs1 ht _ hr hB _ _ hS1 => by
    subst hr
    have hB9 := hB; try dsimp only at hB9
    rw [ht] at hB9
    rcases hB9 with ⟨q0, ad9, hA, rfl, hG1⟩ | ⟨t9, q1, q2, rfl, hG1⟩
    · exact absurd (hcd.symm.trans q0) ht0
    · obtain rfl : t9 = t0 := q2.symm.trans hcd
      exact k1 _ _ hG1 hS1)
set_option maxHeartbeats 4000000 in
set_option maxRecDepth 100000 in
theorem c_L_kind (l : Launch) (hfl : l.stackTraces = false) {D : va_G} {cy : Nat → ClassId} {sa : Nat → Nat} {de B : Nat} {ad : Ad} {S : St} {n : Nat → Nat} {T : St} {k : Nat → Nat} {th : Int32} {X : Rl} {x y z w : Int32} : Met l yL_kind (Cond.codeWith yL_kind cL_kind 6 (Option.some Jvm.ClassFile.FieldType.int) [((0 : Nat), (9 : Nat), (10 : Nat), (25 : Nat)), ((0 : Nat), (9 : Nat), (15 : Nat), (18 : Nat))] :: G0) ({ frames := 9, cells := 4, slots := 40, locals := 216 } : Room) (va_Pc [.ref (ad 0 0 0), .int x, .int y, .int z, .int w] (PW D cy sa de B ad (Vw cy de ad S n T k th X) (Inv S n ∧ X 19 0 0 = none))) (oI B (fun r H => (cd_kind n x y z w = 0 ∧ ∃ ad9, Ag ad ad9 ∧ r = (nI (n 2)) ∧ GW D B ad9 (Vw cy de ad9 (kiS S (n 2) x y z w) (nUp n 2) T k th X) H) ∨ (∃ t9 : Nat, ¬ t9 = 0 ∧ cd_kind n x y z w = t9 ∧ r = wer t9 ∧ GW D B ad (Vw cy de ad S n T k th X) H))) 4 40 (AB B) := by
  refine E_metW (own := RL) rfl rfl (Nat.le_of_ble_eq_true rfl) ?_
  intro p e s m below meth c hC hr hlk htab hG h0 ls hl
  have hx := hC.x
  have hb := hC.b
  have hS : va_S (AB B) s.heap s.heap [] := va_S.rf
  have hl : lo ls 6 [some (.ref (ad 0 0 0)), some (.int x), some (.int y), some (.int z), some (.int w), none] := lo_of hl
  refine o_aload_n hx hb dL_kind_0 hl rfl ?_
  refine o_iload_n hx hb dL_kind_1 hl rfl ?_
  refine o_iload_n hx hb dL_kind_2 hl rfl ?_
  refine o_iload_n hx hb dL_kind_3 hl rfl ?_
  refine o_iload hx hb dL_kind_4 hl rfl ?_
  refine vx_calli (xV hC hS hG h0 (As := [.int x, .int y, .int z, .int w]) (c_X6_kind l hfl) ⟨rfl, rfl⟩ ml_L_40 im_X6_kind sl_X6_X6_kind in_X6 cd_X6_kind (n := 4) (by decide +kernel) ⟨(Nat.le_of_ble_eq_true rfl), (Nat.le_of_ble_eq_true rfl)⟩ (recv hC hG (q := (RX6, TX6, 6)) rfl V_games) rfl hl.1 (Nat.le_of_ble_eq_true rfl) rfl dL_kind_6 ⟨(Nat.le_of_ble_eq_true rfl), (Nat.le_of_ble_eq_true rfl)⟩) hS (fun _ _ h => h) (fun _ h => h) (fun _ _ h => h) (fun E ce q9 u t H1 locs1 ht hv hp hB hz hq hS1 hce hcv hcl => ?_) (fun r u t H1 locs1 ht _ hr1 hB _ _ hS1 => ?_)
  · (try dsimp only at hB)
    rw [ht] at hB
    obtain ⟨hE, hG1⟩ := hB
    rcases hE with ⟨rfl, hcd⟩ | ⟨rfl, hcd⟩
    · refine caught hC [] ⟨0, 9, 10, 25⟩ [⟨0, 9, 15, 18⟩] (htab.trans rfl) (fun z hz => absurd hz List.not_mem_nil) rfl (by decide) cl_L_25 (by decide) hce hcv hcl ?_
      refine o_astore hx hb dL_kind_10 hl (by decide) rfl (fun ls hl => ?_)
      refine lv_ldc hx hb hC.o (hC.t _ ct_L_17) dL_kind_12 ?_
      exact R_I hC hS1 hr hlk rfl (Or.inr ⟨1, by decide, hcd, rfl, hG1⟩) (Nat.le_of_ble_eq_true rfl) (Nat.le_of_ble_eq_true rfl) dL_kind_14
    · refine caught hC [⟨0, 9, 10, 25⟩] ⟨0, 9, 15, 18⟩ [] (htab.trans rfl) (fun z hz => by
            cases List.mem_singleton.mp hz
            exact Or.inr ⟨by decide, _, hC.t _ cl_L_25, hC.k.2.2.2.2.1 (_, _) (by decide)⟩) rfl (by decide) cl_L_18 (by decide) hce hcv hcl ?_
      refine o_astore hx hb dL_kind_15 hl (by decide) rfl (fun ls hl => ?_)
      refine lv_ldc hx hb hC.o (hC.t _ ct_L_20) dL_kind_17 ?_
      exact R_I hC hS1 hr hlk rfl (Or.inr ⟨2, by decide, hcd, rfl, hG1⟩) (Nat.le_of_ble_eq_true rfl) (Nat.le_of_ble_eq_true rfl) dL_kind_19
  · subst hr1
    (try dsimp only at hB)
    rw [ht] at hB
    obtain ⟨q0, rfl, ad9, hA, hG1⟩ := hB
    exact R_I hC hS1 hr hlk rfl (Or.inl ⟨q0, ad9, hA, rfl, hG1⟩) (Nat.le_of_ble_eq_true rfl) (Nat.le_of_ble_eq_true rfl) dL_kind_9
theorem kv_L_kind {p : Program} {l : Launch} {e : Env} {R : Room} {s : State} {m : MethodId} {args : Array Value} {below : List Frame} {meth : Method} {c : Code} {H : Heap} {locs : List Loc} {cells slots : Nat} {Q : State → Prop} {cc : ByteArray} {pc nL : Nat} {ls : Array Slot} {rest : List Value} {own : String} {D : va_G} {cy : Nat → ClassId} {sa : Nat → Nat} {de B : Nat} {ad : Ad} {S : St} {n : Nat → Nat} {T : St} {k : Nat → Nat} {th : Int32} {X : Rl} {x y z w : Int32} (hfl : l.stackTraces = false) (hC : Cx p m c cc nL s args own D cy sa de B) (hS : va_S (AB B) s.heap H locs) (hG : GW D B ad (Vw cy de ad S n T k th X) H) (h0 : Inv S n ∧ X 19 0 0 = none) {idx : Nat} (wl : Cond.methodLink own idx yL_kind ∈ G0) (hR : 9 + 1 ≤ R.frames ∧ 8 + (6 + 11) + 216 ≤ R.locals) (hsz : ls.size = nL) (hst : (rest.map fun v => v.category).sum ≤ 8) (hdg : decode cc pc = .ok (.invokestatic idx, 3)) (hcs : cells + 4 ≤ R.cells ∧ slots + 40 ≤ R.slots) (hcd : cd_kind n x y z w = 0) (k0 : ∀ (ad9 : Ad) (H1 : Heap) (locs1 : List Loc), Ag ad ad9 → GW D B ad9 (Vw cy de ad9 (kiS S (n 2) x y z w) (nUp n 2) T k th X) H1 → va_S (AB B) s.heap H1 locs1 → W p l e R s m args below meth c H1 locs1 (cells + 4) (slots + 40) Q (F0 m (pc + 3) ls (.int (nI (n 2)) :: rest))) : W p l e R s m args below meth c H locs cells slots Q (F0 m pc ls (.int w :: .int z :: .int y :: .int x :: .ref (ad 0 0 0) :: rest)) :=
  va_calli (rSW hC hS hG h0 (As := [.ref (ad 0 0 0), .int x, .int y, .int z, .int w]) (c_L_kind l hfl) ⟨rfl, rfl⟩ wl sm_L_kind in_L cd_L_kind (n := 5) (by decide +kernel) hR rfl hsz hst rfl hdg hcs) hS (fun _ _ h => h) (fun _ h => h) (fun r u t H1 locs1 ht _ hr hB _ _ hS1 => by
    subst hr
    have hB9 := hB; try dsimp only at hB9
    rw [ht] at hB9
    rcases hB9 with ⟨q0, ad9, hA, rfl, hG1⟩ | ⟨t9, q1, q2, rfl, hG1⟩
    · exact k0 ad9 _ _ hA hG1 hS1
    · exact absurd (q2.symm.trans hcd) q1)
theorem kx_L_kind {p : Program} {l : Launch} {e : Env} {R : Room} {s : State} {m : MethodId} {args : Array Value} {below : List Frame} {meth : Method} {c : Code} {H : Heap} {locs : List Loc} {cells slots : Nat} {Q : State → Prop} {cc : ByteArray} {pc nL : Nat} {ls : Array Slot} {rest : List Value} {own : String} {D : va_G} {cy : Nat → ClassId} {sa : Nat → Nat} {de B : Nat} {ad : Ad} {S : St} {n : Nat → Nat} {T : St} {k : Nat → Nat} {th : Int32} {X : Rl} {x y z w : Int32} {t0 : Nat} (hfl : l.stackTraces = false) (hC : Cx p m c cc nL s args own D cy sa de B) (hS : va_S (AB B) s.heap H locs) (hG : GW D B ad (Vw cy de ad S n T k th X) H) (h0 : Inv S n ∧ X 19 0 0 = none) {idx : Nat} (wl : Cond.methodLink own idx yL_kind ∈ G0) (hR : 9 + 1 ≤ R.frames ∧ 8 + (6 + 11) + 216 ≤ R.locals) (hsz : ls.size = nL) (hst : (rest.map fun v => v.category).sum ≤ 8) (hdg : decode cc pc = .ok (.invokestatic idx, 3)) (hcs : cells + 4 ≤ R.cells ∧ slots + 40 ≤ R.slots) (ht0 : ¬ t0 = 0) (hcd : cd_kind n x y z w = t0) (k1 : ∀ (H1 : Heap) (locs1 : List Loc), GW D B ad (Vw cy de ad S n T k th X) H1 → va_S (AB B) s.heap H1 locs1 → W p l e R s m args below meth c H1 locs1 (cells + 4) (slots + 40) Q (F0 m (pc + 3) ls (.int (wer t0) :: rest))) : W p l e R s m args below meth c H locs cells slots Q (F0 m pc ls (.int w :: .int z :: .int y :: .int x :: .ref (ad 0 0 0) :: rest)) :=
  va_calli (rSW hC hS hG h0 (As := [.ref (ad 0 0 0), .int x, .int y, .int z, .int w]) (c_L_kind l hfl) ⟨rfl, rfl⟩ wl sm_L_kind in_L cd_L_kind (n := 5) (by decide +kernel) hR rfl hsz hst rfl hdg hcs) hS (fun _ _ h => h) (fun _ h => h) (fun r u t H1 locs1 ht _ hr hB _ _ hS1 => by
    subst hr
    have hB9 := hB; try dsimp only at hB9
    rw [ht] at hB9
    rcases hB9 with ⟨q0, ad9, hA, rfl, hG1⟩ | ⟨t9, q1, q2, rfl, hG1⟩
    · exact absurd (hcd.symm.trans q0) ht0
    · obtain rfl : t9 = t0 := q2.symm.trans hcd
      exact k1 _ _ hG1 hS1)
set_option maxHeartbeats 4000000 in
set_option maxRecDepth 100000 in
theorem c_L_belongs (l : Launch) (hfl : l.stackTraces = false) {D : va_G} {cy : Nat → ClassId} {sa : Nat → Nat} {de B : Nat} {ad : Ad} {S : St} {n : Nat → Nat} {T : St} {k : Nat → Nat} {th : Int32} {X : Rl} {x : Int32} : Met l yL_belongs (Cond.codeWith yL_belongs cL_belongs 3 (Option.some Jvm.ClassFile.FieldType.int) [((0 : Nat), (5 : Nat), (6 : Nat), (15 : Nat))] :: G0) ({ frames := 8, cells := 1, slots := 6, locals := 124 } : Room) (va_Pc [.ref (ad 0 0 0), .int x] (PW D cy sa de B ad (Vw cy de ad S n T k th X) (Inv S n ∧ X 19 0 0 = none))) (oI B (fun r H => (cd_ath n x = 0 ∧ r = (kbel S n (fMea S (ci x) 0)) ∧ GW D B ad (Vw cy de ad S n T k th X) H) ∨ (∃ t9 : Nat, ¬ t9 = 0 ∧ cd_ath n x = t9 ∧ r = wer t9 ∧ GW D B ad (Vw cy de ad S n T k th X) H))) 1 6 (AB B) := by
  refine E_metW (own := RL) rfl rfl (Nat.le_of_ble_eq_true rfl) ?_
  intro p e s m below meth c hC hr hlk htab hG h0 ls hl
  have hx := hC.x
  have hb := hC.b
  have hS : va_S (AB B) s.heap s.heap [] := va_S.rf
  have hl : lo ls 3 [some (.ref (ad 0 0 0)), some (.int x), none] := lo_of hl
  refine o_aload_n hx hb dL_belongs_0 hl rfl ?_
  refine o_iload_n hx hb dL_belongs_1 hl rfl ?_
  refine vx_calli (xV hC hS hG h0.1.1 (As := [.int x]) (c_X6_belongs l hfl) ⟨rfl, rfl⟩ ml_L_44 im_X6_belongs sl_X6_X6_belongs in_X6 cd_X6_belongs (n := 1) (by decide +kernel) ⟨(Nat.le_of_ble_eq_true rfl), (Nat.le_of_ble_eq_true rfl)⟩ (recv hC hG (q := (RX6, TX6, 6)) rfl V_games) rfl hl.1 (Nat.le_of_ble_eq_true rfl) rfl dL_belongs_2 ⟨(Nat.le_of_ble_eq_true rfl), (Nat.le_of_ble_eq_true rfl)⟩) hS (fun _ _ h => h) (fun _ h => h) (fun _ _ h => h) (fun E ce q9 u t H1 locs1 ht hv hp hB hz hq hS1 hce hcv hcl => ?_) (fun r u t H1 locs1 ht _ hr1 hB _ _ hS1 => ?_)
  · (try dsimp only at hB)
    rw [ht] at hB
    obtain ⟨⟨rfl, hcd⟩, hG1⟩ := hB
    · refine caught hC [] ⟨0, 5, 6, 15⟩ [] (htab.trans rfl) (fun z hz => absurd hz List.not_mem_nil) rfl (by decide) cl_L_15 (by decide) hce hcv hcl ?_
      refine o_astore_n hx hb dL_belongs_6 hl (by decide) rfl (fun ls hl => ?_)
      refine lv_ldc hx hb hC.o (hC.t _ ct_L_17) dL_belongs_7 ?_
      exact R_I hC hS1 hr hlk rfl (Or.inr ⟨1, by decide, hcd, rfl, hG1⟩) (Nat.le_of_ble_eq_true rfl) (Nat.le_of_ble_eq_true rfl) dL_belongs_9
  · subst hr1
    (try dsimp only at hB)
    rw [ht] at hB
    obtain ⟨q0, rfl, hG1⟩ := hB
    exact R_I hC hS1 hr hlk rfl (Or.inl ⟨q0, rfl, hG1⟩) (Nat.le_of_ble_eq_true rfl) (Nat.le_of_ble_eq_true rfl) dL_belongs_5
theorem kv_L_belongs {p : Program} {l : Launch} {e : Env} {R : Room} {s : State} {m : MethodId} {args : Array Value} {below : List Frame} {meth : Method} {c : Code} {H : Heap} {locs : List Loc} {cells slots : Nat} {Q : State → Prop} {cc : ByteArray} {pc nL : Nat} {ls : Array Slot} {rest : List Value} {own : String} {D : va_G} {cy : Nat → ClassId} {sa : Nat → Nat} {de B : Nat} {ad : Ad} {S : St} {n : Nat → Nat} {T : St} {k : Nat → Nat} {th : Int32} {X : Rl} {x : Int32} (hfl : l.stackTraces = false) (hC : Cx p m c cc nL s args own D cy sa de B) (hS : va_S (AB B) s.heap H locs) (hG : GW D B ad (Vw cy de ad S n T k th X) H) (h0 : Inv S n ∧ X 19 0 0 = none) {idx : Nat} (wl : Cond.methodLink own idx yL_belongs ∈ G0) (hR : 8 + 1 ≤ R.frames ∧ 8 + (3 + 11) + 124 ≤ R.locals) (hsz : ls.size = nL) (hst : (rest.map fun v => v.category).sum ≤ 8) (hdg : decode cc pc = .ok (.invokestatic idx, 3)) (hcs : cells + 1 ≤ R.cells ∧ slots + 6 ≤ R.slots) (hcd : cd_ath n x = 0) (k0 : ∀ (H1 : Heap) (locs1 : List Loc), GW D B ad (Vw cy de ad S n T k th X) H1 → va_S (AB B) s.heap H1 locs1 → W p l e R s m args below meth c H1 locs1 (cells + 1) (slots + 6) Q (F0 m (pc + 3) ls (.int (kbel S n (fMea S (ci x) 0)) :: rest))) : W p l e R s m args below meth c H locs cells slots Q (F0 m pc ls (.int x :: .ref (ad 0 0 0) :: rest)) :=
  va_calli (rSW hC hS hG h0 (As := [.ref (ad 0 0 0), .int x]) (c_L_belongs l hfl) ⟨rfl, rfl⟩ wl sm_L_belongs in_L cd_L_belongs (n := 2) (by decide +kernel) hR rfl hsz hst rfl hdg hcs) hS (fun _ _ h => h) (fun _ h => h) (fun r u t H1 locs1 ht _ hr hB _ _ hS1 => by
    subst hr
    have hB9 := hB; try dsimp only at hB9
    rw [ht] at hB9
    rcases hB9 with ⟨q0, rfl, hG1⟩ | ⟨t9, q1, q2, rfl, hG1⟩
    · exact k0 _ _ hG1 hS1
    · exact absurd (q2.symm.trans hcd) q1)
theorem kx_L_belongs {p : Program} {l : Launch} {e : Env} {R : Room} {s : State} {m : MethodId} {args : Array Value} {below : List Frame} {meth : Method} {c : Code} {H : Heap} {locs : List Loc} {cells slots : Nat} {Q : State → Prop} {cc : ByteArray} {pc nL : Nat} {ls : Array Slot} {rest : List Value} {own : String} {D : va_G} {cy : Nat → ClassId} {sa : Nat → Nat} {de B : Nat} {ad : Ad} {S : St} {n : Nat → Nat} {T : St} {k : Nat → Nat} {th : Int32} {X : Rl} {x : Int32} {t0 : Nat} (hfl : l.stackTraces = false) (hC : Cx p m c cc nL s args own D cy sa de B) (hS : va_S (AB B) s.heap H locs) (hG : GW D B ad (Vw cy de ad S n T k th X) H) (h0 : Inv S n ∧ X 19 0 0 = none) {idx : Nat} (wl : Cond.methodLink own idx yL_belongs ∈ G0) (hR : 8 + 1 ≤ R.frames ∧ 8 + (3 + 11) + 124 ≤ R.locals) (hsz : ls.size = nL) (hst : (rest.map fun v => v.category).sum ≤ 8) (hdg : decode cc pc = .ok (.invokestatic idx, 3)) (hcs : cells + 1 ≤ R.cells ∧ slots + 6 ≤ R.slots) (ht0 : ¬ t0 = 0) (hcd : cd_ath n x = t0) (k1 : ∀ (H1 : Heap) (locs1 : List Loc), GW D B ad (Vw cy de ad S n T k th X) H1 → va_S (AB B) s.heap H1 locs1 → W p l e R s m args below meth c H1 locs1 (cells + 1) (slots + 6) Q (F0 m (pc + 3) ls (.int (wer t0) :: rest))) : W p l e R s m args below meth c H locs cells slots Q (F0 m pc ls (.int x :: .ref (ad 0 0 0) :: rest)) :=
  va_calli (rSW hC hS hG h0 (As := [.ref (ad 0 0 0), .int x]) (c_L_belongs l hfl) ⟨rfl, rfl⟩ wl sm_L_belongs in_L cd_L_belongs (n := 2) (by decide +kernel) hR rfl hsz hst rfl hdg hcs) hS (fun _ _ h => h) (fun _ h => h) (fun r u t H1 locs1 ht _ hr hB _ _ hS1 => by
    subst hr
    have hB9 := hB; try dsimp only at hB9
    rw [ht] at hB9
    rcases hB9 with ⟨q0, rfl, hG1⟩ | ⟨t9, q1, q2, rfl, hG1⟩
    · exact absurd (hcd.symm.trans q0) ht0
    · obtain rfl : t9 = t0 := q2.symm.trans hcd
      exact k1 _ _ hG1 hS1)
set_option maxHeartbeats 4000000 in
set_option maxRecDepth 100000 in
theorem c_L_test (l : Launch) (hfl : l.stackTraces = false) {D : va_G} {cy : Nat → ClassId} {sa : Nat → Nat} {de B : Nat} {ad : Ad} {S : St} {n : Nat → Nat} {T : St} {k : Nat → Nat} {th : Int32} {X : Rl} {x y z : Int32} : Met l yL_test (Cond.codeWith yL_test cL_test 5 (Option.some Jvm.ClassFile.FieldType.int) [((0 : Nat), (7 : Nat), (8 : Nat), (15 : Nat)), ((0 : Nat), (7 : Nat), (13 : Nat), (25 : Nat)), ((0 : Nat), (7 : Nat), (18 : Nat), (51 : Nat))] :: G0) ({ frames := 8, cells := 4, slots := 24, locals := 159 } : Room) (va_Pc [.ref (ad 0 0 0), .int x, .int y, .int z] (PW D cy sa de B ad (Vw cy de ad S n T k th X) (Inv S n ∧ X 19 0 0 = none))) (oI B (fun r H => (cd_test S n x y z = 0 ∧ r = (teS S n (ci x) 9 (ci x) 0) ∧ GW D B ad (Vw cy de ad (teS S n (ci x)) n T k th X) H) ∨ (∃ t9 : Nat, ¬ t9 = 0 ∧ cd_test S n x y z = t9 ∧ r = wer t9 ∧ GW D B ad (Vw cy de ad S n T k th X) H))) 4 24 (AB B) := by
  refine E_metW (own := RL) rfl rfl (Nat.le_of_ble_eq_true rfl) ?_
  intro p e s m below meth c hC hr hlk htab hG h0 ls hl
  have hx := hC.x
  have hb := hC.b
  have hS : va_S (AB B) s.heap s.heap [] := va_S.rf
  have hl : lo ls 5 [some (.ref (ad 0 0 0)), some (.int x), some (.int y), some (.int z), none] := lo_of hl
  refine o_aload_n hx hb dL_test_0 hl rfl ?_
  refine o_iload_n hx hb dL_test_1 hl rfl ?_
  refine o_iload_n hx hb dL_test_2 hl rfl ?_
  refine o_iload_n hx hb dL_test_3 hl rfl ?_
  refine vx_calli (xV hC hS hG h0.1.1 (As := [.int x, .int y, .int z]) (c_X6_test l hfl) ⟨rfl, rfl⟩ ml_L_47 im_X6_test sl_X6_X6_test in_X6 cd_X6_test (n := 3) (by decide +kernel) ⟨(Nat.le_of_ble_eq_true rfl), (Nat.le_of_ble_eq_true rfl)⟩ (recv hC hG (q := (RX6, TX6, 6)) rfl V_games) rfl hl.1 (Nat.le_of_ble_eq_true rfl) rfl dL_test_4 ⟨(Nat.le_of_ble_eq_true rfl), (Nat.le_of_ble_eq_true rfl)⟩) hS (fun _ _ h => h) (fun _ h => h) (fun _ _ h => h) (fun E ce q9 u t H1 locs1 ht hv hp hB hz hq hS1 hce hcv hcl => ?_) (fun r u t H1 locs1 ht _ hr1 hB _ _ hS1 => ?_)
  · (try dsimp only at hB)
    rw [ht] at hB
    obtain ⟨hE, hG1⟩ := hB
    rcases hE with ⟨rfl, hcd⟩ | ⟨rfl, hcd⟩ | ⟨rfl, hcd⟩
    · refine caught hC [] ⟨0, 7, 8, 15⟩ [⟨0, 7, 13, 25⟩, ⟨0, 7, 18, 51⟩] (htab.trans rfl) (fun z hz => absurd hz List.not_mem_nil) rfl (by decide) cl_L_15 (by decide) hce hcv hcl ?_
      refine o_astore hx hb dL_test_8 hl (by decide) rfl (fun ls hl => ?_)
      refine lv_ldc hx hb hC.o (hC.t _ ct_L_17) dL_test_10 ?_
      exact R_I hC hS1 hr hlk rfl (Or.inr ⟨1, by decide, hcd, rfl, hG1⟩) (Nat.le_of_ble_eq_true rfl) (Nat.le_of_ble_eq_true rfl) dL_test_12
    · refine caught hC [⟨0, 7, 8, 15⟩] ⟨0, 7, 13, 25⟩ [⟨0, 7, 18, 51⟩] (htab.trans rfl) (fun z hz => by
            cases List.mem_singleton.mp hz
            exact Or.inr ⟨by decide, _, hC.t _ cl_L_15, hC.k.2.2.2.2.1 (_, _) (by decide)⟩) rfl (by decide) cl_L_25 (by decide) hce hcv hcl ?_
      refine o_astore hx hb dL_test_13 hl (by decide) rfl (fun ls hl => ?_)
      refine lv_ldc hx hb hC.o (hC.t _ ct_L_20) dL_test_15 ?_
      exact R_I hC hS1 hr hlk rfl (Or.inr ⟨2, by decide, hcd, rfl, hG1⟩) (Nat.le_of_ble_eq_true rfl) (Nat.le_of_ble_eq_true rfl) dL_test_17
    · refine caught hC [⟨0, 7, 8, 15⟩, ⟨0, 7, 13, 25⟩] ⟨0, 7, 18, 51⟩ [] (htab.trans rfl) (fun z hz => by
            rcases List.mem_cons.mp hz with h | h
            · cases h; exact Or.inr ⟨by decide, _, hC.t _ cl_L_15, hC.k.2.2.2.2.1 (_, _) (by decide)⟩
            · cases List.mem_singleton.mp h; exact Or.inr ⟨by decide, _, hC.t _ cl_L_25, hC.k.2.2.2.2.1 (_, _) (by decide)⟩) rfl (by decide) cl_L_51 (by decide) hce hcv hcl ?_
      refine o_astore hx hb dL_test_18 hl (by decide) rfl (fun ls hl => ?_)
      refine lv_ldc hx hb hC.o (hC.t _ ct_L_36) dL_test_20 ?_
      exact R_I hC hS1 hr hlk rfl (Or.inr ⟨3, by decide, hcd, rfl, hG1⟩) (Nat.le_of_ble_eq_true rfl) (Nat.le_of_ble_eq_true rfl) dL_test_22
  · subst hr1
    (try dsimp only at hB)
    rw [ht] at hB
    obtain ⟨q0, rfl, hG1⟩ := hB
    exact R_I hC hS1 hr hlk rfl (Or.inl ⟨q0, rfl, hG1⟩) (Nat.le_of_ble_eq_true rfl) (Nat.le_of_ble_eq_true rfl) dL_test_7
theorem kv_L_test {p : Program} {l : Launch} {e : Env} {R : Room} {s : State} {m : MethodId} {args : Array Value} {below : List Frame} {meth : Method} {c : Code} {H : Heap} {locs : List Loc} {cells slots : Nat} {Q : State → Prop} {cc : ByteArray} {pc nL : Nat} {ls : Array Slot} {rest : List Value} {own : String} {D : va_G} {cy : Nat → ClassId} {sa : Nat → Nat} {de B : Nat} {ad : Ad} {S : St} {n : Nat → Nat} {T : St} {k : Nat → Nat} {th : Int32} {X : Rl} {x y z : Int32} (hfl : l.stackTraces = false) (hC : Cx p m c cc nL s args own D cy sa de B) (hS : va_S (AB B) s.heap H locs) (hG : GW D B ad (Vw cy de ad S n T k th X) H) (h0 : Inv S n ∧ X 19 0 0 = none) {idx : Nat} (wl : Cond.methodLink own idx yL_test ∈ G0) (hR : 8 + 1 ≤ R.frames ∧ 8 + (5 + 11) + 159 ≤ R.locals) (hsz : ls.size = nL) (hst : (rest.map fun v => v.category).sum ≤ 8) (hdg : decode cc pc = .ok (.invokestatic idx, 3)) (hcs : cells + 4 ≤ R.cells ∧ slots + 24 ≤ R.slots) (hcd : cd_test S n x y z = 0) (k0 : ∀ (H1 : Heap) (locs1 : List Loc), GW D B ad (Vw cy de ad (teS S n (ci x)) n T k th X) H1 → va_S (AB B) s.heap H1 locs1 → W p l e R s m args below meth c H1 locs1 (cells + 4) (slots + 24) Q (F0 m (pc + 3) ls (.int (teS S n (ci x) 9 (ci x) 0) :: rest))) : W p l e R s m args below meth c H locs cells slots Q (F0 m pc ls (.int z :: .int y :: .int x :: .ref (ad 0 0 0) :: rest)) :=
  va_calli (rSW hC hS hG h0 (As := [.ref (ad 0 0 0), .int x, .int y, .int z]) (c_L_test l hfl) ⟨rfl, rfl⟩ wl sm_L_test in_L cd_L_test (n := 4) (by decide +kernel) hR rfl hsz hst rfl hdg hcs) hS (fun _ _ h => h) (fun _ h => h) (fun r u t H1 locs1 ht _ hr hB _ _ hS1 => by
    subst hr
    have hB9 := hB; try dsimp only at hB9
    rw [ht] at hB9
    rcases hB9 with ⟨q0, rfl, hG1⟩ | ⟨t9, q1, q2, rfl, hG1⟩
    · exact k0 _ _ hG1 hS1
    · exact absurd (q2.symm.trans hcd) q1)
theorem kx_L_test {p : Program} {l : Launch} {e : Env} {R : Room} {s : State} {m : MethodId} {args : Array Value} {below : List Frame} {meth : Method} {c : Code} {H : Heap} {locs : List Loc} {cells slots : Nat} {Q : State → Prop} {cc : ByteArray} {pc nL : Nat} {ls : Array Slot} {rest : List Value} {own : String} {D : va_G} {cy : Nat → ClassId} {sa : Nat → Nat} {de B : Nat} {ad : Ad} {S : St} {n : Nat → Nat} {T : St} {k : Nat → Nat} {th : Int32} {X : Rl} {x y z : Int32} {t0 : Nat} (hfl : l.stackTraces = false) (hC : Cx p m c cc nL s args own D cy sa de B) (hS : va_S (AB B) s.heap H locs) (hG : GW D B ad (Vw cy de ad S n T k th X) H) (h0 : Inv S n ∧ X 19 0 0 = none) {idx : Nat} (wl : Cond.methodLink own idx yL_test ∈ G0) (hR : 8 + 1 ≤ R.frames ∧ 8 + (5 + 11) + 159 ≤ R.locals) (hsz : ls.size = nL) (hst : (rest.map fun v => v.category).sum ≤ 8) (hdg : decode cc pc = .ok (.invokestatic idx, 3)) (hcs : cells + 4 ≤ R.cells ∧ slots + 24 ≤ R.slots) (ht0 : ¬ t0 = 0) (hcd : cd_test S n x y z = t0) (k1 : ∀ (H1 : Heap) (locs1 : List Loc), GW D B ad (Vw cy de ad S n T k th X) H1 → va_S (AB B) s.heap H1 locs1 → W p l e R s m args below meth c H1 locs1 (cells + 4) (slots + 24) Q (F0 m (pc + 3) ls (.int (wer t0) :: rest))) : W p l e R s m args below meth c H locs cells slots Q (F0 m pc ls (.int z :: .int y :: .int x :: .ref (ad 0 0 0) :: rest)) :=
  va_calli (rSW hC hS hG h0 (As := [.ref (ad 0 0 0), .int x, .int y, .int z]) (c_L_test l hfl) ⟨rfl, rfl⟩ wl sm_L_test in_L cd_L_test (n := 4) (by decide +kernel) hR rfl hsz hst rfl hdg hcs) hS (fun _ _ h => h) (fun _ h => h) (fun r u t H1 locs1 ht _ hr hB _ _ hS1 => by
    subst hr
    have hB9 := hB; try dsimp only at hB9
    rw [ht] at hB9
    rcases hB9 with ⟨q0, rfl, hG1⟩ | ⟨t9, q1, q2, rfl, hG1⟩
    · exact absurd (hcd.symm.trans q0) ht0
    · obtain rfl : t9 = t0 := q2.symm.trans hcd
      exact k1 _ _ hG1 hS1)
set_option maxHeartbeats 4000000 in
set_option maxRecDepth 100000 in
theorem c_L_status (l : Launch) (hfl : l.stackTraces = false) {D : va_G} {cy : Nat → ClassId} {sa : Nat → Nat} {de B : Nat} {ad : Ad} {S : St} {n : Nat → Nat} {T : St} {k : Nat → Nat} {th : Int32} {X : Rl} {x : Int32} : Met l yL_status (Cond.codeWith yL_status cL_status 3 (Option.some Jvm.ClassFile.FieldType.int) [((0 : Nat), (5 : Nat), (6 : Nat), (15 : Nat))] :: G0) ({ frames := 8, cells := 1, slots := 6, locals := 124 } : Room) (va_Pc [.ref (ad 0 0 0), .int x] (PW D cy sa de B ad (Vw cy de ad S n T k th X) (Inv S n ∧ X 19 0 0 = none))) (oI B (fun r H => (cd_ath n x = 0 ∧ r = (S 9 (ci x) 0) ∧ GW D B ad (Vw cy de ad S n T k th X) H) ∨ (∃ t9 : Nat, ¬ t9 = 0 ∧ cd_ath n x = t9 ∧ r = wer t9 ∧ GW D B ad (Vw cy de ad S n T k th X) H))) 1 6 (AB B) := by
  refine E_metW (own := RL) rfl rfl (Nat.le_of_ble_eq_true rfl) ?_
  intro p e s m below meth c hC hr hlk htab hG h0 ls hl
  have hx := hC.x
  have hb := hC.b
  have hS : va_S (AB B) s.heap s.heap [] := va_S.rf
  have hl : lo ls 3 [some (.ref (ad 0 0 0)), some (.int x), none] := lo_of hl
  refine o_aload_n hx hb dL_status_0 hl rfl ?_
  refine o_iload_n hx hb dL_status_1 hl rfl ?_
  refine vx_calli (xV hC hS hG h0.1.1 (As := [.int x]) (c_X6_status l hfl) ⟨rfl, rfl⟩ ml_L_53 im_X6_status sl_X6_X6_status in_X6 cd_X6_status (n := 1) (by decide +kernel) ⟨(Nat.le_of_ble_eq_true rfl), (Nat.le_of_ble_eq_true rfl)⟩ (recv hC hG (q := (RX6, TX6, 6)) rfl V_games) rfl hl.1 (Nat.le_of_ble_eq_true rfl) rfl dL_status_2 ⟨(Nat.le_of_ble_eq_true rfl), (Nat.le_of_ble_eq_true rfl)⟩) hS (fun _ _ h => h) (fun _ h => h) (fun _ _ h => h) (fun E ce q9 u t H1 locs1 ht hv hp hB hz hq hS1 hce hcv hcl => ?_) (fun r u t H1 locs1 ht _ hr1 hB _ _ hS1 => ?_)
  · (try dsimp only at hB)
    rw [ht] at hB
    obtain ⟨⟨rfl, hcd⟩, hG1⟩ := hB
    · refine caught hC [] ⟨0, 5, 6, 15⟩ [] (htab.trans rfl) (fun z hz => absurd hz List.not_mem_nil) rfl (by decide) cl_L_15 (by decide) hce hcv hcl ?_
      refine o_astore_n hx hb dL_status_6 hl (by decide) rfl (fun ls hl => ?_)
      refine lv_ldc hx hb hC.o (hC.t _ ct_L_17) dL_status_7 ?_
      exact R_I hC hS1 hr hlk rfl (Or.inr ⟨1, by decide, hcd, rfl, hG1⟩) (Nat.le_of_ble_eq_true rfl) (Nat.le_of_ble_eq_true rfl) dL_status_9
  · subst hr1
    (try dsimp only at hB)
    rw [ht] at hB
    obtain ⟨q0, rfl, hG1⟩ := hB
    exact R_I hC hS1 hr hlk rfl (Or.inl ⟨q0, rfl, hG1⟩) (Nat.le_of_ble_eq_true rfl) (Nat.le_of_ble_eq_true rfl) dL_status_5
theorem kv_L_status {p : Program} {l : Launch} {e : Env} {R : Room} {s : State} {m : MethodId} {args : Array Value} {below : List Frame} {meth : Method} {c : Code} {H : Heap} {locs : List Loc} {cells slots : Nat} {Q : State → Prop} {cc : ByteArray} {pc nL : Nat} {ls : Array Slot} {rest : List Value} {own : String} {D : va_G} {cy : Nat → ClassId} {sa : Nat → Nat} {de B : Nat} {ad : Ad} {S : St} {n : Nat → Nat} {T : St} {k : Nat → Nat} {th : Int32} {X : Rl} {x : Int32} (hfl : l.stackTraces = false) (hC : Cx p m c cc nL s args own D cy sa de B) (hS : va_S (AB B) s.heap H locs) (hG : GW D B ad (Vw cy de ad S n T k th X) H) (h0 : Inv S n ∧ X 19 0 0 = none) {idx : Nat} (wl : Cond.methodLink own idx yL_status ∈ G0) (hR : 8 + 1 ≤ R.frames ∧ 8 + (3 + 11) + 124 ≤ R.locals) (hsz : ls.size = nL) (hst : (rest.map fun v => v.category).sum ≤ 8) (hdg : decode cc pc = .ok (.invokestatic idx, 3)) (hcs : cells + 1 ≤ R.cells ∧ slots + 6 ≤ R.slots) (hcd : cd_ath n x = 0) (k0 : ∀ (H1 : Heap) (locs1 : List Loc), GW D B ad (Vw cy de ad S n T k th X) H1 → va_S (AB B) s.heap H1 locs1 → W p l e R s m args below meth c H1 locs1 (cells + 1) (slots + 6) Q (F0 m (pc + 3) ls (.int (S 9 (ci x) 0) :: rest))) : W p l e R s m args below meth c H locs cells slots Q (F0 m pc ls (.int x :: .ref (ad 0 0 0) :: rest)) :=
  va_calli (rSW hC hS hG h0 (As := [.ref (ad 0 0 0), .int x]) (c_L_status l hfl) ⟨rfl, rfl⟩ wl sm_L_status in_L cd_L_status (n := 2) (by decide +kernel) hR rfl hsz hst rfl hdg hcs) hS (fun _ _ h => h) (fun _ h => h) (fun r u t H1 locs1 ht _ hr hB _ _ hS1 => by
    subst hr
    have hB9 := hB; try dsimp only at hB9
    rw [ht] at hB9
    rcases hB9 with ⟨q0, rfl, hG1⟩ | ⟨t9, q1, q2, rfl, hG1⟩
    · exact k0 _ _ hG1 hS1
    · exact absurd (q2.symm.trans hcd) q1)
theorem kx_L_status {p : Program} {l : Launch} {e : Env} {R : Room} {s : State} {m : MethodId} {args : Array Value} {below : List Frame} {meth : Method} {c : Code} {H : Heap} {locs : List Loc} {cells slots : Nat} {Q : State → Prop} {cc : ByteArray} {pc nL : Nat} {ls : Array Slot} {rest : List Value} {own : String} {D : va_G} {cy : Nat → ClassId} {sa : Nat → Nat} {de B : Nat} {ad : Ad} {S : St} {n : Nat → Nat} {T : St} {k : Nat → Nat} {th : Int32} {X : Rl} {x : Int32} {t0 : Nat} (hfl : l.stackTraces = false) (hC : Cx p m c cc nL s args own D cy sa de B) (hS : va_S (AB B) s.heap H locs) (hG : GW D B ad (Vw cy de ad S n T k th X) H) (h0 : Inv S n ∧ X 19 0 0 = none) {idx : Nat} (wl : Cond.methodLink own idx yL_status ∈ G0) (hR : 8 + 1 ≤ R.frames ∧ 8 + (3 + 11) + 124 ≤ R.locals) (hsz : ls.size = nL) (hst : (rest.map fun v => v.category).sum ≤ 8) (hdg : decode cc pc = .ok (.invokestatic idx, 3)) (hcs : cells + 1 ≤ R.cells ∧ slots + 6 ≤ R.slots) (ht0 : ¬ t0 = 0) (hcd : cd_ath n x = t0) (k1 : ∀ (H1 : Heap) (locs1 : List Loc), GW D B ad (Vw cy de ad S n T k th X) H1 → va_S (AB B) s.heap H1 locs1 → W p l e R s m args below meth c H1 locs1 (cells + 1) (slots + 6) Q (F0 m (pc + 3) ls (.int (wer t0) :: rest))) : W p l e R s m args below meth c H locs cells slots Q (F0 m pc ls (.int x :: .ref (ad 0 0 0) :: rest)) :=
  va_calli (rSW hC hS hG h0 (As := [.ref (ad 0 0 0), .int x]) (c_L_status l hfl) ⟨rfl, rfl⟩ wl sm_L_status in_L cd_L_status (n := 2) (by decide +kernel) hR rfl hsz hst rfl hdg hcs) hS (fun _ _ h => h) (fun _ h => h) (fun r u t H1 locs1 ht _ hr hB _ _ hS1 => by
    subst hr
    have hB9 := hB; try dsimp only at hB9
    rw [ht] at hB9
    rcases hB9 with ⟨q0, rfl, hG1⟩ | ⟨t9, q1, q2, rfl, hG1⟩
    · exact absurd (hcd.symm.trans q0) ht0
    · obtain rfl : t9 = t0 := q2.symm.trans hcd
      exact k1 _ _ hG1 hS1)
set_option maxHeartbeats 4000000 in
set_option maxRecDepth 100000 in
theorem c_L_classOf (l : Launch) (hfl : l.stackTraces = false) {D : va_G} {cy : Nat → ClassId} {sa : Nat → Nat} {de B : Nat} {ad : Ad} {S : St} {n : Nat → Nat} {T : St} {k : Nat → Nat} {th : Int32} {X : Rl} {x : Int32} : Met l yL_classOf (Cond.codeWith yL_classOf cL_classOf 3 (Option.some Jvm.ClassFile.FieldType.int) [((0 : Nat), (5 : Nat), (6 : Nat), (15 : Nat))] :: G0) ({ frames := 8, cells := 1, slots := 6, locals := 124 } : Room) (va_Pc [.ref (ad 0 0 0), .int x] (PW D cy sa de B ad (Vw cy de ad S n T k th X) (Inv S n ∧ X 19 0 0 = none))) (oI B (fun r H => (cd_ath n x = 0 ∧ r = (S 10 (ci x) 0) ∧ GW D B ad (Vw cy de ad S n T k th X) H) ∨ (∃ t9 : Nat, ¬ t9 = 0 ∧ cd_ath n x = t9 ∧ r = wer t9 ∧ GW D B ad (Vw cy de ad S n T k th X) H))) 1 6 (AB B) := by
  refine E_metW (own := RL) rfl rfl (Nat.le_of_ble_eq_true rfl) ?_
  intro p e s m below meth c hC hr hlk htab hG h0 ls hl
  have hx := hC.x
  have hb := hC.b
  have hS : va_S (AB B) s.heap s.heap [] := va_S.rf
  have hl : lo ls 3 [some (.ref (ad 0 0 0)), some (.int x), none] := lo_of hl
  refine o_aload_n hx hb dL_classOf_0 hl rfl ?_
  refine o_iload_n hx hb dL_classOf_1 hl rfl ?_
  refine vx_calli (xV hC hS hG h0.1.1 (As := [.int x]) (c_X6_classOf l hfl) ⟨rfl, rfl⟩ ml_L_57 im_X6_classOf sl_X6_X6_classOf in_X6 cd_X6_classOf (n := 1) (by decide +kernel) ⟨(Nat.le_of_ble_eq_true rfl), (Nat.le_of_ble_eq_true rfl)⟩ (recv hC hG (q := (RX6, TX6, 6)) rfl V_games) rfl hl.1 (Nat.le_of_ble_eq_true rfl) rfl dL_classOf_2 ⟨(Nat.le_of_ble_eq_true rfl), (Nat.le_of_ble_eq_true rfl)⟩) hS (fun _ _ h => h) (fun _ h => h) (fun _ _ h => h) (fun E ce q9 u t H1 locs1 ht hv hp hB hz hq hS1 hce hcv hcl => ?_) (fun r u t H1 locs1 ht _ hr1 hB _ _ hS1 => ?_)
  · (try dsimp only at hB)
    rw [ht] at hB
    obtain ⟨⟨rfl, hcd⟩, hG1⟩ := hB
    · refine caught hC [] ⟨0, 5, 6, 15⟩ [] (htab.trans rfl) (fun z hz => absurd hz List.not_mem_nil) rfl (by decide) cl_L_15 (by decide) hce hcv hcl ?_
      refine o_astore_n hx hb dL_classOf_6 hl (by decide) rfl (fun ls hl => ?_)
      refine lv_ldc hx hb hC.o (hC.t _ ct_L_17) dL_classOf_7 ?_
      exact R_I hC hS1 hr hlk rfl (Or.inr ⟨1, by decide, hcd, rfl, hG1⟩) (Nat.le_of_ble_eq_true rfl) (Nat.le_of_ble_eq_true rfl) dL_classOf_9
  · subst hr1
    (try dsimp only at hB)
    rw [ht] at hB
    obtain ⟨q0, rfl, hG1⟩ := hB
    exact R_I hC hS1 hr hlk rfl (Or.inl ⟨q0, rfl, hG1⟩) (Nat.le_of_ble_eq_true rfl) (Nat.le_of_ble_eq_true rfl) dL_classOf_5
theorem kv_L_classOf {p : Program} {l : Launch} {e : Env} {R : Room} {s : State} {m : MethodId} {args : Array Value} {below : List Frame} {meth : Method} {c : Code} {H : Heap} {locs : List Loc} {cells slots : Nat} {Q : State → Prop} {cc : ByteArray} {pc nL : Nat} {ls : Array Slot} {rest : List Value} {own : String} {D : va_G} {cy : Nat → ClassId} {sa : Nat → Nat} {de B : Nat} {ad : Ad} {S : St} {n : Nat → Nat} {T : St} {k : Nat → Nat} {th : Int32} {X : Rl} {x : Int32} (hfl : l.stackTraces = false) (hC : Cx p m c cc nL s args own D cy sa de B) (hS : va_S (AB B) s.heap H locs) (hG : GW D B ad (Vw cy de ad S n T k th X) H) (h0 : Inv S n ∧ X 19 0 0 = none) {idx : Nat} (wl : Cond.methodLink own idx yL_classOf ∈ G0) (hR : 8 + 1 ≤ R.frames ∧ 8 + (3 + 11) + 124 ≤ R.locals) (hsz : ls.size = nL) (hst : (rest.map fun v => v.category).sum ≤ 8) (hdg : decode cc pc = .ok (.invokestatic idx, 3)) (hcs : cells + 1 ≤ R.cells ∧ slots + 6 ≤ R.slots) (hcd : cd_ath n x = 0) (k0 : ∀ (H1 : Heap) (locs1 : List Loc), GW D B ad (Vw cy de ad S n T k th X) H1 → va_S (AB B) s.heap H1 locs1 → W p l e R s m args below meth c H1 locs1 (cells + 1) (slots + 6) Q (F0 m (pc + 3) ls (.int (S 10 (ci x) 0) :: rest))) : W p l e R s m args below meth c H locs cells slots Q (F0 m pc ls (.int x :: .ref (ad 0 0 0) :: rest)) :=
  va_calli (rSW hC hS hG h0 (As := [.ref (ad 0 0 0), .int x]) (c_L_classOf l hfl) ⟨rfl, rfl⟩ wl sm_L_classOf in_L cd_L_classOf (n := 2) (by decide +kernel) hR rfl hsz hst rfl hdg hcs) hS (fun _ _ h => h) (fun _ h => h) (fun r u t H1 locs1 ht _ hr hB _ _ hS1 => by
    subst hr
    have hB9 := hB; try dsimp only at hB9
    rw [ht] at hB9
    rcases hB9 with ⟨q0, rfl, hG1⟩ | ⟨t9, q1, q2, rfl, hG1⟩
    · exact k0 _ _ hG1 hS1
    · exact absurd (q2.symm.trans hcd) q1)
theorem kx_L_classOf {p : Program} {l : Launch} {e : Env} {R : Room} {s : State} {m : MethodId} {args : Array Value} {below : List Frame} {meth : Method} {c : Code} {H : Heap} {locs : List Loc} {cells slots : Nat} {Q : State → Prop} {cc : ByteArray} {pc nL : Nat} {ls : Array Slot} {rest : List Value} {own : String} {D : va_G} {cy : Nat → ClassId} {sa : Nat → Nat} {de B : Nat} {ad : Ad} {S : St} {n : Nat → Nat} {T : St} {k : Nat → Nat} {th : Int32} {X : Rl} {x : Int32} {t0 : Nat} (hfl : l.stackTraces = false) (hC : Cx p m c cc nL s args own D cy sa de B) (hS : va_S (AB B) s.heap H locs) (hG : GW D B ad (Vw cy de ad S n T k th X) H) (h0 : Inv S n ∧ X 19 0 0 = none) {idx : Nat} (wl : Cond.methodLink own idx yL_classOf ∈ G0) (hR : 8 + 1 ≤ R.frames ∧ 8 + (3 + 11) + 124 ≤ R.locals) (hsz : ls.size = nL) (hst : (rest.map fun v => v.category).sum ≤ 8) (hdg : decode cc pc = .ok (.invokestatic idx, 3)) (hcs : cells + 1 ≤ R.cells ∧ slots + 6 ≤ R.slots) (ht0 : ¬ t0 = 0) (hcd : cd_ath n x = t0) (k1 : ∀ (H1 : Heap) (locs1 : List Loc), GW D B ad (Vw cy de ad S n T k th X) H1 → va_S (AB B) s.heap H1 locs1 → W p l e R s m args below meth c H1 locs1 (cells + 1) (slots + 6) Q (F0 m (pc + 3) ls (.int (wer t0) :: rest))) : W p l e R s m args below meth c H locs cells slots Q (F0 m pc ls (.int x :: .ref (ad 0 0 0) :: rest)) :=
  va_calli (rSW hC hS hG h0 (As := [.ref (ad 0 0 0), .int x]) (c_L_classOf l hfl) ⟨rfl, rfl⟩ wl sm_L_classOf in_L cd_L_classOf (n := 2) (by decide +kernel) hR rfl hsz hst rfl hdg hcs) hS (fun _ _ h => h) (fun _ h => h) (fun r u t H1 locs1 ht _ hr hB _ _ hS1 => by
    subst hr
    have hB9 := hB; try dsimp only at hB9
    rw [ht] at hB9
    rcases hB9 with ⟨q0, rfl, hG1⟩ | ⟨t9, q1, q2, rfl, hG1⟩
    · exact absurd (hcd.symm.trans q0) ht0
    · obtain rfl : t9 = t0 := q2.symm.trans hcd
      exact k1 _ _ hG1 hS1)
set_option maxHeartbeats 4000000 in
set_option maxRecDepth 100000 in
theorem c_L_watch (l : Launch) (hfl : l.stackTraces = false) {D : va_G} {cy : Nat → ClassId} {sa : Nat → Nat} {de B : Nat} {ad : Ad} {S : St} {n : Nat → Nat} {T : St} {k : Nat → Nat} {th : Int32} {X : Rl} {x : Int32} : Met l yL_watch (Cond.codeWith yL_watch cL_watch 3 (Option.some Jvm.ClassFile.FieldType.int) [((0 : Nat), (5 : Nat), (6 : Nat), (15 : Nat)), ((0 : Nat), (5 : Nat), (10 : Nat), (51 : Nat))] :: G0) ({ frames := 8, cells := 2, slots := 12, locals := 177 } : Room) (va_Pc [.ref (ad 0 0 0), .int x] (PW D cy sa de B ad (Vw cy de ad S n T k th X) (Inv S n ∧ X 19 0 0 = none))) (oI B (fun r H => (cd_watch S n x = 0 ∧ r = (exJ S n (ci x) 9 (ci x) 0) ∧ GW D B ad (Vw cy de ad (exJ S n (ci x)) n T k th X) H) ∨ (∃ t9 : Nat, ¬ t9 = 0 ∧ cd_watch S n x = t9 ∧ r = wer t9 ∧ GW D B ad (Vw cy de ad S n T k th X) H))) 2 12 (AB B) := by
  refine E_metW (own := RL) rfl rfl (Nat.le_of_ble_eq_true rfl) ?_
  intro p e s m below meth c hC hr hlk htab hG h0 ls hl
  have hx := hC.x
  have hb := hC.b
  have hS : va_S (AB B) s.heap s.heap [] := va_S.rf
  have hl : lo ls 3 [some (.ref (ad 0 0 0)), some (.int x), none] := lo_of hl
  refine o_aload_n hx hb dL_watch_0 hl rfl ?_
  refine o_iload_n hx hb dL_watch_1 hl rfl ?_
  refine vx_calli (xV hC hS hG h0.1.1 (As := [.int x]) (c_X6_watch l hfl) ⟨rfl, rfl⟩ ml_L_60 im_X6_watch sl_X6_X6_watch in_X6 cd_X6_watch (n := 1) (by decide +kernel) ⟨(Nat.le_of_ble_eq_true rfl), (Nat.le_of_ble_eq_true rfl)⟩ (recv hC hG (q := (RX6, TX6, 6)) rfl V_games) rfl hl.1 (Nat.le_of_ble_eq_true rfl) rfl dL_watch_2 ⟨(Nat.le_of_ble_eq_true rfl), (Nat.le_of_ble_eq_true rfl)⟩) hS (fun _ _ h => h) (fun _ h => h) (fun _ _ h => h) (fun E ce q9 u t H1 locs1 ht hv hp hB hz hq hS1 hce hcv hcl => ?_) (fun r u t H1 locs1 ht _ hr1 hB _ _ hS1 => ?_)
  · (try dsimp only at hB)
    rw [ht] at hB
    obtain ⟨hE, hG1⟩ := hB
    rcases hE with ⟨rfl, hcd⟩ | ⟨rfl, hcd⟩
    · refine caught hC [] ⟨0, 5, 6, 15⟩ [⟨0, 5, 10, 51⟩] (htab.trans rfl) (fun z hz => absurd hz List.not_mem_nil) rfl (by decide) cl_L_15 (by decide) hce hcv hcl ?_
      refine o_astore_n hx hb dL_watch_6 hl (by decide) rfl (fun ls hl => ?_)
      refine lv_ldc hx hb hC.o (hC.t _ ct_L_17) dL_watch_7 ?_
      exact R_I hC hS1 hr hlk rfl (Or.inr ⟨1, by decide, hcd, rfl, hG1⟩) (Nat.le_of_ble_eq_true rfl) (Nat.le_of_ble_eq_true rfl) dL_watch_9
    · refine caught hC [⟨0, 5, 6, 15⟩] ⟨0, 5, 10, 51⟩ [] (htab.trans rfl) (fun z hz => by
            cases List.mem_singleton.mp hz
            exact Or.inr ⟨by decide, _, hC.t _ cl_L_15, hC.k.2.2.2.2.1 (_, _) (by decide)⟩) rfl (by decide) cl_L_51 (by decide) hce hcv hcl ?_
      refine o_astore_n hx hb dL_watch_10 hl (by decide) rfl (fun ls hl => ?_)
      refine lv_ldc hx hb hC.o (hC.t _ ct_L_20) dL_watch_11 ?_
      exact R_I hC hS1 hr hlk rfl (Or.inr ⟨2, by decide, hcd, rfl, hG1⟩) (Nat.le_of_ble_eq_true rfl) (Nat.le_of_ble_eq_true rfl) dL_watch_13
  · subst hr1
    (try dsimp only at hB)
    rw [ht] at hB
    obtain ⟨q0, rfl, hG1⟩ := hB
    exact R_I hC hS1 hr hlk rfl (Or.inl ⟨q0, rfl, hG1⟩) (Nat.le_of_ble_eq_true rfl) (Nat.le_of_ble_eq_true rfl) dL_watch_5
theorem kv_L_watch {p : Program} {l : Launch} {e : Env} {R : Room} {s : State} {m : MethodId} {args : Array Value} {below : List Frame} {meth : Method} {c : Code} {H : Heap} {locs : List Loc} {cells slots : Nat} {Q : State → Prop} {cc : ByteArray} {pc nL : Nat} {ls : Array Slot} {rest : List Value} {own : String} {D : va_G} {cy : Nat → ClassId} {sa : Nat → Nat} {de B : Nat} {ad : Ad} {S : St} {n : Nat → Nat} {T : St} {k : Nat → Nat} {th : Int32} {X : Rl} {x : Int32} (hfl : l.stackTraces = false) (hC : Cx p m c cc nL s args own D cy sa de B) (hS : va_S (AB B) s.heap H locs) (hG : GW D B ad (Vw cy de ad S n T k th X) H) (h0 : Inv S n ∧ X 19 0 0 = none) {idx : Nat} (wl : Cond.methodLink own idx yL_watch ∈ G0) (hR : 8 + 1 ≤ R.frames ∧ 8 + (3 + 11) + 177 ≤ R.locals) (hsz : ls.size = nL) (hst : (rest.map fun v => v.category).sum ≤ 8) (hdg : decode cc pc = .ok (.invokestatic idx, 3)) (hcs : cells + 2 ≤ R.cells ∧ slots + 12 ≤ R.slots) (hcd : cd_watch S n x = 0) (k0 : ∀ (H1 : Heap) (locs1 : List Loc), GW D B ad (Vw cy de ad (exJ S n (ci x)) n T k th X) H1 → va_S (AB B) s.heap H1 locs1 → W p l e R s m args below meth c H1 locs1 (cells + 2) (slots + 12) Q (F0 m (pc + 3) ls (.int (exJ S n (ci x) 9 (ci x) 0) :: rest))) : W p l e R s m args below meth c H locs cells slots Q (F0 m pc ls (.int x :: .ref (ad 0 0 0) :: rest)) :=
  va_calli (rSW hC hS hG h0 (As := [.ref (ad 0 0 0), .int x]) (c_L_watch l hfl) ⟨rfl, rfl⟩ wl sm_L_watch in_L cd_L_watch (n := 2) (by decide +kernel) hR rfl hsz hst rfl hdg hcs) hS (fun _ _ h => h) (fun _ h => h) (fun r u t H1 locs1 ht _ hr hB _ _ hS1 => by
    subst hr
    have hB9 := hB; try dsimp only at hB9
    rw [ht] at hB9
    rcases hB9 with ⟨q0, rfl, hG1⟩ | ⟨t9, q1, q2, rfl, hG1⟩
    · exact k0 _ _ hG1 hS1
    · exact absurd (q2.symm.trans hcd) q1)
theorem kx_L_watch {p : Program} {l : Launch} {e : Env} {R : Room} {s : State} {m : MethodId} {args : Array Value} {below : List Frame} {meth : Method} {c : Code} {H : Heap} {locs : List Loc} {cells slots : Nat} {Q : State → Prop} {cc : ByteArray} {pc nL : Nat} {ls : Array Slot} {rest : List Value} {own : String} {D : va_G} {cy : Nat → ClassId} {sa : Nat → Nat} {de B : Nat} {ad : Ad} {S : St} {n : Nat → Nat} {T : St} {k : Nat → Nat} {th : Int32} {X : Rl} {x : Int32} {t0 : Nat} (hfl : l.stackTraces = false) (hC : Cx p m c cc nL s args own D cy sa de B) (hS : va_S (AB B) s.heap H locs) (hG : GW D B ad (Vw cy de ad S n T k th X) H) (h0 : Inv S n ∧ X 19 0 0 = none) {idx : Nat} (wl : Cond.methodLink own idx yL_watch ∈ G0) (hR : 8 + 1 ≤ R.frames ∧ 8 + (3 + 11) + 177 ≤ R.locals) (hsz : ls.size = nL) (hst : (rest.map fun v => v.category).sum ≤ 8) (hdg : decode cc pc = .ok (.invokestatic idx, 3)) (hcs : cells + 2 ≤ R.cells ∧ slots + 12 ≤ R.slots) (ht0 : ¬ t0 = 0) (hcd : cd_watch S n x = t0) (k1 : ∀ (H1 : Heap) (locs1 : List Loc), GW D B ad (Vw cy de ad S n T k th X) H1 → va_S (AB B) s.heap H1 locs1 → W p l e R s m args below meth c H1 locs1 (cells + 2) (slots + 12) Q (F0 m (pc + 3) ls (.int (wer t0) :: rest))) : W p l e R s m args below meth c H locs cells slots Q (F0 m pc ls (.int x :: .ref (ad 0 0 0) :: rest)) :=
  va_calli (rSW hC hS hG h0 (As := [.ref (ad 0 0 0), .int x]) (c_L_watch l hfl) ⟨rfl, rfl⟩ wl sm_L_watch in_L cd_L_watch (n := 2) (by decide +kernel) hR rfl hsz hst rfl hdg hcs) hS (fun _ _ h => h) (fun _ h => h) (fun r u t H1 locs1 ht _ hr hB _ _ hS1 => by
    subst hr
    have hB9 := hB; try dsimp only at hB9
    rw [ht] at hB9
    rcases hB9 with ⟨q0, rfl, hG1⟩ | ⟨t9, q1, q2, rfl, hG1⟩
    · exact absurd (hcd.symm.trans q0) ht0
    · obtain rfl : t9 = t0 := q2.symm.trans hcd
      exact k1 _ _ hG1 hS1)
set_option maxHeartbeats 4000000 in
set_option maxRecDepth 100000 in
theorem c_L_money (l : Launch) (hfl : l.stackTraces = false) {D : va_G} {cy : Nat → ClassId} {sa : Nat → Nat} {de B : Nat} {ad : Ad} {S : St} {n : Nat → Nat} {T : St} {k : Nat → Nat} {th : Int32} {X : Rl} {x : Int32} : Met l yL_money (Cond.codeWith yL_money cL_money 3 (Option.some Jvm.ClassFile.FieldType.int) [((0 : Nat), (5 : Nat), (6 : Nat), (15 : Nat))] :: G0) ({ frames := 8, cells := 1, slots := 6, locals := 123 } : Room) (va_Pc [.ref (ad 0 0 0), .int x] (PW D cy sa de B ad (Vw cy de ad S n T k th X) (Inv S n ∧ X 19 0 0 = none))) (oI B (fun r H => (cd_money x = 0 ∧ r = (S 15 (ci x) 0) ∧ GW D B ad (Vw cy de ad S n T k th X) H) ∨ (∃ t9 : Nat, ¬ t9 = 0 ∧ cd_money x = t9 ∧ r = wer t9 ∧ GW D B ad (Vw cy de ad S n T k th X) H))) 1 6 (AB B) := by
  refine E_metW (own := RL) rfl rfl (Nat.le_of_ble_eq_true rfl) ?_
  intro p e s m below meth c hC hr hlk htab hG h0 ls hl
  have hx := hC.x
  have hb := hC.b
  have hS : va_S (AB B) s.heap s.heap [] := va_S.rf
  have hl : lo ls 3 [some (.ref (ad 0 0 0)), some (.int x), none] := lo_of hl
  refine o_aload_n hx hb dL_money_0 hl rfl ?_
  refine o_iload_n hx hb dL_money_1 hl rfl ?_
  refine vx_calli (xV hC hS hG h0.1.1 (As := [.int x]) (c_X6_money l hfl) ⟨rfl, rfl⟩ ml_L_63 im_X6_money sl_X6_X6_money in_X6 cd_X6_money (n := 1) (by decide +kernel) ⟨(Nat.le_of_ble_eq_true rfl), (Nat.le_of_ble_eq_true rfl)⟩ (recv hC hG (q := (RX6, TX6, 6)) rfl V_games) rfl hl.1 (Nat.le_of_ble_eq_true rfl) rfl dL_money_2 ⟨(Nat.le_of_ble_eq_true rfl), (Nat.le_of_ble_eq_true rfl)⟩) hS (fun _ _ h => h) (fun _ h => h) (fun _ _ h => h) (fun E ce q9 u t H1 locs1 ht hv hp hB hz hq hS1 hce hcv hcl => ?_) (fun r u t H1 locs1 ht _ hr1 hB _ _ hS1 => ?_)
  · (try dsimp only at hB)
    rw [ht] at hB
    obtain ⟨⟨rfl, hcd⟩, hG1⟩ := hB
    · refine caught hC [] ⟨0, 5, 6, 15⟩ [] (htab.trans rfl) (fun z hz => absurd hz List.not_mem_nil) rfl (by decide) cl_L_15 (by decide) hce hcv hcl ?_
      refine o_astore_n hx hb dL_money_6 hl (by decide) rfl (fun ls hl => ?_)
      refine lv_ldc hx hb hC.o (hC.t _ ct_L_17) dL_money_7 ?_
      exact R_I hC hS1 hr hlk rfl (Or.inr ⟨1, by decide, hcd, rfl, hG1⟩) (Nat.le_of_ble_eq_true rfl) (Nat.le_of_ble_eq_true rfl) dL_money_9
  · subst hr1
    (try dsimp only at hB)
    rw [ht] at hB
    obtain ⟨q0, rfl, hG1⟩ := hB
    exact R_I hC hS1 hr hlk rfl (Or.inl ⟨q0, rfl, hG1⟩) (Nat.le_of_ble_eq_true rfl) (Nat.le_of_ble_eq_true rfl) dL_money_5
theorem kv_L_money {p : Program} {l : Launch} {e : Env} {R : Room} {s : State} {m : MethodId} {args : Array Value} {below : List Frame} {meth : Method} {c : Code} {H : Heap} {locs : List Loc} {cells slots : Nat} {Q : State → Prop} {cc : ByteArray} {pc nL : Nat} {ls : Array Slot} {rest : List Value} {own : String} {D : va_G} {cy : Nat → ClassId} {sa : Nat → Nat} {de B : Nat} {ad : Ad} {S : St} {n : Nat → Nat} {T : St} {k : Nat → Nat} {th : Int32} {X : Rl} {x : Int32} (hfl : l.stackTraces = false) (hC : Cx p m c cc nL s args own D cy sa de B) (hS : va_S (AB B) s.heap H locs) (hG : GW D B ad (Vw cy de ad S n T k th X) H) (h0 : Inv S n ∧ X 19 0 0 = none) {idx : Nat} (wl : Cond.methodLink own idx yL_money ∈ G0) (hR : 8 + 1 ≤ R.frames ∧ 8 + (3 + 11) + 123 ≤ R.locals) (hsz : ls.size = nL) (hst : (rest.map fun v => v.category).sum ≤ 8) (hdg : decode cc pc = .ok (.invokestatic idx, 3)) (hcs : cells + 1 ≤ R.cells ∧ slots + 6 ≤ R.slots) (hcd : cd_money x = 0) (k0 : ∀ (H1 : Heap) (locs1 : List Loc), GW D B ad (Vw cy de ad S n T k th X) H1 → va_S (AB B) s.heap H1 locs1 → W p l e R s m args below meth c H1 locs1 (cells + 1) (slots + 6) Q (F0 m (pc + 3) ls (.int (S 15 (ci x) 0) :: rest))) : W p l e R s m args below meth c H locs cells slots Q (F0 m pc ls (.int x :: .ref (ad 0 0 0) :: rest)) :=
  va_calli (rSW hC hS hG h0 (As := [.ref (ad 0 0 0), .int x]) (c_L_money l hfl) ⟨rfl, rfl⟩ wl sm_L_money in_L cd_L_money (n := 2) (by decide +kernel) hR rfl hsz hst rfl hdg hcs) hS (fun _ _ h => h) (fun _ h => h) (fun r u t H1 locs1 ht _ hr hB _ _ hS1 => by
    subst hr
    have hB9 := hB; try dsimp only at hB9
    rw [ht] at hB9
    rcases hB9 with ⟨q0, rfl, hG1⟩ | ⟨t9, q1, q2, rfl, hG1⟩
    · exact k0 _ _ hG1 hS1
    · exact absurd (q2.symm.trans hcd) q1)
theorem kx_L_money {p : Program} {l : Launch} {e : Env} {R : Room} {s : State} {m : MethodId} {args : Array Value} {below : List Frame} {meth : Method} {c : Code} {H : Heap} {locs : List Loc} {cells slots : Nat} {Q : State → Prop} {cc : ByteArray} {pc nL : Nat} {ls : Array Slot} {rest : List Value} {own : String} {D : va_G} {cy : Nat → ClassId} {sa : Nat → Nat} {de B : Nat} {ad : Ad} {S : St} {n : Nat → Nat} {T : St} {k : Nat → Nat} {th : Int32} {X : Rl} {x : Int32} {t0 : Nat} (hfl : l.stackTraces = false) (hC : Cx p m c cc nL s args own D cy sa de B) (hS : va_S (AB B) s.heap H locs) (hG : GW D B ad (Vw cy de ad S n T k th X) H) (h0 : Inv S n ∧ X 19 0 0 = none) {idx : Nat} (wl : Cond.methodLink own idx yL_money ∈ G0) (hR : 8 + 1 ≤ R.frames ∧ 8 + (3 + 11) + 123 ≤ R.locals) (hsz : ls.size = nL) (hst : (rest.map fun v => v.category).sum ≤ 8) (hdg : decode cc pc = .ok (.invokestatic idx, 3)) (hcs : cells + 1 ≤ R.cells ∧ slots + 6 ≤ R.slots) (ht0 : ¬ t0 = 0) (hcd : cd_money x = t0) (k1 : ∀ (H1 : Heap) (locs1 : List Loc), GW D B ad (Vw cy de ad S n T k th X) H1 → va_S (AB B) s.heap H1 locs1 → W p l e R s m args below meth c H1 locs1 (cells + 1) (slots + 6) Q (F0 m (pc + 3) ls (.int (wer t0) :: rest))) : W p l e R s m args below meth c H locs cells slots Q (F0 m pc ls (.int x :: .ref (ad 0 0 0) :: rest)) :=
  va_calli (rSW hC hS hG h0 (As := [.ref (ad 0 0 0), .int x]) (c_L_money l hfl) ⟨rfl, rfl⟩ wl sm_L_money in_L cd_L_money (n := 2) (by decide +kernel) hR rfl hsz hst rfl hdg hcs) hS (fun _ _ h => h) (fun _ h => h) (fun r u t H1 locs1 ht _ hr hB _ _ hS1 => by
    subst hr
    have hB9 := hB; try dsimp only at hB9
    rw [ht] at hB9
    rcases hB9 with ⟨q0, rfl, hG1⟩ | ⟨t9, q1, q2, rfl, hG1⟩
    · exact absurd (hcd.symm.trans q0) ht0
    · obtain rfl : t9 = t0 := q2.symm.trans hcd
      exact k1 _ _ hG1 hS1)
set_option maxHeartbeats 4000000 in
set_option maxRecDepth 100000 in
theorem c_L_next (l : Launch) (hfl : l.stackTraces = false) {D : va_G} {cy : Nat → ClassId} {sa : Nat → Nat} {de B : Nat} {ad : Ad} {S : St} {n : Nat → Nat} {T : St} {k : Nat → Nat} {th : Int32} {X : Rl} : Met l yL_next (Cond.codeWith yL_next cL_next 2 (Option.some Jvm.ClassFile.FieldType.int) [((0 : Nat), (4 : Nat), (5 : Nat), (18 : Nat))] :: G0) ({ frames := 8, cells := 1, slots := 6, locals := 176 } : Room) (va_Pc [.ref (ad 0 0 0)] (PW D cy sa de B ad (Vw cy de ad S n T k th X) (Inv S n ∧ X 19 0 0 = none))) (oI B (fun r H => (cd_next S = 0 ∧ r = (nxtS S n 23 0 0) ∧ GW D B ad (Vw cy de ad (nxtS S n) n T k th X) H) ∨ (∃ t9 : Nat, ¬ t9 = 0 ∧ cd_next S = t9 ∧ r = wer t9 ∧ GW D B ad (Vw cy de ad S n T k th X) H))) 1 6 (AB B) := by
  refine E_metW (own := RL) rfl rfl (Nat.le_of_ble_eq_true rfl) ?_
  intro p e s m below meth c hC hr hlk htab hG h0 ls hl
  have hx := hC.x
  have hb := hC.b
  have hS : va_S (AB B) s.heap s.heap [] := va_S.rf
  have hl : lo ls 2 [some (.ref (ad 0 0 0)), none] := lo_of hl
  refine o_aload_n hx hb dL_next_0 hl rfl ?_
  refine vx_calli (xV hC hS hG h0.1.1 (As := []) (c_X6_next l hfl) ⟨rfl, rfl⟩ ml_L_66 im_X6_next sl_X6_X6_next in_X6 cd_X6_next (n := 0) (by decide +kernel) ⟨(Nat.le_of_ble_eq_true rfl), (Nat.le_of_ble_eq_true rfl)⟩ (recv hC hG (q := (RX6, TX6, 6)) rfl V_games) rfl hl.1 (Nat.le_of_ble_eq_true rfl) rfl dL_next_1 ⟨(Nat.le_of_ble_eq_true rfl), (Nat.le_of_ble_eq_true rfl)⟩) hS (fun _ _ h => h) (fun _ h => h) (fun _ _ h => h) (fun E ce q9 u t H1 locs1 ht hv hp hB hz hq hS1 hce hcv hcl => ?_) (fun r u t H1 locs1 ht _ hr1 hB _ _ hS1 => ?_)
  · (try dsimp only at hB)
    rw [ht] at hB
    obtain ⟨⟨rfl, hcd⟩, hG1⟩ := hB
    · refine caught hC [] ⟨0, 4, 5, 18⟩ [] (htab.trans rfl) (fun z hz => absurd hz List.not_mem_nil) rfl (by decide) cl_L_18 (by decide) hce hcv hcl ?_
      refine o_astore_n hx hb dL_next_5 hl (by decide) rfl (fun ls hl => ?_)
      refine lv_ldc hx hb hC.o (hC.t _ ct_L_17) dL_next_6 ?_
      exact R_I hC hS1 hr hlk rfl (Or.inr ⟨1, by decide, hcd, rfl, hG1⟩) (Nat.le_of_ble_eq_true rfl) (Nat.le_of_ble_eq_true rfl) dL_next_8
  · subst hr1
    (try dsimp only at hB)
    rw [ht] at hB
    obtain ⟨q0, rfl, hG1⟩ := hB
    exact R_I hC hS1 hr hlk rfl (Or.inl ⟨q0, rfl, hG1⟩) (Nat.le_of_ble_eq_true rfl) (Nat.le_of_ble_eq_true rfl) dL_next_4
theorem kv_L_next {p : Program} {l : Launch} {e : Env} {R : Room} {s : State} {m : MethodId} {args : Array Value} {below : List Frame} {meth : Method} {c : Code} {H : Heap} {locs : List Loc} {cells slots : Nat} {Q : State → Prop} {cc : ByteArray} {pc nL : Nat} {ls : Array Slot} {rest : List Value} {own : String} {D : va_G} {cy : Nat → ClassId} {sa : Nat → Nat} {de B : Nat} {ad : Ad} {S : St} {n : Nat → Nat} {T : St} {k : Nat → Nat} {th : Int32} {X : Rl} (hfl : l.stackTraces = false) (hC : Cx p m c cc nL s args own D cy sa de B) (hS : va_S (AB B) s.heap H locs) (hG : GW D B ad (Vw cy de ad S n T k th X) H) (h0 : Inv S n ∧ X 19 0 0 = none) {idx : Nat} (wl : Cond.methodLink own idx yL_next ∈ G0) (hR : 8 + 1 ≤ R.frames ∧ 8 + (2 + 11) + 176 ≤ R.locals) (hsz : ls.size = nL) (hst : (rest.map fun v => v.category).sum ≤ 8) (hdg : decode cc pc = .ok (.invokestatic idx, 3)) (hcs : cells + 1 ≤ R.cells ∧ slots + 6 ≤ R.slots) (hcd : cd_next S = 0) (k0 : ∀ (H1 : Heap) (locs1 : List Loc), GW D B ad (Vw cy de ad (nxtS S n) n T k th X) H1 → va_S (AB B) s.heap H1 locs1 → W p l e R s m args below meth c H1 locs1 (cells + 1) (slots + 6) Q (F0 m (pc + 3) ls (.int (nxtS S n 23 0 0) :: rest))) : W p l e R s m args below meth c H locs cells slots Q (F0 m pc ls (.ref (ad 0 0 0) :: rest)) :=
  va_calli (rSW hC hS hG h0 (As := [.ref (ad 0 0 0)]) (c_L_next l hfl) ⟨rfl, rfl⟩ wl sm_L_next in_L cd_L_next (n := 1) (by decide +kernel) hR rfl hsz hst rfl hdg hcs) hS (fun _ _ h => h) (fun _ h => h) (fun r u t H1 locs1 ht _ hr hB _ _ hS1 => by
    subst hr
    have hB9 := hB; try dsimp only at hB9
    rw [ht] at hB9
    rcases hB9 with ⟨q0, rfl, hG1⟩ | ⟨t9, q1, q2, rfl, hG1⟩
    · exact k0 _ _ hG1 hS1
    · exact absurd (q2.symm.trans hcd) q1)
theorem kx_L_next {p : Program} {l : Launch} {e : Env} {R : Room} {s : State} {m : MethodId} {args : Array Value} {below : List Frame} {meth : Method} {c : Code} {H : Heap} {locs : List Loc} {cells slots : Nat} {Q : State → Prop} {cc : ByteArray} {pc nL : Nat} {ls : Array Slot} {rest : List Value} {own : String} {D : va_G} {cy : Nat → ClassId} {sa : Nat → Nat} {de B : Nat} {ad : Ad} {S : St} {n : Nat → Nat} {T : St} {k : Nat → Nat} {th : Int32} {X : Rl} {t0 : Nat} (hfl : l.stackTraces = false) (hC : Cx p m c cc nL s args own D cy sa de B) (hS : va_S (AB B) s.heap H locs) (hG : GW D B ad (Vw cy de ad S n T k th X) H) (h0 : Inv S n ∧ X 19 0 0 = none) {idx : Nat} (wl : Cond.methodLink own idx yL_next ∈ G0) (hR : 8 + 1 ≤ R.frames ∧ 8 + (2 + 11) + 176 ≤ R.locals) (hsz : ls.size = nL) (hst : (rest.map fun v => v.category).sum ≤ 8) (hdg : decode cc pc = .ok (.invokestatic idx, 3)) (hcs : cells + 1 ≤ R.cells ∧ slots + 6 ≤ R.slots) (ht0 : ¬ t0 = 0) (hcd : cd_next S = t0) (k1 : ∀ (H1 : Heap) (locs1 : List Loc), GW D B ad (Vw cy de ad S n T k th X) H1 → va_S (AB B) s.heap H1 locs1 → W p l e R s m args below meth c H1 locs1 (cells + 1) (slots + 6) Q (F0 m (pc + 3) ls (.int (wer t0) :: rest))) : W p l e R s m args below meth c H locs cells slots Q (F0 m pc ls (.ref (ad 0 0 0) :: rest)) :=
  va_calli (rSW hC hS hG h0 (As := [.ref (ad 0 0 0)]) (c_L_next l hfl) ⟨rfl, rfl⟩ wl sm_L_next in_L cd_L_next (n := 1) (by decide +kernel) hR rfl hsz hst rfl hdg hcs) hS (fun _ _ h => h) (fun _ h => h) (fun r u t H1 locs1 ht _ hr hB _ _ hS1 => by
    subst hr
    have hB9 := hB; try dsimp only at hB9
    rw [ht] at hB9
    rcases hB9 with ⟨q0, rfl, hG1⟩ | ⟨t9, q1, q2, rfl, hG1⟩
    · exact absurd (hcd.symm.trans q0) ht0
    · obtain rfl : t9 = t0 := q2.symm.trans hcd
      exact k1 _ _ hG1 hS1)
set_option maxHeartbeats 4000000 in
set_option maxRecDepth 100000 in
theorem c_L_until (l : Launch) (hfl : l.stackTraces = false) {D : va_G} {cy : Nat → ClassId} {sa : Nat → Nat} {de B : Nat} {ad : Ad} {S : St} {n : Nat → Nat} {T : St} {k : Nat → Nat} {th : Int32} {X : Rl} {x : Int32} : Met l yL_until (Cond.codeWith yL_until cL_until 3 (Option.some Jvm.ClassFile.FieldType.int) [((0 : Nat), (5 : Nat), (6 : Nat), (15 : Nat)), ((0 : Nat), (5 : Nat), (10 : Nat), (34 : Nat))] :: G0) ({ frames := 8, cells := 2, slots := 12, locals := 125 } : Room) (va_Pc [.ref (ad 0 0 0), .int x] (PW D cy sa de B ad (Vw cy de ad S n T k th X) (Inv S n ∧ X 19 0 0 = none))) (oI B (fun r H => (cd_until S n x = 0 ∧ r = (S 2 (ci x) 0) ∧ GW D B ad (Vw cy de ad S n T k th X) H) ∨ (∃ t9 : Nat, ¬ t9 = 0 ∧ cd_until S n x = t9 ∧ r = wer t9 ∧ GW D B ad (Vw cy de ad S n T k th X) H))) 2 12 (AB B) := by
  refine E_metW (own := RL) rfl rfl (Nat.le_of_ble_eq_true rfl) ?_
  intro p e s m below meth c hC hr hlk htab hG h0 ls hl
  have hx := hC.x
  have hb := hC.b
  have hS : va_S (AB B) s.heap s.heap [] := va_S.rf
  have hl : lo ls 3 [some (.ref (ad 0 0 0)), some (.int x), none] := lo_of hl
  refine o_aload_n hx hb dL_until_0 hl rfl ?_
  refine o_iload_n hx hb dL_until_1 hl rfl ?_
  refine vx_calli (xV hC hS hG h0.1.1 (As := [.int x]) (c_X6_until l hfl) ⟨rfl, rfl⟩ ml_L_70 im_X6_until sl_X6_X6_until in_X6 cd_X6_until (n := 1) (by decide +kernel) ⟨(Nat.le_of_ble_eq_true rfl), (Nat.le_of_ble_eq_true rfl)⟩ (recv hC hG (q := (RX6, TX6, 6)) rfl V_games) rfl hl.1 (Nat.le_of_ble_eq_true rfl) rfl dL_until_2 ⟨(Nat.le_of_ble_eq_true rfl), (Nat.le_of_ble_eq_true rfl)⟩) hS (fun _ _ h => h) (fun _ h => h) (fun _ _ h => h) (fun E ce q9 u t H1 locs1 ht hv hp hB hz hq hS1 hce hcv hcl => ?_) (fun r u t H1 locs1 ht _ hr1 hB _ _ hS1 => ?_)
  · (try dsimp only at hB)
    rw [ht] at hB
    obtain ⟨hE, hG1⟩ := hB
    rcases hE with ⟨rfl, hcd⟩ | ⟨rfl, hcd⟩
    · refine caught hC [] ⟨0, 5, 6, 15⟩ [⟨0, 5, 10, 34⟩] (htab.trans rfl) (fun z hz => absurd hz List.not_mem_nil) rfl (by decide) cl_L_15 (by decide) hce hcv hcl ?_
      refine o_astore_n hx hb dL_until_6 hl (by decide) rfl (fun ls hl => ?_)
      refine lv_ldc hx hb hC.o (hC.t _ ct_L_17) dL_until_7 ?_
      exact R_I hC hS1 hr hlk rfl (Or.inr ⟨1, by decide, hcd, rfl, hG1⟩) (Nat.le_of_ble_eq_true rfl) (Nat.le_of_ble_eq_true rfl) dL_until_9
    · refine caught hC [⟨0, 5, 6, 15⟩] ⟨0, 5, 10, 34⟩ [] (htab.trans rfl) (fun z hz => by
            cases List.mem_singleton.mp hz
            exact Or.inr ⟨by decide, _, hC.t _ cl_L_15, hC.k.2.2.2.2.1 (_, _) (by decide)⟩) rfl (by decide) cl_L_34 (by decide) hce hcv hcl ?_
      refine o_astore_n hx hb dL_until_10 hl (by decide) rfl (fun ls hl => ?_)
      refine lv_ldc hx hb hC.o (hC.t _ ct_L_20) dL_until_11 ?_
      exact R_I hC hS1 hr hlk rfl (Or.inr ⟨2, by decide, hcd, rfl, hG1⟩) (Nat.le_of_ble_eq_true rfl) (Nat.le_of_ble_eq_true rfl) dL_until_13
  · subst hr1
    (try dsimp only at hB)
    rw [ht] at hB
    obtain ⟨q0, rfl, hG1⟩ := hB
    exact R_I hC hS1 hr hlk rfl (Or.inl ⟨q0, rfl, hG1⟩) (Nat.le_of_ble_eq_true rfl) (Nat.le_of_ble_eq_true rfl) dL_until_5
theorem kv_L_until {p : Program} {l : Launch} {e : Env} {R : Room} {s : State} {m : MethodId} {args : Array Value} {below : List Frame} {meth : Method} {c : Code} {H : Heap} {locs : List Loc} {cells slots : Nat} {Q : State → Prop} {cc : ByteArray} {pc nL : Nat} {ls : Array Slot} {rest : List Value} {own : String} {D : va_G} {cy : Nat → ClassId} {sa : Nat → Nat} {de B : Nat} {ad : Ad} {S : St} {n : Nat → Nat} {T : St} {k : Nat → Nat} {th : Int32} {X : Rl} {x : Int32} (hfl : l.stackTraces = false) (hC : Cx p m c cc nL s args own D cy sa de B) (hS : va_S (AB B) s.heap H locs) (hG : GW D B ad (Vw cy de ad S n T k th X) H) (h0 : Inv S n ∧ X 19 0 0 = none) {idx : Nat} (wl : Cond.methodLink own idx yL_until ∈ G0) (hR : 8 + 1 ≤ R.frames ∧ 8 + (3 + 11) + 125 ≤ R.locals) (hsz : ls.size = nL) (hst : (rest.map fun v => v.category).sum ≤ 8) (hdg : decode cc pc = .ok (.invokestatic idx, 3)) (hcs : cells + 2 ≤ R.cells ∧ slots + 12 ≤ R.slots) (hcd : cd_until S n x = 0) (k0 : ∀ (H1 : Heap) (locs1 : List Loc), GW D B ad (Vw cy de ad S n T k th X) H1 → va_S (AB B) s.heap H1 locs1 → W p l e R s m args below meth c H1 locs1 (cells + 2) (slots + 12) Q (F0 m (pc + 3) ls (.int (S 2 (ci x) 0) :: rest))) : W p l e R s m args below meth c H locs cells slots Q (F0 m pc ls (.int x :: .ref (ad 0 0 0) :: rest)) :=
  va_calli (rSW hC hS hG h0 (As := [.ref (ad 0 0 0), .int x]) (c_L_until l hfl) ⟨rfl, rfl⟩ wl sm_L_until in_L cd_L_until (n := 2) (by decide +kernel) hR rfl hsz hst rfl hdg hcs) hS (fun _ _ h => h) (fun _ h => h) (fun r u t H1 locs1 ht _ hr hB _ _ hS1 => by
    subst hr
    have hB9 := hB; try dsimp only at hB9
    rw [ht] at hB9
    rcases hB9 with ⟨q0, rfl, hG1⟩ | ⟨t9, q1, q2, rfl, hG1⟩
    · exact k0 _ _ hG1 hS1
    · exact absurd (q2.symm.trans hcd) q1)
theorem kx_L_until {p : Program} {l : Launch} {e : Env} {R : Room} {s : State} {m : MethodId} {args : Array Value} {below : List Frame} {meth : Method} {c : Code} {H : Heap} {locs : List Loc} {cells slots : Nat} {Q : State → Prop} {cc : ByteArray} {pc nL : Nat} {ls : Array Slot} {rest : List Value} {own : String} {D : va_G} {cy : Nat → ClassId} {sa : Nat → Nat} {de B : Nat} {ad : Ad} {S : St} {n : Nat → Nat} {T : St} {k : Nat → Nat} {th : Int32} {X : Rl} {x : Int32} {t0 : Nat} (hfl : l.stackTraces = false) (hC : Cx p m c cc nL s args own D cy sa de B) (hS : va_S (AB B) s.heap H locs) (hG : GW D B ad (Vw cy de ad S n T k th X) H) (h0 : Inv S n ∧ X 19 0 0 = none) {idx : Nat} (wl : Cond.methodLink own idx yL_until ∈ G0) (hR : 8 + 1 ≤ R.frames ∧ 8 + (3 + 11) + 125 ≤ R.locals) (hsz : ls.size = nL) (hst : (rest.map fun v => v.category).sum ≤ 8) (hdg : decode cc pc = .ok (.invokestatic idx, 3)) (hcs : cells + 2 ≤ R.cells ∧ slots + 12 ≤ R.slots) (ht0 : ¬ t0 = 0) (hcd : cd_until S n x = t0) (k1 : ∀ (H1 : Heap) (locs1 : List Loc), GW D B ad (Vw cy de ad S n T k th X) H1 → va_S (AB B) s.heap H1 locs1 → W p l e R s m args below meth c H1 locs1 (cells + 2) (slots + 12) Q (F0 m (pc + 3) ls (.int (wer t0) :: rest))) : W p l e R s m args below meth c H locs cells slots Q (F0 m pc ls (.int x :: .ref (ad 0 0 0) :: rest)) :=
  va_calli (rSW hC hS hG h0 (As := [.ref (ad 0 0 0), .int x]) (c_L_until l hfl) ⟨rfl, rfl⟩ wl sm_L_until in_L cd_L_until (n := 2) (by decide +kernel) hR rfl hsz hst rfl hdg hcs) hS (fun _ _ h => h) (fun _ h => h) (fun r u t H1 locs1 ht _ hr hB _ _ hS1 => by
    subst hr
    have hB9 := hB; try dsimp only at hB9
    rw [ht] at hB9
    rcases hB9 with ⟨q0, rfl, hG1⟩ | ⟨t9, q1, q2, rfl, hG1⟩
    · exact absurd (hcd.symm.trans q0) ht0
    · obtain rfl : t9 = t0 := q2.symm.trans hcd
      exact k1 _ _ hG1 hS1)
set_option maxHeartbeats 4000000 in
set_option maxRecDepth 100000 in
theorem c_L_protest (l : Launch) (hfl : l.stackTraces = false) {D : va_G} {cy : Nat → ClassId} {sa : Nat → Nat} {de B : Nat} {ad : Ad} {S : St} {n : Nat → Nat} {T : St} {k : Nat → Nat} {th : Int32} {X : Rl} {x y : Int32} : Met l yL_protest (Cond.codeWith yL_protest cL_protest 4 (Option.some Jvm.ClassFile.FieldType.int) [((0 : Nat), (14 : Nat), (15 : Nat), (15 : Nat)), ((0 : Nat), (14 : Nat), (19 : Nat), (51 : Nat))] :: G0) ({ frames := 8, cells := 3, slots := 18, locals := 180 } : Room) (va_Pc [.ref (ad 0 0 0), .int x, .int y] (PW D cy sa de B ad (Vw cy de ad S n T k th X) (Inv S n ∧ X 19 0 0 = none))) (oI B (fun r H => (cd_protest S n x y = 0 ∧ r = (vl_protest S n (ci y)) ∧ GW D B ad (Vw cy de ad (prS S n (ci x) (ci y)) n T k th X) H) ∨ (∃ t9 : Nat, ¬ t9 = 0 ∧ cd_protest S n x y = t9 ∧ r = wer t9 ∧ GW D B ad (Vw cy de ad S n T k th X) H))) 3 18 (AB B) := by
  refine E_metW (own := RL) rfl rfl (Nat.le_of_ble_eq_true rfl) ?_
  intro p e s m below meth c hC hr hlk htab hG h0 ls hl
  have hx := hC.x
  have hb := hC.b
  have hS : va_S (AB B) s.heap s.heap [] := va_S.rf
  have hl : lo ls 4 [some (.ref (ad 0 0 0)), some (.int x), some (.int y), none] := lo_of hl
  refine o_aload_n hx hb dL_protest_0 hl rfl ?_
  refine o_iload_n hx hb dL_protest_1 hl rfl ?_
  refine o_iload_n hx hb dL_protest_2 hl rfl ?_
  refine vx_calli (xV hC hS hG h0.1.1 (As := [.int x, .int y]) (c_X6_protest l hfl) ⟨rfl, rfl⟩ ml_L_73 im_X6_protest sl_X6_X6_protest in_X6 cd_X6_protest (n := 2) (by decide +kernel) ⟨(Nat.le_of_ble_eq_true rfl), (Nat.le_of_ble_eq_true rfl)⟩ (recv hC hG (q := (RX6, TX6, 6)) rfl V_games) rfl hl.1 (Nat.le_of_ble_eq_true rfl) rfl dL_protest_3 ⟨(Nat.le_of_ble_eq_true rfl), (Nat.le_of_ble_eq_true rfl)⟩) hS (fun _ _ h => h) (fun _ h => h) (fun _ _ h => h) (fun E ce q9 u t H1 locs1 ht hv hp hB hz hq hS1 hce hcv hcl => ?_) (fun r u t H1 locs1 ht _ hr1 hB _ _ hS1 => ?_)
  · (try dsimp only at hB)
    rw [ht] at hB
    obtain ⟨hE, hG1⟩ := hB
    rcases hE with ⟨rfl, hcd⟩ | ⟨rfl, hcd⟩
    · refine caught hC [] ⟨0, 14, 15, 15⟩ [⟨0, 14, 19, 51⟩] (htab.trans rfl) (fun z hz => absurd hz List.not_mem_nil) rfl (by decide) cl_L_15 (by decide) hce hcv hcl ?_
      refine o_astore_n hx hb dL_protest_15 hl (by decide) rfl (fun ls hl => ?_)
      refine lv_ldc hx hb hC.o (hC.t _ ct_L_17) dL_protest_16 ?_
      exact R_I hC hS1 hr hlk rfl (Or.inr ⟨1, by decide, hcd, rfl, hG1⟩) (Nat.le_of_ble_eq_true rfl) (Nat.le_of_ble_eq_true rfl) dL_protest_18
    · refine caught hC [⟨0, 14, 15, 15⟩] ⟨0, 14, 19, 51⟩ [] (htab.trans rfl) (fun z hz => by
            cases List.mem_singleton.mp hz
            exact Or.inr ⟨by decide, _, hC.t _ cl_L_15, hC.k.2.2.2.2.1 (_, _) (by decide)⟩) rfl (by decide) cl_L_51 (by decide) hce hcv hcl ?_
      refine o_astore_n hx hb dL_protest_19 hl (by decide) rfl (fun ls hl => ?_)
      refine lv_ldc hx hb hC.o (hC.t _ ct_L_20) dL_protest_20 ?_
      exact R_I hC hS1 hr hlk rfl (Or.inr ⟨2, by decide, hcd, rfl, hG1⟩) (Nat.le_of_ble_eq_true rfl) (Nat.le_of_ble_eq_true rfl) dL_protest_22
  · subst hr1
    (try dsimp only at hB)
    rw [ht] at hB
    obtain ⟨q0, rfl, hG1⟩ := hB
    refine lv_if_eq (tgt := 13) hx hb dL_protest_6 (by decide) (fun h8 => ?_) (fun h8 => ?_)
    · refine lv_iconst (v := 0) hx hb dL_protest_13 (by decide) ?_
      exact R_I hC hS1 hr hlk rfl (Or.inl ⟨q0, h8.symm, hG1⟩) (Nat.le_of_ble_eq_true rfl) (Nat.le_of_ble_eq_true rfl) dL_protest_14
    · refine lv_iconst (v := 1) hx hb dL_protest_9 (by decide) ?_
      refine lv_goto (tgt := 14) hx hb dL_protest_10 (by decide) ?_
      exact R_I hC hS1 hr hlk rfl (Or.inl ⟨q0, pr_1 h8, hG1⟩) (Nat.le_of_ble_eq_true rfl) (Nat.le_of_ble_eq_true rfl) dL_protest_14
theorem kv_L_protest {p : Program} {l : Launch} {e : Env} {R : Room} {s : State} {m : MethodId} {args : Array Value} {below : List Frame} {meth : Method} {c : Code} {H : Heap} {locs : List Loc} {cells slots : Nat} {Q : State → Prop} {cc : ByteArray} {pc nL : Nat} {ls : Array Slot} {rest : List Value} {own : String} {D : va_G} {cy : Nat → ClassId} {sa : Nat → Nat} {de B : Nat} {ad : Ad} {S : St} {n : Nat → Nat} {T : St} {k : Nat → Nat} {th : Int32} {X : Rl} {x y : Int32} (hfl : l.stackTraces = false) (hC : Cx p m c cc nL s args own D cy sa de B) (hS : va_S (AB B) s.heap H locs) (hG : GW D B ad (Vw cy de ad S n T k th X) H) (h0 : Inv S n ∧ X 19 0 0 = none) {idx : Nat} (wl : Cond.methodLink own idx yL_protest ∈ G0) (hR : 8 + 1 ≤ R.frames ∧ 8 + (4 + 11) + 180 ≤ R.locals) (hsz : ls.size = nL) (hst : (rest.map fun v => v.category).sum ≤ 8) (hdg : decode cc pc = .ok (.invokestatic idx, 3)) (hcs : cells + 3 ≤ R.cells ∧ slots + 18 ≤ R.slots) (hcd : cd_protest S n x y = 0) (k0 : ∀ (H1 : Heap) (locs1 : List Loc), GW D B ad (Vw cy de ad (prS S n (ci x) (ci y)) n T k th X) H1 → va_S (AB B) s.heap H1 locs1 → W p l e R s m args below meth c H1 locs1 (cells + 3) (slots + 18) Q (F0 m (pc + 3) ls (.int (vl_protest S n (ci y)) :: rest))) : W p l e R s m args below meth c H locs cells slots Q (F0 m pc ls (.int y :: .int x :: .ref (ad 0 0 0) :: rest)) :=
  va_calli (rSW hC hS hG h0 (As := [.ref (ad 0 0 0), .int x, .int y]) (c_L_protest l hfl) ⟨rfl, rfl⟩ wl sm_L_protest in_L cd_L_protest (n := 3) (by decide +kernel) hR rfl hsz hst rfl hdg hcs) hS (fun _ _ h => h) (fun _ h => h) (fun r u t H1 locs1 ht _ hr hB _ _ hS1 => by
    subst hr
    have hB9 := hB; try dsimp only at hB9
    rw [ht] at hB9
    rcases hB9 with ⟨q0, rfl, hG1⟩ | ⟨t9, q1, q2, rfl, hG1⟩
    · exact k0 _ _ hG1 hS1
    · exact absurd (q2.symm.trans hcd) q1)
theorem kx_L_protest {p : Program} {l : Launch} {e : Env} {R : Room} {s : State} {m : MethodId} {args : Array Value} {below : List Frame} {meth : Method} {c : Code} {H : Heap} {locs : List Loc} {cells slots : Nat} {Q : State → Prop} {cc : ByteArray} {pc nL : Nat} {ls : Array Slot} {rest : List Value} {own : String} {D : va_G} {cy : Nat → ClassId} {sa : Nat → Nat} {de B : Nat} {ad : Ad} {S : St} {n : Nat → Nat} {T : St} {k : Nat → Nat} {th : Int32} {X : Rl} {x y : Int32} {t0 : Nat} (hfl : l.stackTraces = false) (hC : Cx p m c cc nL s args own D cy sa de B) (hS : va_S (AB B) s.heap H locs) (hG : GW D B ad (Vw cy de ad S n T k th X) H) (h0 : Inv S n ∧ X 19 0 0 = none) {idx : Nat} (wl : Cond.methodLink own idx yL_protest ∈ G0) (hR : 8 + 1 ≤ R.frames ∧ 8 + (4 + 11) + 180 ≤ R.locals) (hsz : ls.size = nL) (hst : (rest.map fun v => v.category).sum ≤ 8) (hdg : decode cc pc = .ok (.invokestatic idx, 3)) (hcs : cells + 3 ≤ R.cells ∧ slots + 18 ≤ R.slots) (ht0 : ¬ t0 = 0) (hcd : cd_protest S n x y = t0) (k1 : ∀ (H1 : Heap) (locs1 : List Loc), GW D B ad (Vw cy de ad S n T k th X) H1 → va_S (AB B) s.heap H1 locs1 → W p l e R s m args below meth c H1 locs1 (cells + 3) (slots + 18) Q (F0 m (pc + 3) ls (.int (wer t0) :: rest))) : W p l e R s m args below meth c H locs cells slots Q (F0 m pc ls (.int y :: .int x :: .ref (ad 0 0 0) :: rest)) :=
  va_calli (rSW hC hS hG h0 (As := [.ref (ad 0 0 0), .int x, .int y]) (c_L_protest l hfl) ⟨rfl, rfl⟩ wl sm_L_protest in_L cd_L_protest (n := 3) (by decide +kernel) hR rfl hsz hst rfl hdg hcs) hS (fun _ _ h => h) (fun _ h => h) (fun r u t H1 locs1 ht _ hr hB _ _ hS1 => by
    subst hr
    have hB9 := hB; try dsimp only at hB9
    rw [ht] at hB9
    rcases hB9 with ⟨q0, rfl, hG1⟩ | ⟨t9, q1, q2, rfl, hG1⟩
    · exact absurd (hcd.symm.trans q0) ht0
    · obtain rfl : t9 = t0 := q2.symm.trans hcd
      exact k1 _ _ hG1 hS1)
