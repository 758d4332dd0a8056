/-! WORDS FOR THE NUMBERS: what the small methods answer and do, as functions of S. -/
def mcode (j : Nat) : Nat := if j = 0 then 6 else if j = 1 then 7 else 1
def sumLk (f : Nat → Int32) : Nat → Int32
  | 0 => 0
  | i + 1 => sumLk f i + (100 - f i)
/-- a kind's region holds the measures f -/
def holdsP (S : St) (q : Nat) (f : Nat → Int32) : Prop := S 13 q 1 ≤ 100 - f (S 13 q 0).toNatClampNeg ∧ S 13 q 2 ≤ sumLk f 5 ∧ sumLk f 5 ≤ S 13 q 3
def shv (S : St) (i a : Nat) : Int32 := if S 7 i a = -1 then S 6 i a else S 7 i a
def mayP (S : St) (i : Nat) : Prop := S 9 i 0 = 110 ∨ S 9 i 0 = 99 ∨ S 9 i 0 = 114
def waitP (S : St) (i : Nat) : Prop := S 9 i 0 = 120 ∨ S 9 i 0 = 114
def timeP (S : St) (e a : Nat) : Prop := ¬ S 22 e a = -1
def aheadP (S : St) (e a b : Nat) : Prop := S 22 e a < S 22 e b ∨ (S 22 e a = S 22 e b ∧ a < b)
theorem kro_null {ad : Ad} {x : Int32} (h : x = -1) : va_rf (kro ad x) = .null := by subst h; rfl
theorem kro_ref {ad : Ad} {x : Int32} {q : Nat} (h : x = nI q) (hq : q < 2 ^ 31) : va_rf (kro ad x) = .ref (ad 7 q 0) := by
  subst h; unfold kro; rw [neg_nI hq, nI_clamp hq]; rfl
theorem kro_none {ad : Ad} {x : Int32} (h : x = -1) : kro ad x = none := by subst h; rfl
theorem kro_some {ad : Ad} {x : Int32} {q : Nat} (h : x = nI q) (hq : q < 2 ^ 31) : kro ad x = some (ad 7 q 0) := by
  subst h; unfold kro; rw [neg_nI hq, nI_clamp hq]; rfl
theorem ix_in {x : Int32} {N : Nat} (hN : N < 2 ^ 31) (h0 : ¬ x < 0) (h1 : ¬ nI N ≤ x) : ∃ a, a < N ∧ x = nI a := by
  rcases pk_ix x hN with h | h | h
  · exact absurd h h0
  · exact absurd h h1
  · exact h
theorem P_mea {cy : Nat → ClassId} {de : Nat} {ad : Ad} {S : St} {n : Nat → Nat} {T : St} {k : Nat → Nat} {th : Int32} {X : Rl} {i j : Nat} (h : i < n 4) (hj : j < 3) {x : Nat} {v : Int32} : up3 (Vw cy de ad S n T k th X) 5 i j (some (eI (cy 0) 5 (upd (fMea S i j) x v))) = Vw cy de ad (up3 S (mcode j) i x v) n T k th X := by
  have h3 : j = 0 ∨ j = 1 ∨ j = 2 := by omega
  rcases h3 with rfl | rfl | rfl
  · exact P_mea0 h
  · exact P_mea1 h
  · exact P_mea2 h
/-- what is found becomes g, for the first c measures -/
def fndS (S : St) (i : Nat) (g : Nat → Int32) : Nat → St
  | 0 => S
  | c + 1 => up3 (fndS S i g c) 1 i c (g c)
theorem fndS_o {S : St} {i : Nat} {g : Nat → Int32} : ∀ (c : Nat) {x y z : Nat}, ¬ (x = 1 ∧ y = i ∧ z < c) → fndS S i g c x y z = S x y z
  | 0, _, _, _, _ => rfl
  | c + 1, x, y, z, h => by
    have h1 : ¬ (x = 1 ∧ y = i ∧ z = c) := fun q => h ⟨q.1, q.2.1, by omega⟩
    show up3 (fndS S i g c) 1 i c (g c) x y z = _
    rw [up3_ne h1, fndS_o c (fun q => h ⟨q.1, q.2.1, by omega⟩)]
theorem fndS_i {S : St} {i : Nat} {g : Nat → Int32} : ∀ (c : Nat) {z : Nat}, z < c → fndS S i g c 1 i z = g z
  | 0, _, h => absurd h (Nat.not_lt_zero _)
  | c + 1, z, h => by
    show up3 (fndS S i g c) 1 i c (g c) 1 i z = _
    by_cases h1 : z = c
    · subst h1; exact up3_self
    · rw [up3_ne (fun q => h1 q.2.2), fndS_i c (by omega)]
set_option maxHeartbeats 4000000 in
set_option maxRecDepth 100000 in
theorem c_X5_of (l : Launch) {D : va_G} {cy : Nat → ClassId} {sa : Nat → Nat} {de B : Nat} {ad : Ad} {S : St} {n : Nat → Nat} {T : St} {k : Nat → Nat} {th : Int32} {X : Rl} {i j a : Nat}  : Met l yX5_of (Cond.code yX5_of cX5_of 2 (Option.some Jvm.ClassFile.FieldType.int) :: G0) ({ frames := 0, cells := 0, slots := 0, locals := 0 } : Room) (va_Pc [.ref (ad 4 i j), .int (nI a)] (PW D cy sa de B ad (Vw cy de ad S n T k th X) (i < n 4 ∧ j < 3 ∧ a < 5))) (vp_Si (fun r => r = fMea S i j a)) 0 0 (fun _ => False) := by
  refine E_met (own := RX5) rfl rfl (Nat.le_of_ble_eq_true rfl) ?_
  intro p e s m below meth c hC hr hlk hnm hG h0 ls hl
  have hx := hC.x
  have hb := hC.b
  have hS : va_S (AB B) s.heap s.heap [] := va_S.rf
  have hl : lo ls 2 [some (.ref (ad 4 i j)), some (.int (nI a))] := lo_of hl
  obtain ⟨hi, hj, ha⟩ := h0
  refine o_iload_n hx hb dX5_of_0 hl rfl ?_
  refine lv_if_lt (tgt := 22) hx hb dX5_of_1 (by decide) (fun h1 => ?_) (fun h1 => ?_)
  · exact absurd h1 (nI_pos (by omega))
  · skip
    refine o_iload_n hx hb dX5_of_4 hl rfl ?_
    refine o_aload_n hx hb dX5_of_5 hl rfl ?_
    refine g_get hC hG us_X5 rfl 0 (by decide) fl_X5_9 (V_mea (by omega) (by omega)) rfl dX5_of_6 ?_
    refine g_alen hC hG 0 rfl (V_meaA (by omega) (by omega)) (v := nI 5) rfl dX5_of_9 ?_
    refine n_icmp_ge (tgt := 22) hx hb a 5 rfl rfl (by omega) (by omega) dX5_of_10 (by decide) (fun h10 => ?_) (fun h10 => ?_)
    · exact absurd h10 (by omega)
    · skip
      refine o_aload_n hx hb dX5_of_13 hl rfl ?_
      refine g_get hC hG us_X5 rfl 0 (by decide) fl_X5_9 (V_mea (by omega) (by omega)) rfl dX5_of_14 ?_
      refine o_iload_n hx hb dX5_of_17 hl rfl ?_
      refine g_iald hC hG (V_meaA (by omega) (by omega)) _ rfl (by omega) (by omega) dX5_of_18 ?_
      refine lv_goto (tgt := 24) hx hb dX5_of_19 (by decide) ?_
      exact R_i hC hr hlk rfl (rfl) dX5_of_24
theorem k_X5_of {p : Program} {l : Launch} {e : Env} {R : Room} {s : State} {m : MethodId} {args : Array Value} {below : List Frame} {meth : Method} {c : Code} {H : Heap} {locs : List Loc} {cells slots : Nat} {Q : State → Prop} {cc : ByteArray} {pc nL : Nat} {ls : Array Slot} {rest : List Value} {own : String} {D : va_G} {cy : Nat → ClassId} {sa : Nat → Nat} {de B : Nat} {ad : Ad} {S : St} {n : Nat → Nat} {T : St} {k : Nat → Nat} {th : Int32} {X : Rl} {i j a : Nat}  (hC : Cx p m c cc nL s args own D cy sa de B) (hS : va_S (AB B) s.heap H locs) (hG : GW D B ad (Vw cy de ad S n T k th X) H) (h0 : i < n 4 ∧ j < 3 ∧ a < 5)  {idx : Nat} (wl : Cond.methodLink own idx yX5_of ∈ G0) (hR : 0 + 1 ≤ R.frames ∧ 8 + (2 + 11) + 0 ≤ R.locals) (hsz : ls.size = nL) (hst : (rest.map fun v => v.category).sum ≤ 8) (hdg : decode cc pc = .ok (.invokevirtual idx, 3)) (hcs : cells + 0 ≤ R.cells ∧ slots + 0 ≤ R.slots) (kk : W p l e R s m args below meth c H locs cells slots Q (F0 m (pc + 3) ls (.int (fMea S i j a) :: rest))) : W p l e R s m args below meth c H locs cells slots Q (F0 m pc ls (.int (nI a) :: .ref (ad 4 i j) :: rest)) :=
  vp_callSi (va_Run.run (rV hC hS hG h0 (As := [.int (nI a)]) (c_X5_of l) ⟨rfl, rfl⟩ wl im_X5_of sl_X5_X5_of in_X5 cd_X5_of (n := 1) (by decide +kernel) hR (recv hC hG (q := (RX5, TX5, 1)) rfl (V_mea h0.1 h0.2.1)) rfl hsz hst rfl hdg hcs)) (fun r hr => by subst hr; exact kk)
set_option maxHeartbeats 4000000 in
set_option maxRecDepth 100000 in
theorem c_X5_tell (l : Launch) {D : va_G} {cy : Nat → ClassId} {sa : Nat → Nat} {de B : Nat} {ad : Ad} {S : St} {n : Nat → Nat} {T : St} {k : Nat → Nat} {th : Int32} {X : Rl} {i j a : Nat} {v : Int32}  : Met l yX5_tell (Cond.code yX5_tell cX5_tell 3 (Option.none : Option Jvm.ClassFile.FieldType) :: G0) ({ frames := 0, cells := 0, slots := 0, locals := 0 } : Room) (va_Pc [.ref (ad 4 i j), .int (nI a), .int v] (PW D cy sa de B ad (Vw cy de ad S n T k th X) (i < n 4 ∧ j < 3 ∧ a < 5))) (oV B (fun H => GW D B ad (Vw cy de ad (up3 S (mcode j) i a v) n T k th X) H)) 0 0 (AB B) := by
  refine E_met (own := RX5) rfl rfl (Nat.le_of_ble_eq_true rfl) ?_
  intro p e s m below meth c hC hr hlk hnm hG h0 ls hl
  have hx := hC.x
  have hb := hC.b
  have hS : va_S (AB B) s.heap s.heap [] := va_S.rf
  have hl : lo ls 3 [some (.ref (ad 4 i j)), some (.int (nI a)), some (.int v)] := lo_of hl
  obtain ⟨hi, hj, ha⟩ := h0
  refine o_iload_n hx hb dX5_tell_0 hl rfl ?_
  refine lv_if_lt (tgt := 20) hx hb dX5_tell_1 (by decide) (fun h1 => ?_) (fun h1 => ?_)
  · exact absurd h1 (nI_pos (by omega))
  · skip
    refine o_iload_n hx hb dX5_tell_4 hl rfl ?_
    refine o_aload_n hx hb dX5_tell_5 hl rfl ?_
    refine g_get hC hG us_X5 rfl 0 (by decide) fl_X5_9 (V_mea (by omega) (by omega)) rfl dX5_tell_6 ?_
    refine g_alen hC hG 0 rfl (V_meaA (by omega) (by omega)) (v := nI 5) rfl dX5_tell_9 ?_
    refine n_icmp_ge (tgt := 20) hx hb a 5 rfl rfl (by omega) (by omega) dX5_tell_10 (by decide) (fun h10 => ?_) (fun h10 => ?_)
    · exact absurd h10 (by omega)
    · skip
      refine o_aload_n hx hb dX5_tell_13 hl rfl ?_
      refine g_get hC hG us_X5 rfl 0 (by decide) fl_X5_9 (V_mea (by omega) (by omega)) rfl dX5_tell_14 ?_
      refine o_iload_n hx hb dX5_tell_17 hl rfl ?_
      refine o_iload_n hx hb dX5_tell_18 hl rfl ?_
      refine g_iast hC hG hS (V_meaA (by omega) (by omega)) _ rfl (by omega) (by omega) (P_mea hi hj) dX5_tell_19 (fun H locs hG hS => ?_)
      exact R_V hC hS hr hlk (hG) (Nat.le_of_ble_eq_true rfl) (Nat.le_of_ble_eq_true rfl) dX5_tell_20
theorem k_X5_tell {p : Program} {l : Launch} {e : Env} {R : Room} {s : State} {m : MethodId} {args : Array Value} {below : List Frame} {meth : Method} {c : Code} {H : Heap} {locs : List Loc} {cells slots : Nat} {Q : State → Prop} {cc : ByteArray} {pc nL : Nat} {ls : Array Slot} {rest : List Value} {own : String} {D : va_G} {cy : Nat → ClassId} {sa : Nat → Nat} {de B : Nat} {ad : Ad} {S : St} {n : Nat → Nat} {T : St} {k : Nat → Nat} {th : Int32} {X : Rl} {i j a : Nat} {v : Int32}  (hC : Cx p m c cc nL s args own D cy sa de B) (hS : va_S (AB B) s.heap H locs) (hG : GW D B ad (Vw cy de ad S n T k th X) H) (h0 : i < n 4 ∧ j < 3 ∧ a < 5)  {idx : Nat} (wl : Cond.methodLink own idx yX5_tell ∈ G0) (hR : 0 + 1 ≤ R.frames ∧ 8 + (3 + 11) + 0 ≤ R.locals) (hsz : ls.size = nL) (hst : (rest.map fun v => v.category).sum ≤ 8) (hdg : decode cc pc = .ok (.invokevirtual idx, 3)) (hcs : cells + 0 ≤ R.cells ∧ slots + 0 ≤ R.slots) (kk : ∀ (H1 : Heap) (locs1 : List Loc), ((fun H => GW D B ad (Vw cy de ad (up3 S (mcode j) i a v) n T k th X) H)) H1 → va_S (AB B) s.heap H1 locs1 → W p l e R s m args below meth c H1 locs1 cells slots Q (F0 m (pc + 3) ls (rest))) : W p l e R s m args below meth c H locs cells slots Q (F0 m pc ls (.int v :: .int (nI a) :: .ref (ad 4 i j) :: rest)) :=
  va_callv (rV hC hS hG h0 (As := [.int (nI a), .int v]) (c_X5_tell l) ⟨rfl, rfl⟩ wl im_X5_tell sl_X5_X5_tell in_X5 cd_X5_tell (n := 2) (by decide +kernel) hR (recv hC hG (q := (RX5, TX5, 1)) rfl (V_mea h0.1 h0.2.1)) rfl hsz hst rfl hdg hcs) hS (fun _ _ h => h) (fun _ h => h) (fun u t H1 locs1 ht _ _ hB _ _ hS1 => kk H1 locs1 (by dsimp only at hB; rw [ht] at hB; exact hB) hS1)
set_option maxHeartbeats 4000000 in
set_option maxRecDepth 100000 in
theorem c_X5_lackOf (l : Launch) {D : va_G} {cy : Nat → ClassId} {sa : Nat → Nat} {de B : Nat} {ad : Ad} {S : St} {n : Nat → Nat} {T : St} {k : Nat → Nat} {th : Int32} {X : Rl} {i j a : Nat}  : Met l yX5_lackOf (Cond.code yX5_lackOf cX5_lackOf 2 (Option.some Jvm.ClassFile.FieldType.int) :: G0) ({ frames := 1, cells := 0, slots := 0, locals := 21 } : Room) (va_Pc [.ref (ad 4 i j), .int (nI a)] (PW D cy sa de B ad (Vw cy de ad S n T k th X) (i < n 4 ∧ j < 3 ∧ a < 5))) (vp_Si (fun r => r = 100 - fMea S i j a)) 0 0 (fun _ => False) := by
  refine E_met (own := RX5) rfl rfl (Nat.le_of_ble_eq_true rfl) ?_
  intro p e s m below meth c hC hr hlk hnm hG h0 ls hl
  have hx := hC.x
  have hb := hC.b
  have hS : va_S (AB B) s.heap s.heap [] := va_S.rf
  have hl : lo ls 2 [some (.ref (ad 4 i j)), some (.int (nI a))] := lo_of hl
  refine lv_bipush (v := 100) hx hb dX5_lackOf_0 (by decide) ?_
  refine o_aload_n hx hb dX5_lackOf_2 hl rfl ?_
  refine o_iload_n hx hb dX5_lackOf_3 hl rfl ?_
  refine k_X5_of hC hS hG h0 ml_X5_15 ⟨Nat.le_of_ble_eq_true rfl, Nat.le_of_ble_eq_true rfl⟩ hl.1 (Nat.le_of_ble_eq_true rfl) dX5_lackOf_4 ⟨Nat.le_of_ble_eq_true rfl, Nat.le_of_ble_eq_true rfl⟩ ?_
  refine lv_isub hx hb dX5_lackOf_7 ?_
  exact R_i hC hr hlk rfl (rfl) dX5_lackOf_8
theorem k_X5_lackOf {p : Program} {l : Launch} {e : Env} {R : Room} {s : State} {m : MethodId} {args : Array Value} {below : List Frame} {meth : Method} {c : Code} {H : Heap} {locs : List Loc} {cells slots : Nat} {Q : State → Prop} {cc : ByteArray} {pc nL : Nat} {ls : Array Slot} {rest : List Value} {own : String} {D : va_G} {cy : Nat → ClassId} {sa : Nat → Nat} {de B : Nat} {ad : Ad} {S : St} {n : Nat → Nat} {T : St} {k : Nat → Nat} {th : Int32} {X : Rl} {i j a : Nat}  (hC : Cx p m c cc nL s args own D cy sa de B) (hS : va_S (AB B) s.heap H locs) (hG : GW D B ad (Vw cy de ad S n T k th X) H) (h0 : i < n 4 ∧ j < 3 ∧ a < 5)  {idx : Nat} (wl : Cond.methodLink own idx yX5_lackOf ∈ G0) (hR : 1 + 1 ≤ R.frames ∧ 8 + (2 + 11) + 21 ≤ R.locals) (hsz : ls.size = nL) (hst : (rest.map fun v => v.category).sum ≤ 8) (hdg : decode cc pc = .ok (.invokevirtual idx, 3)) (hcs : cells + 0 ≤ R.cells ∧ slots + 0 ≤ R.slots) (kk : W p l e R s m args below meth c H locs cells slots Q (F0 m (pc + 3) ls (.int (100 - fMea S i j a) :: rest))) : W p l e R s m args below meth c H locs cells slots Q (F0 m pc ls (.int (nI a) :: .ref (ad 4 i j) :: rest)) :=
  vp_callSi (va_Run.run (rV hC hS hG h0 (As := [.int (nI a)]) (c_X5_lackOf l) ⟨rfl, rfl⟩ wl im_X5_lackOf sl_X5_X5_lackOf in_X5 cd_X5_lackOf (n := 1) (by decide +kernel) hR (recv hC hG (q := (RX5, TX5, 1)) rfl (V_mea h0.1 h0.2.1)) rfl hsz hst rfl hdg hcs)) (fun r hr => by subst hr; exact kk)
set_option maxHeartbeats 4000000 in
set_option maxRecDepth 100000 in
theorem c_X5_sumOfLacks (l : Launch) {D : va_G} {cy : Nat → ClassId} {sa : Nat → Nat} {de B : Nat} {ad : Ad} {S : St} {n : Nat → Nat} {T : St} {k : Nat → Nat} {th : Int32} {X : Rl} {i j : Nat}  : Met l yX5_sumOfLacks (Cond.code yX5_sumOfLacks cX5_sumOfLacks 3 (Option.some Jvm.ClassFile.FieldType.int) :: G0) ({ frames := 0, cells := 0, slots := 0, locals := 0 } : Room) (va_Pc [.ref (ad 4 i j)] (PW D cy sa de B ad (Vw cy de ad S n T k th X) (i < n 4 ∧ j < 3))) (vp_Si (fun r => r = sumLk (fMea S i j) 5)) 0 0 (fun _ => False) := by
  refine E_met (own := RX5) rfl rfl (Nat.le_of_ble_eq_true rfl) ?_
  intro p e s m below meth c hC hr hlk hnm hG h0 ls hl
  have hx := hC.x
  have hb := hC.b
  have hS : va_S (AB B) s.heap s.heap [] := va_S.rf
  have hl : lo ls 3 [some (.ref (ad 4 i j)), none, none] := lo_of hl
  obtain ⟨hi, hj⟩ := h0
  refine lv_iconst (v := 0) hx hb dX5_sumOfLacks_0 (by decide) ?_
  refine o_istore_n hx hb dX5_sumOfLacks_1 hl (by decide) rfl (fun ls hl => ?_)
  refine lv_iconst (v := 0) hx hb dX5_sumOfLacks_2 (by decide) ?_
  refine o_istore_n hx hb dX5_sumOfLacks_3 hl (by decide) rfl (fun ls hl => ?_)
  have loop4 : ∀ (q9 : Nat) (b : Nat), b ≤ 5 ∧ 5 < b + q9 → ∀ ls : Array Slot, lo ls 3 [some (.ref (ad 4 i j)), some (.int (sumLk (fMea S i j) b)), some (.int (nI b))] → W p l e ({ frames := 0, cells := 0, slots := 0, locals := 0 } : Room) s m [.ref (ad 4 i j)].toArray below meth c s.heap [] 0 0 (MQ below (vp_Si (fun r => r = sumLk (fMea S i j) 5)) [.ref (ad 4 i j)].toArray s 0 0 (fun _ => False)) (F0 m 4 ls []) := by
    intro q9
    induction q9 with
    | zero => intro b hq9; exact absurd hq9 (by omega)
    | succ q9 ih4 =>
      intro b hq9   ls hl
      refine o_iload_n hx hb dX5_sumOfLacks_4 hl rfl ?_
      refine o_aload_n hx hb dX5_sumOfLacks_5 hl rfl ?_
      refine g_get hC hG us_X5 rfl 0 (by decide) fl_X5_9 (V_mea (by omega) (by omega)) rfl dX5_sumOfLacks_6 ?_
      refine g_alen hC hG 0 rfl (V_meaA (by omega) (by omega)) (v := nI 5) rfl dX5_sumOfLacks_9 ?_
      refine n_icmp_ge (tgt := 31) hx hb b 5 rfl rfl (by omega) (by omega) dX5_sumOfLacks_10 (by decide) (fun h10 => ?_) (fun h10 => ?_)
      · skip
        refine o_iload_n hx hb dX5_sumOfLacks_31 hl rfl ?_
        exact R_i hC hr hlk rfl (by rw [show (5 : Nat) = b by omega]) dX5_sumOfLacks_32
      · skip
        refine o_iload_n hx hb dX5_sumOfLacks_13 hl rfl ?_
        refine lv_bipush (v := 100) hx hb dX5_sumOfLacks_14 (by decide) ?_
        refine o_aload_n hx hb dX5_sumOfLacks_16 hl rfl ?_
        refine g_get hC hG us_X5 rfl 0 (by decide) fl_X5_9 (V_mea (by omega) (by omega)) rfl dX5_sumOfLacks_17 ?_
        refine o_iload_n hx hb dX5_sumOfLacks_20 hl rfl ?_
        refine g_iald hC hG (V_meaA (by omega) (by omega)) _ rfl (by omega) (by omega) dX5_sumOfLacks_21 ?_
        refine lv_isub hx hb dX5_sumOfLacks_22 ?_
        refine lv_iadd hx hb dX5_sumOfLacks_23 ?_
        refine o_istore_n hx hb dX5_sumOfLacks_24 hl (by decide) rfl (fun ls hl => ?_)
        refine o_iinc1 hx hb dX5_sumOfLacks_25 hl rfl (by decide) rfl (fun ls hl => ?_)
        refine lv_goto (tgt := 4) hx hb dX5_sumOfLacks_28 (by decide) ?_
        exact ih4 (b + 1) (by omega) ls hl
  exact loop4 6 0 (by omega) ls hl
theorem k_X5_sumOfLacks {p : Program} {l : Launch} {e : Env} {R : Room} {s : State} {m : MethodId} {args : Array Value} {below : List Frame} {meth : Method} {c : Code} {H : Heap} {locs : List Loc} {cells slots : Nat} {Q : State → Prop} {cc : ByteArray} {pc nL : Nat} {ls : Array Slot} {rest : List Value} {own : String} {D : va_G} {cy : Nat → ClassId} {sa : Nat → Nat} {de B : Nat} {ad : Ad} {S : St} {n : Nat → Nat} {T : St} {k : Nat → Nat} {th : Int32} {X : Rl} {i j : Nat}  (hC : Cx p m c cc nL s args own D cy sa de B) (hS : va_S (AB B) s.heap H locs) (hG : GW D B ad (Vw cy de ad S n T k th X) H) (h0 : i < n 4 ∧ j < 3)  {idx : Nat} (wl : Cond.methodLink own idx yX5_sumOfLacks ∈ G0) (hR : 0 + 1 ≤ R.frames ∧ 8 + (3 + 11) + 0 ≤ R.locals) (hsz : ls.size = nL) (hst : (rest.map fun v => v.category).sum ≤ 8) (hdg : decode cc pc = .ok (.invokevirtual idx, 3)) (hcs : cells + 0 ≤ R.cells ∧ slots + 0 ≤ R.slots) (kk : W p l e R s m args below meth c H locs cells slots Q (F0 m (pc + 3) ls (.int (sumLk (fMea S i j) 5) :: rest))) : W p l e R s m args below meth c H locs cells slots Q (F0 m pc ls (.ref (ad 4 i j) :: rest)) :=
  vp_callSi (va_Run.run (rV hC hS hG h0 (As := []) (c_X5_sumOfLacks l) ⟨rfl, rfl⟩ wl im_X5_sumOfLacks sl_X5_X5_sumOfLacks in_X5 cd_X5_sumOfLacks (n := 0) (by decide +kernel) hR (recv hC hG (q := (RX5, TX5, 1)) rfl (V_mea h0.1 h0.2)) rfl hsz hst rfl hdg hcs)) (fun r hr => by subst hr; exact kk)
set_option maxHeartbeats 4000000 in
set_option maxRecDepth 100000 in
theorem c_X5_isFarAbove (l : Launch) {D : va_G} {cy : Nat → ClassId} {sa : Nat → Nat} {de B : Nat} {ad : Ad} {S : St} {n : Nat → Nat} {T : St} {k : Nat → Nat} {th : Int32} {X : Rl} {i j a b : Nat}  : Met l yX5_isFarAbove (Cond.code yX5_isFarAbove cX5_isFarAbove 3 (Option.some Jvm.ClassFile.FieldType.boolean) :: G0) ({ frames := 1, cells := 0, slots := 0, locals := 21 } : Room) (va_Pc [.ref (ad 4 i j), .ref (ad 4 a b)] (PW D cy sa de B ad (Vw cy de ad S n T k th X) (i < n 4 ∧ j < 3 ∧ a < n 4 ∧ b < 3))) (vp_Si (fun r => (r = 1 ∧ (∃ y, y < 5 ∧ 20 < fMea S i j y - fMea S a b y)) ∨ (r = 0 ∧ ¬ (∃ y, y < 5 ∧ 20 < fMea S i j y - fMea S a b y)))) 0 0 (fun _ => False) := by
  refine E_met (own := RX5) rfl rfl (Nat.le_of_ble_eq_true rfl) ?_
  intro p e s m below meth c hC hr hlk hnm hG h0 ls hl
  have hx := hC.x
  have hb := hC.b
  have hS : va_S (AB B) s.heap s.heap [] := va_S.rf
  have hl : lo ls 3 [some (.ref (ad 4 i j)), some (.ref (ad 4 a b)), none] := lo_of hl
  obtain ⟨hi, hj, ha, hb3⟩ := h0
  refine lv_iconst (v := 0) hx hb dX5_isFarAbove_0 (by decide) ?_
  refine o_istore_n hx hb dX5_isFarAbove_1 hl (by decide) rfl (fun ls hl => ?_)
  have loop2 : ∀ (q9 : Nat) (y : Nat), y ≤ 5 ∧ 5 < y + q9 → (∀ z, z < y → ¬ 20 < fMea S i j z - fMea S a b z) → ∀ ls : Array Slot, lo ls 3 [some (.ref (ad 4 i j)), some (.ref (ad 4 a b)), some (.int (nI y))] → W p l e ({ frames := 1, cells := 0, slots := 0, locals := 21 } : Room) s m [.ref (ad 4 i j), .ref (ad 4 a b)].toArray below meth c s.heap [] 0 0 (MQ below (vp_Si (fun r => (r = 1 ∧ (∃ y, y < 5 ∧ 20 < fMea S i j y - fMea S a b y)) ∨ (r = 0 ∧ ¬ (∃ y, y < 5 ∧ 20 < fMea S i j y - fMea S a b y)))) [.ref (ad 4 i j), .ref (ad 4 a b)].toArray s 0 0 (fun _ => False)) (F0 m 2 ls []) := by
    intro q9
    induction q9 with
    | zero => intro y hq9; exact absurd hq9 (by omega)
    | succ q9 ih2 =>
      intro y hq9 hn  ls hl
      refine o_iload_n hx hb dX5_isFarAbove_2 hl rfl ?_
      refine lv_iconst (v := 5) hx hb dX5_isFarAbove_3 (by decide) ?_
      refine n_icmp_ge (tgt := 31) hx hb y 5 rfl rfl (by omega) (by omega) dX5_isFarAbove_4 (by decide) (fun h4 => ?_) (fun h4 => ?_)
      · skip
        refine lv_iconst (v := 0) hx hb dX5_isFarAbove_31 (by decide) ?_
        exact R_i hC hr hlk rfl (Or.inr ⟨rfl, fun ⟨z, hz, h⟩ => hn z (by omega) h⟩) dX5_isFarAbove_32
      · skip
        refine o_aload_n hx hb dX5_isFarAbove_7 hl rfl ?_
        refine o_iload_n hx hb dX5_isFarAbove_8 hl rfl ?_
        refine k_X5_of hC hS hG ⟨by omega, by omega, by omega⟩ ml_X5_15 ⟨Nat.le_of_ble_eq_true rfl, Nat.le_of_ble_eq_true rfl⟩ hl.1 (Nat.le_of_ble_eq_true rfl) dX5_isFarAbove_9 ⟨Nat.le_of_ble_eq_true rfl, Nat.le_of_ble_eq_true rfl⟩ ?_
        refine o_aload_n hx hb dX5_isFarAbove_12 hl rfl ?_
        refine o_iload_n hx hb dX5_isFarAbove_13 hl rfl ?_
        refine k_X5_of hC hS hG ⟨by omega, by omega, by omega⟩ ml_X5_15 ⟨Nat.le_of_ble_eq_true rfl, Nat.le_of_ble_eq_true rfl⟩ hl.1 (Nat.le_of_ble_eq_true rfl) dX5_isFarAbove_14 ⟨Nat.le_of_ble_eq_true rfl, Nat.le_of_ble_eq_true rfl⟩ ?_
        refine lv_isub hx hb dX5_isFarAbove_17 ?_
        refine lv_bipush (v := 20) hx hb dX5_isFarAbove_18 (by decide) ?_
        refine lv_icmp_le (tgt := 25) hx hb dX5_isFarAbove_20 (by decide) (fun h20 => ?_) (fun h20 => ?_)
        · skip
          refine o_iinc1 hx hb dX5_isFarAbove_25 hl rfl (by decide) rfl (fun ls hl => ?_)
          refine lv_goto (tgt := 2) hx hb dX5_isFarAbove_28 (by decide) ?_
          exact ih2 (y + 1) (by omega) (fun z hz => (Nat.lt_or_ge z y).elim (hn z) (fun h => by rw [show z = y by omega]; exact fun h2 => absurd h20 (Int32.not_le.mpr h2))) ls hl
        · skip
          refine lv_iconst (v := 1) hx hb dX5_isFarAbove_23 (by decide) ?_
          exact R_i hC hr hlk rfl (Or.inl ⟨rfl, y, by omega, Int32.not_le.mp h20⟩) dX5_isFarAbove_24
  exact loop2 6 0 (by omega) (fun _ h => absurd h (Nat.not_lt_zero _)) ls hl
theorem k_X5_isFarAbove {p : Program} {l : Launch} {e : Env} {R : Room} {s : State} {m : MethodId} {args : Array Value} {below : List Frame} {meth : Method} {c : Code} {H : Heap} {locs : List Loc} {cells slots : Nat} {Q : State → Prop} {cc : ByteArray} {pc nL : Nat} {ls : Array Slot} {rest : List Value} {own : String} {D : va_G} {cy : Nat → ClassId} {sa : Nat → Nat} {de B : Nat} {ad : Ad} {S : St} {n : Nat → Nat} {T : St} {k : Nat → Nat} {th : Int32} {X : Rl} {i j a b : Nat}  (hC : Cx p m c cc nL s args own D cy sa de B) (hS : va_S (AB B) s.heap H locs) (hG : GW D B ad (Vw cy de ad S n T k th X) H) (h0 : i < n 4 ∧ j < 3 ∧ a < n 4 ∧ b < 3)  {idx : Nat} (wl : Cond.methodLink own idx yX5_isFarAbove ∈ G0) (hR : 1 + 1 ≤ R.frames ∧ 8 + (3 + 11) + 21 ≤ R.locals) (hsz : ls.size = nL) (hst : (rest.map fun v => v.category).sum ≤ 8) (hdg : decode cc pc = .ok (.invokevirtual idx, 3)) (hcs : cells + 0 ≤ R.cells ∧ slots + 0 ≤ R.slots) (kt : (∃ y, y < 5 ∧ 20 < fMea S i j y - fMea S a b y) → W p l e R s m args below meth c H locs cells slots Q (F0 m (pc + 3) ls (.int 1 :: rest))) (kf : ¬ (∃ y, y < 5 ∧ 20 < fMea S i j y - fMea S a b y) → W p l e R s m args below meth c H locs cells slots Q (F0 m (pc + 3) ls (.int 0 :: rest))) : W p l e R s m args below meth c H locs cells slots Q (F0 m pc ls (.ref (ad 4 a b) :: .ref (ad 4 i j) :: rest)) :=
  vp_callSi (va_Run.run (rV hC hS hG h0 (As := [.ref (ad 4 a b)]) (c_X5_isFarAbove l) ⟨rfl, rfl⟩ wl im_X5_isFarAbove sl_X5_X5_isFarAbove in_X5 cd_X5_isFarAbove (n := 1) (by decide +kernel) hR (recv hC hG (q := (RX5, TX5, 1)) rfl (V_mea h0.1 h0.2.1)) rfl hsz hst rfl hdg hcs)) (fun r hr => by rcases hr with ⟨rfl, hp⟩ | ⟨rfl, hp⟩; exact kt hp; exact kf hp)
set_option maxHeartbeats 4000000 in
set_option maxRecDepth 100000 in
theorem c_X4_holds (l : Launch) {D : va_G} {cy : Nat → ClassId} {sa : Nat → Nat} {de B : Nat} {ad : Ad} {S : St} {n : Nat → Nat} {T : St} {k : Nat → Nat} {th : Int32} {X : Rl} {q i j a : Nat}  : Met l yX4_holds (Cond.code yX4_holds cX4_holds 3 (Option.some Jvm.ClassFile.FieldType.boolean) :: G0) ({ frames := 2, cells := 0, slots := 0, locals := 42 } : Room) (va_Pc [.ref (ad 7 q 0), .ref (ad 4 i j)] (PW D cy sa de B ad (Vw cy de ad S n T k th X) (q < n 6 ∧ i < n 4 ∧ j < 3 ∧ a < 5 ∧ S 13 q 0 = nI a))) (vp_Si (fun r => (r = 1 ∧ holdsP S q (fMea S i j)) ∨ (r = 0 ∧ ¬ holdsP S q (fMea S i j)))) 0 0 (fun _ => False) := by
  refine E_met (own := RX4) rfl rfl (Nat.le_of_ble_eq_true rfl) ?_
  intro p e s m below meth c hC hr hlk hnm hG h0 ls hl
  have hx := hC.x
  have hb := hC.b
  have hS : va_S (AB B) s.heap s.heap [] := va_S.rf
  have hl : lo ls 3 [some (.ref (ad 7 q 0)), some (.ref (ad 4 i j)), none] := lo_of hl
  obtain ⟨hq, hi, hj, ha, hka⟩ := h0
  have hcl : (S 13 q 0).toNatClampNeg = a := by rw [hka]; exact nI_clamp (by omega)
  refine o_aload_n hx hb dX4_holds_0 hl rfl ?_
  refine k_X5_sumOfLacks hC hS hG ⟨by omega, by omega⟩ ml_X4_30 ⟨Nat.le_of_ble_eq_true rfl, Nat.le_of_ble_eq_true rfl⟩ hl.1 (Nat.le_of_ble_eq_true rfl) dX4_holds_1 ⟨Nat.le_of_ble_eq_true rfl, Nat.le_of_ble_eq_true rfl⟩ ?_
  refine o_istore_n hx hb dX4_holds_4 hl (by decide) rfl (fun ls hl => ?_)
  refine o_aload_n hx hb dX4_holds_5 hl rfl ?_
  refine o_aload_n hx hb dX4_holds_6 hl rfl ?_
  refine g_get hC hG us_X4 rfl 1 (by decide) fl_X4_18 (V_kind (by omega)) rfl dX4_holds_7 ?_
  rw [hka]
  refine k_X5_lackOf hC hS hG ⟨by omega, by omega, by omega⟩ ml_X4_36 ⟨Nat.le_of_ble_eq_true rfl, Nat.le_of_ble_eq_true rfl⟩ hl.1 (Nat.le_of_ble_eq_true rfl) dX4_holds_10 ⟨Nat.le_of_ble_eq_true rfl, Nat.le_of_ble_eq_true rfl⟩ ?_
  refine o_aload_n hx hb dX4_holds_13 hl rfl ?_
  refine g_get hC hG us_X4 rfl 2 (by decide) fl_X4_21 (V_kind (by omega)) rfl dX4_holds_14 ?_
  refine lv_icmp_lt (tgt := 40) hx hb dX4_holds_17 (by decide) (fun h17 => ?_) (fun h17 => ?_)
  · skip
    refine lv_iconst (v := 0) hx hb dX4_holds_40 (by decide) ?_
    exact R_i hC hr hlk rfl (by first | exact Or.inl ⟨rfl, by unfold holdsP; rw [hcl]; exact ⟨Int32.not_lt.mp h17, Int32.not_lt.mp h25, Int32.not_lt.mp h33⟩⟩ | exact Or.inr ⟨rfl, fun h => by unfold holdsP at h; rw [hcl] at h; first | exact absurd h17 (Int32.not_lt.mpr h.1) | exact absurd h25 (Int32.not_lt.mpr h.2.1) | exact absurd h33 (Int32.not_lt.mpr h.2.2)⟩) dX4_holds_41
  · skip
    refine o_iload_n hx hb dX4_holds_20 hl rfl ?_
    refine o_aload_n hx hb dX4_holds_21 hl rfl ?_
    refine g_get hC hG us_X4 rfl 3 (by decide) fl_X4_24 (V_kind (by omega)) rfl dX4_holds_22 ?_
    refine lv_icmp_lt (tgt := 40) hx hb dX4_holds_25 (by decide) (fun h25 => ?_) (fun h25 => ?_)
    · skip
      refine lv_iconst (v := 0) hx hb dX4_holds_40 (by decide) ?_
      exact R_i hC hr hlk rfl (by first | exact Or.inl ⟨rfl, by unfold holdsP; rw [hcl]; exact ⟨Int32.not_lt.mp h17, Int32.not_lt.mp h25, Int32.not_lt.mp h33⟩⟩ | exact Or.inr ⟨rfl, fun h => by unfold holdsP at h; rw [hcl] at h; first | exact absurd h17 (Int32.not_lt.mpr h.1) | exact absurd h25 (Int32.not_lt.mpr h.2.1) | exact absurd h33 (Int32.not_lt.mpr h.2.2)⟩) dX4_holds_41
    · skip
      refine o_iload_n hx hb dX4_holds_28 hl rfl ?_
      refine o_aload_n hx hb dX4_holds_29 hl rfl ?_
      refine g_get hC hG us_X4 rfl 4 (by decide) fl_X4_27 (V_kind (by omega)) rfl dX4_holds_30 ?_
      refine lv_icmp_gt (tgt := 40) hx hb dX4_holds_33 (by decide) (fun h33 => ?_) (fun h33 => ?_)
      · skip
        refine lv_iconst (v := 0) hx hb dX4_holds_40 (by decide) ?_
        exact R_i hC hr hlk rfl (by first | exact Or.inl ⟨rfl, by unfold holdsP; rw [hcl]; exact ⟨Int32.not_lt.mp h17, Int32.not_lt.mp h25, Int32.not_lt.mp h33⟩⟩ | exact Or.inr ⟨rfl, fun h => by unfold holdsP at h; rw [hcl] at h; first | exact absurd h17 (Int32.not_lt.mpr h.1) | exact absurd h25 (Int32.not_lt.mpr h.2.1) | exact absurd h33 (Int32.not_lt.mpr h.2.2)⟩) dX4_holds_41
      · skip
        refine lv_iconst (v := 1) hx hb dX4_holds_36 (by decide) ?_
        refine lv_goto (tgt := 41) hx hb dX4_holds_37 (by decide) ?_
        exact R_i hC hr hlk rfl (by first | exact Or.inl ⟨rfl, by unfold holdsP; rw [hcl]; exact ⟨Int32.not_lt.mp h17, Int32.not_lt.mp h25, Int32.not_lt.mp h33⟩⟩ | exact Or.inr ⟨rfl, fun h => by unfold holdsP at h; rw [hcl] at h; first | exact absurd h17 (Int32.not_lt.mpr h.1) | exact absurd h25 (Int32.not_lt.mpr h.2.1) | exact absurd h33 (Int32.not_lt.mpr h.2.2)⟩) dX4_holds_41
theorem k_X4_holds {p : Program} {l : Launch} {e : Env} {R : Room} {s : State} {m : MethodId} {args : Array Value} {below : List Frame} {meth : Method} {c : Code} {H : Heap} {locs : List Loc} {cells slots : Nat} {Q : State → Prop} {cc : ByteArray} {pc nL : Nat} {ls : Array Slot} {rest : List Value} {own : String} {D : va_G} {cy : Nat → ClassId} {sa : Nat → Nat} {de B : Nat} {ad : Ad} {S : St} {n : Nat → Nat} {T : St} {k : Nat → Nat} {th : Int32} {X : Rl} {q i j a : Nat}  (hC : Cx p m c cc nL s args own D cy sa de B) (hS : va_S (AB B) s.heap H locs) (hG : GW D B ad (Vw cy de ad S n T k th X) H) (h0 : q < n 6 ∧ i < n 4 ∧ j < 3 ∧ a < 5 ∧ S 13 q 0 = nI a)  {idx : Nat} (wl : Cond.methodLink own idx yX4_holds ∈ G0) (hR : 2 + 1 ≤ R.frames ∧ 8 + (3 + 11) + 42 ≤ R.locals) (hsz : ls.size = nL) (hst : (rest.map fun v => v.category).sum ≤ 8) (hdg : decode cc pc = .ok (.invokevirtual idx, 3)) (hcs : cells + 0 ≤ R.cells ∧ slots + 0 ≤ R.slots) (kt : (holdsP S q (fMea S i j)) → W p l e R s m args below meth c H locs cells slots Q (F0 m (pc + 3) ls (.int 1 :: rest))) (kf : ¬ (holdsP S q (fMea S i j)) → W p l e R s m args below meth c H locs cells slots Q (F0 m (pc + 3) ls (.int 0 :: rest))) : W p l e R s m args below meth c H locs cells slots Q (F0 m pc ls (.ref (ad 4 i j) :: .ref (ad 7 q 0) :: rest)) :=
  vp_callSi (va_Run.run (rV hC hS hG h0 (As := [.ref (ad 4 i j)]) (c_X4_holds l) ⟨rfl, rfl⟩ wl im_X4_holds sl_X4_X4_holds in_X4 cd_X4_holds (n := 1) (by decide +kernel) hR (recv hC hG (q := (RX4, TX4, 6)) rfl (V_kind h0.1)) rfl hsz hst rfl hdg hcs)) (fun r hr => by rcases hr with ⟨rfl, hp⟩ | ⟨rfl, hp⟩; exact kt hp; exact kf hp)
set_option maxHeartbeats 4000000 in
set_option maxRecDepth 100000 in
theorem c_X4_drawBounds (l : Launch) {D : va_G} {cy : Nat → ClassId} {sa : Nat → Nat} {de B : Nat} {ad : Ad} {S : St} {n : Nat → Nat} {T : St} {k : Nat → Nat} {th : Int32} {X : Rl} {q : Nat} {x y : Int32}  : Met l yX4_drawBounds (Cond.code yX4_drawBounds cX4_drawBounds 3 (Option.none : Option Jvm.ClassFile.FieldType) :: G0) ({ frames := 0, cells := 0, slots := 0, locals := 0 } : Room) (va_Pc [.ref (ad 7 q 0), .int x, .int y] (PW D cy sa de B ad (Vw cy de ad S n T k th X) (q < n 6))) (oV B (fun H => GW D B ad (Vw cy de ad (up3 (up3 (up3 S 13 q 2 x) 13 q 3 y) 14 q 0 (-1)) n T k th X) H)) 0 0 (AB B) := by
  refine E_met (own := RX4) rfl rfl (Nat.le_of_ble_eq_true rfl) ?_
  intro p e s m below meth c hC hr hlk hnm hG h0 ls hl
  have hx := hC.x
  have hb := hC.b
  have hS : va_S (AB B) s.heap s.heap [] := va_S.rf
  have hl : lo ls 3 [some (.ref (ad 7 q 0)), some (.int x), some (.int y)] := lo_of hl
  refine o_aload_n hx hb dX4_drawBounds_0 hl rfl ?_
  refine o_iload_n hx hb dX4_drawBounds_1 hl rfl ?_
  refine g_put hC hG hS us_X4 tyX4_ok nmX4 rfl 3 (by decide) fl_X4_24 rfl (V_kind (by omega)) rfl rfl (Nat.le_of_ble_eq_true rfl) (P_kind_leastSum (by omega)) dX4_drawBounds_2 (fun H locs hG hS => ?_)
  refine o_aload_n hx hb dX4_drawBounds_5 hl rfl ?_
  refine o_iload_n hx hb dX4_drawBounds_6 hl rfl ?_
  refine g_put hC hG hS us_X4 tyX4_ok nmX4 rfl 4 (by decide) fl_X4_27 rfl (V_kind (by omega)) rfl rfl (Nat.le_of_ble_eq_true rfl) (P_kind_greatestSum (by omega)) dX4_drawBounds_7 (fun H locs hG hS => ?_)
  refine o_aload_n hx hb dX4_drawBounds_10 hl rfl ?_
  refine lv_iconst (v := (-1)) hx hb dX4_drawBounds_11 (by decide) ?_
  refine g_put hC hG hS us_X4 tyX4_ok nmX4 rfl 5 (by decide) fl_X4_9 rfl (V_kind (by omega)) rfl rfl (Nat.le_of_ble_eq_true rfl) (P_kind_leastTime (by omega)) dX4_drawBounds_12 (fun H locs hG hS => ?_)
  exact R_V hC hS hr hlk (hG) (Nat.le_of_ble_eq_true rfl) (Nat.le_of_ble_eq_true rfl) dX4_drawBounds_15
theorem k_X4_drawBounds {p : Program} {l : Launch} {e : Env} {R : Room} {s : State} {m : MethodId} {args : Array Value} {below : List Frame} {meth : Method} {c : Code} {H : Heap} {locs : List Loc} {cells slots : Nat} {Q : State → Prop} {cc : ByteArray} {pc nL : Nat} {ls : Array Slot} {rest : List Value} {own : String} {D : va_G} {cy : Nat → ClassId} {sa : Nat → Nat} {de B : Nat} {ad : Ad} {S : St} {n : Nat → Nat} {T : St} {k : Nat → Nat} {th : Int32} {X : Rl} {q : Nat} {x y : Int32}  (hC : Cx p m c cc nL s args own D cy sa de B) (hS : va_S (AB B) s.heap H locs) (hG : GW D B ad (Vw cy de ad S n T k th X) H) (h0 : q < n 6)  {idx : Nat} (wl : Cond.methodLink own idx yX4_drawBounds ∈ G0) (hR : 0 + 1 ≤ R.frames ∧ 8 + (3 + 11) + 0 ≤ R.locals) (hsz : ls.size = nL) (hst : (rest.map fun v => v.category).sum ≤ 8) (hdg : decode cc pc = .ok (.invokevirtual idx, 3)) (hcs : cells + 0 ≤ R.cells ∧ slots + 0 ≤ R.slots) (kk : ∀ (H1 : Heap) (locs1 : List Loc), ((fun H => GW D B ad (Vw cy de ad (up3 (up3 (up3 S 13 q 2 x) 13 q 3 y) 14 q 0 (-1)) n T k th X) H)) H1 → va_S (AB B) s.heap H1 locs1 → W p l e R s m args below meth c H1 locs1 cells slots Q (F0 m (pc + 3) ls (rest))) : W p l e R s m args below meth c H locs cells slots Q (F0 m pc ls (.int y :: .int x :: .ref (ad 7 q 0) :: rest)) :=
  va_callv (rV hC hS hG h0 (As := [.int x, .int y]) (c_X4_drawBounds l) ⟨rfl, rfl⟩ wl im_X4_drawBounds sl_X4_X4_drawBounds in_X4 cd_X4_drawBounds (n := 2) (by decide +kernel) hR (recv hC hG (q := (RX4, TX4, 6)) rfl (V_kind h0)) rfl hsz hst rfl hdg hcs) hS (fun _ _ h => h) (fun _ h => h) (fun u t H1 locs1 ht _ _ hB _ _ hS1 => kk H1 locs1 (by dsimp only at hB; rw [ht] at hB; exact hB) hS1)
set_option maxHeartbeats 4000000 in
set_option maxRecDepth 100000 in
theorem c_X0_shownOf (l : Launch) {D : va_G} {cy : Nat → ClassId} {sa : Nat → Nat} {de B : Nat} {ad : Ad} {S : St} {n : Nat → Nat} {T : St} {k : Nat → Nat} {th : Int32} {X : Rl} {i a : Nat}  : Met l yX0_shownOf (Cond.code yX0_shownOf cX0_shownOf 3 (Option.some Jvm.ClassFile.FieldType.int) :: G0) ({ frames := 1, cells := 0, slots := 0, locals := 21 } : Room) (va_Pc [.ref (ad 3 i 0), .int (nI a)] (PW D cy sa de B ad (Vw cy de ad S n T k th X) (i < n 4 ∧ a < 5))) (vp_Si (fun r => r = shv S i a)) 0 0 (fun _ => False) := by
  refine E_met (own := RX0) rfl rfl (Nat.le_of_ble_eq_true rfl) ?_
  intro p e s m below meth c hC hr hlk hnm hG h0 ls hl
  have hx := hC.x
  have hb := hC.b
  have hS : va_S (AB B) s.heap s.heap [] := va_S.rf
  have hl : lo ls 3 [some (.ref (ad 3 i 0)), some (.int (nI a)), none] := lo_of hl
  obtain ⟨hi, ha⟩ := h0
  refine o_aload_n hx hb dX0_shownOf_0 hl rfl ?_
  refine g_get hC hG us_X0 rfl 3 (by decide) fl_X0_20 (V_ath (by omega)) rfl dX0_shownOf_1 ?_
  refine o_iload_n hx hb dX0_shownOf_4 hl rfl ?_
  refine k_X5_of hC hS hG ⟨by omega, by omega, by omega⟩ ml_X0_37 ⟨Nat.le_of_ble_eq_true rfl, Nat.le_of_ble_eq_true rfl⟩ hl.1 (Nat.le_of_ble_eq_true rfl) dX0_shownOf_5 ⟨Nat.le_of_ble_eq_true rfl, Nat.le_of_ble_eq_true rfl⟩ ?_
  refine o_istore_n hx hb dX0_shownOf_8 hl (by decide) rfl (fun ls hl => ?_)
  refine o_iload_n hx hb dX0_shownOf_9 hl rfl ?_
  refine lv_iconst (v := (-1)) hx hb dX0_shownOf_10 (by decide) ?_
  refine lv_icmp_ne (tgt := 25) hx hb dX0_shownOf_11 (by decide) (fun h11 => ?_) (fun h11 => ?_)
  · skip
    refine o_iload_n hx hb dX0_shownOf_25 hl rfl ?_
    exact R_i hC hr hlk rfl (by first | exact (if_neg h11).symm | exact (if_pos h11).symm) dX0_shownOf_26
  · skip
    refine o_aload_n hx hb dX0_shownOf_14 hl rfl ?_
    refine g_get hC hG us_X0 rfl 2 (by decide) fl_X0_14 (V_ath (by omega)) rfl dX0_shownOf_15 ?_
    refine o_iload_n hx hb dX0_shownOf_18 hl rfl ?_
    refine k_X5_of hC hS hG ⟨by omega, by omega, by omega⟩ ml_X0_37 ⟨Nat.le_of_ble_eq_true rfl, Nat.le_of_ble_eq_true rfl⟩ hl.1 (Nat.le_of_ble_eq_true rfl) dX0_shownOf_19 ⟨Nat.le_of_ble_eq_true rfl, Nat.le_of_ble_eq_true rfl⟩ ?_
    refine lv_goto (tgt := 26) hx hb dX0_shownOf_22 (by decide) ?_
    exact R_i hC hr hlk rfl (by first | exact (if_neg h11).symm | exact (if_pos h11).symm) dX0_shownOf_26
theorem k_X0_shownOf {p : Program} {l : Launch} {e : Env} {R : Room} {s : State} {m : MethodId} {args : Array Value} {below : List Frame} {meth : Method} {c : Code} {H : Heap} {locs : List Loc} {cells slots : Nat} {Q : State → Prop} {cc : ByteArray} {pc nL : Nat} {ls : Array Slot} {rest : List Value} {own : String} {D : va_G} {cy : Nat → ClassId} {sa : Nat → Nat} {de B : Nat} {ad : Ad} {S : St} {n : Nat → Nat} {T : St} {k : Nat → Nat} {th : Int32} {X : Rl} {i a : Nat}  (hC : Cx p m c cc nL s args own D cy sa de B) (hS : va_S (AB B) s.heap H locs) (hG : GW D B ad (Vw cy de ad S n T k th X) H) (h0 : i < n 4 ∧ a < 5)  {idx : Nat} (wl : Cond.methodLink own idx yX0_shownOf ∈ G0) (hR : 1 + 1 ≤ R.frames ∧ 8 + (3 + 11) + 21 ≤ R.locals) (hsz : ls.size = nL) (hst : (rest.map fun v => v.category).sum ≤ 8) (hdg : decode cc pc = .ok (.invokevirtual idx, 3)) (hcs : cells + 0 ≤ R.cells ∧ slots + 0 ≤ R.slots) (kk : W p l e R s m args below meth c H locs cells slots Q (F0 m (pc + 3) ls (.int (shv S i a) :: rest))) : W p l e R s m args below meth c H locs cells slots Q (F0 m pc ls (.int (nI a) :: .ref (ad 3 i 0) :: rest)) :=
  vp_callSi (va_Run.run (rV hC hS hG h0 (As := [.int (nI a)]) (c_X0_shownOf l) ⟨rfl, rfl⟩ wl im_X0_shownOf sl_X0_X0_shownOf in_X0 cd_X0_shownOf (n := 1) (by decide +kernel) hR (recv hC hG (q := (RX0, TX0, 10)) rfl (V_ath h0.1)) rfl hsz hst rfl hdg hcs)) (fun r hr => by subst hr; exact kk)
set_option maxHeartbeats 4000000 in
set_option maxRecDepth 100000 in
theorem c_X0_findWhatIsShown (l : Launch) {D : va_G} {cy : Nat → ClassId} {sa : Nat → Nat} {de B : Nat} {ad : Ad} {S : St} {n : Nat → Nat} {T : St} {k : Nat → Nat} {th : Int32} {X : Rl} {i : Nat}  : Met l yX0_findWhatIsShown (Cond.code yX0_findWhatIsShown cX0_findWhatIsShown 2 (Option.none : Option Jvm.ClassFile.FieldType) :: G0) ({ frames := 2, cells := 0, slots := 0, locals := 43 } : Room) (va_Pc [.ref (ad 3 i 0)] (PW D cy sa de B ad (Vw cy de ad S n T k th X) (i < n 4))) (oV B (fun H => GW D B ad (Vw cy de ad (up3 (fndS S i (shv S i) 5) 8 i 0 1) n T k th X) H)) 0 0 (AB B) := by
  refine E_met (own := RX0) rfl rfl (Nat.le_of_ble_eq_true rfl) ?_
  intro p e s m below meth c hC hr hlk hnm hG h0 ls hl
  have hx := hC.x
  have hb := hC.b
  have hS : va_S (AB B) s.heap s.heap [] := va_S.rf
  have hl : lo ls 2 [some (.ref (ad 3 i 0)), none] := lo_of hl
  refine lv_iconst (v := 0) hx hb dX0_findWhatIsShown_0 (by decide) ?_
  refine o_istore_n hx hb dX0_findWhatIsShown_1 hl (by decide) rfl (fun ls hl => ?_)
  have loop2 : ∀ (q9 : Nat) (y : Nat), y ≤ 5 ∧ 5 < y + q9 → ∀ (H : Heap) (locs : List Loc), GW D B ad (Vw cy de ad (fndS S i (shv S i) y) n T k th X) H → va_S (AB B) s.heap H locs → ∀ ls : Array Slot, lo ls 2 [some (.ref (ad 3 i 0)), some (.int (nI y))] → W p l e ({ frames := 2, cells := 0, slots := 0, locals := 43 } : Room) s m [.ref (ad 3 i 0)].toArray below meth c H locs 0 0 (MQ below (oV B (fun H => GW D B ad (Vw cy de ad (up3 (fndS S i (shv S i) 5) 8 i 0 1) n T k th X) H)) [.ref (ad 3 i 0)].toArray s 0 0 (AB B)) (F0 m 2 ls []) := by
    intro q9
    induction q9 with
    | zero => intro y hq9; exact absurd hq9 (by omega)
    | succ q9 ih2 =>
      intro y hq9  H locs hG hS ls hl
      refine o_iload_n hx hb dX0_findWhatIsShown_2 hl rfl ?_
      refine lv_iconst (v := 5) hx hb dX0_findWhatIsShown_3 (by decide) ?_
      refine n_icmp_ge (tgt := 26) hx hb y 5 rfl rfl (by omega) (by omega) dX0_findWhatIsShown_4 (by decide) (fun h4 => ?_) (fun h4 => ?_)
      · skip
        have hy : y = 5 := by omega
        subst hy
        refine o_aload_n hx hb dX0_findWhatIsShown_26 hl rfl ?_
        refine lv_iconst (v := 1) hx hb dX0_findWhatIsShown_27 (by decide) ?_
        refine g_put hC hG hS us_X0 tyX0_ok nmX0 rfl 5 (by decide) fl_X0_48 rfl (V_ath (by omega)) rfl rfl (Nat.le_of_ble_eq_true rfl) (P_ath_wasFound (by omega)) dX0_findWhatIsShown_28 (fun H locs hG hS => ?_)
        exact R_V hC hS hr hlk (hG) (Nat.le_of_ble_eq_true rfl) (Nat.le_of_ble_eq_true rfl) dX0_findWhatIsShown_31
      · skip
        refine o_aload_n hx hb dX0_findWhatIsShown_7 hl rfl ?_
        refine g_get hC hG us_X0 rfl 4 (by decide) fl_X0_23 (V_ath (by omega)) rfl dX0_findWhatIsShown_8 ?_
        refine o_iload_n hx hb dX0_findWhatIsShown_11 hl rfl ?_
        refine o_aload_n hx hb dX0_findWhatIsShown_12 hl rfl ?_
        refine o_iload_n hx hb dX0_findWhatIsShown_13 hl rfl ?_
        refine k_X0_shownOf hC hS hG ⟨by omega, by omega⟩ ml_X0_41 ⟨Nat.le_of_ble_eq_true rfl, Nat.le_of_ble_eq_true rfl⟩ hl.1 (Nat.le_of_ble_eq_true rfl) dX0_findWhatIsShown_14 ⟨Nat.le_of_ble_eq_true rfl, Nat.le_of_ble_eq_true rfl⟩ ?_
        rw [show shv (fndS S i (shv S i) y) i y = shv S i y by unfold shv; rw [fndS_o y (by omega), fndS_o y (by omega)]]
        refine k_X5_tell hC hS hG ⟨by omega, by omega, by omega⟩ ml_X0_44 ⟨Nat.le_of_ble_eq_true rfl, Nat.le_of_ble_eq_true rfl⟩ hl.1 (Nat.le_of_ble_eq_true rfl) dX0_findWhatIsShown_17 ⟨Nat.le_of_ble_eq_true rfl, Nat.le_of_ble_eq_true rfl⟩ (fun H locs hG hS => ?_)
        refine o_iinc1 hx hb dX0_findWhatIsShown_20 hl rfl (by decide) rfl (fun ls hl => ?_)
        refine lv_goto (tgt := 2) hx hb dX0_findWhatIsShown_23 (by decide) ?_
        exact ih2 (y + 1) (by omega) H locs hG hS ls hl
  exact loop2 6 0 (by omega) s.heap [] hG hS ls hl
theorem k_X0_findWhatIsShown {p : Program} {l : Launch} {e : Env} {R : Room} {s : State} {m : MethodId} {args : Array Value} {below : List Frame} {meth : Method} {c : Code} {H : Heap} {locs : List Loc} {cells slots : Nat} {Q : State → Prop} {cc : ByteArray} {pc nL : Nat} {ls : Array Slot} {rest : List Value} {own : String} {D : va_G} {cy : Nat → ClassId} {sa : Nat → Nat} {de B : Nat} {ad : Ad} {S : St} {n : Nat → Nat} {T : St} {k : Nat → Nat} {th : Int32} {X : Rl} {i : Nat}  (hC : Cx p m c cc nL s args own D cy sa de B) (hS : va_S (AB B) s.heap H locs) (hG : GW D B ad (Vw cy de ad S n T k th X) H) (h0 : i < n 4)  {idx : Nat} (wl : Cond.methodLink own idx yX0_findWhatIsShown ∈ G0) (hR : 2 + 1 ≤ R.frames ∧ 8 + (2 + 11) + 43 ≤ R.locals) (hsz : ls.size = nL) (hst : (rest.map fun v => v.category).sum ≤ 8) (hdg : decode cc pc = .ok (.invokevirtual idx, 3)) (hcs : cells + 0 ≤ R.cells ∧ slots + 0 ≤ R.slots) (kk : ∀ (H1 : Heap) (locs1 : List Loc), ((fun H => GW D B ad (Vw cy de ad (up3 (fndS S i (shv S i) 5) 8 i 0 1) n T k th X) H)) H1 → va_S (AB B) s.heap H1 locs1 → W p l e R s m args below meth c H1 locs1 cells slots Q (F0 m (pc + 3) ls (rest))) : W p l e R s m args below meth c H locs cells slots Q (F0 m pc ls (.ref (ad 3 i 0) :: rest)) :=
  va_callv (rV hC hS hG h0 (As := []) (c_X0_findWhatIsShown l) ⟨rfl, rfl⟩ wl im_X0_findWhatIsShown sl_X0_X0_findWhatIsShown in_X0 cd_X0_findWhatIsShown (n := 0) (by decide +kernel) hR (recv hC hG (q := (RX0, TX0, 10)) rfl (V_ath h0)) rfl hsz hst rfl hdg hcs) hS (fun _ _ h => h) (fun _ h => h) (fun u t H1 locs1 ht _ _ hB _ _ hS1 => kk H1 locs1 (by dsimp only at hB; rw [ht] at hB; exact hB) hS1)
set_option maxHeartbeats 4000000 in
set_option maxRecDepth 100000 in
theorem c_X0_findWhatIs (l : Launch) {D : va_G} {cy : Nat → ClassId} {sa : Nat → Nat} {de B : Nat} {ad : Ad} {S : St} {n : Nat → Nat} {T : St} {k : Nat → Nat} {th : Int32} {X : Rl} {i : Nat}  : Met l yX0_findWhatIs (Cond.code yX0_findWhatIs cX0_findWhatIs 2 (Option.none : Option Jvm.ClassFile.FieldType) :: G0) ({ frames := 1, cells := 0, slots := 0, locals := 22 } : Room) (va_Pc [.ref (ad 3 i 0)] (PW D cy sa de B ad (Vw cy de ad S n T k th X) (i < n 4))) (oV B (fun H => GW D B ad (Vw cy de ad (up3 (fndS S i (S 6 i) 5) 8 i 0 1) n T k th X) H)) 0 0 (AB B) := by
  refine E_met (own := RX0) rfl rfl (Nat.le_of_ble_eq_true rfl) ?_
  intro p e s m below meth c hC hr hlk hnm hG h0 ls hl
  have hx := hC.x
  have hb := hC.b
  have hS : va_S (AB B) s.heap s.heap [] := va_S.rf
  have hl : lo ls 2 [some (.ref (ad 3 i 0)), none] := lo_of hl
  refine lv_iconst (v := 0) hx hb dX0_findWhatIs_0 (by decide) ?_
  refine o_istore_n hx hb dX0_findWhatIs_1 hl (by decide) rfl (fun ls hl => ?_)
  have loop2 : ∀ (q9 : Nat) (y : Nat), y ≤ 5 ∧ 5 < y + q9 → ∀ (H : Heap) (locs : List Loc), GW D B ad (Vw cy de ad (fndS S i (S 6 i) y) n T k th X) H → va_S (AB B) s.heap H locs → ∀ ls : Array Slot, lo ls 2 [some (.ref (ad 3 i 0)), some (.int (nI y))] → W p l e ({ frames := 1, cells := 0, slots := 0, locals := 22 } : Room) s m [.ref (ad 3 i 0)].toArray below meth c H locs 0 0 (MQ below (oV B (fun H => GW D B ad (Vw cy de ad (up3 (fndS S i (S 6 i) 5) 8 i 0 1) n T k th X) H)) [.ref (ad 3 i 0)].toArray s 0 0 (AB B)) (F0 m 2 ls []) := by
    intro q9
    induction q9 with
    | zero => intro y hq9; exact absurd hq9 (by omega)
    | succ q9 ih2 =>
      intro y hq9  H locs hG hS ls hl
      refine o_iload_n hx hb dX0_findWhatIs_2 hl rfl ?_
      refine lv_iconst (v := 5) hx hb dX0_findWhatIs_3 (by decide) ?_
      refine n_icmp_ge (tgt := 29) hx hb y 5 rfl rfl (by omega) (by omega) dX0_findWhatIs_4 (by decide) (fun h4 => ?_) (fun h4 => ?_)
      · skip
        have hy : y = 5 := by omega
        subst hy
        refine o_aload_n hx hb dX0_findWhatIs_29 hl rfl ?_
        refine lv_iconst (v := 1) hx hb dX0_findWhatIs_30 (by decide) ?_
        refine g_put hC hG hS us_X0 tyX0_ok nmX0 rfl 5 (by decide) fl_X0_48 rfl (V_ath (by omega)) rfl rfl (Nat.le_of_ble_eq_true rfl) (P_ath_wasFound (by omega)) dX0_findWhatIs_31 (fun H locs hG hS => ?_)
        exact R_V hC hS hr hlk (hG) (Nat.le_of_ble_eq_true rfl) (Nat.le_of_ble_eq_true rfl) dX0_findWhatIs_34
      · skip
        refine o_aload_n hx hb dX0_findWhatIs_7 hl rfl ?_
        refine g_get hC hG us_X0 rfl 4 (by decide) fl_X0_23 (V_ath (by omega)) rfl dX0_findWhatIs_8 ?_
        refine o_iload_n hx hb dX0_findWhatIs_11 hl rfl ?_
        refine o_aload_n hx hb dX0_findWhatIs_12 hl rfl ?_
        refine g_get hC hG us_X0 rfl 2 (by decide) fl_X0_14 (V_ath (by omega)) rfl dX0_findWhatIs_13 ?_
        refine o_iload_n hx hb dX0_findWhatIs_16 hl rfl ?_
        refine k_X5_of hC hS hG ⟨by omega, by omega, by omega⟩ ml_X0_37 ⟨Nat.le_of_ble_eq_true rfl, Nat.le_of_ble_eq_true rfl⟩ hl.1 (Nat.le_of_ble_eq_true rfl) dX0_findWhatIs_17 ⟨Nat.le_of_ble_eq_true rfl, Nat.le_of_ble_eq_true rfl⟩ ?_
        rw [show fMea (fndS S i (S 6 i) y) i 0 y = S 6 i y from fndS_o y (by omega)]
        refine k_X5_tell hC hS hG ⟨by omega, by omega, by omega⟩ ml_X0_44 ⟨Nat.le_of_ble_eq_true rfl, Nat.le_of_ble_eq_true rfl⟩ hl.1 (Nat.le_of_ble_eq_true rfl) dX0_findWhatIs_20 ⟨Nat.le_of_ble_eq_true rfl, Nat.le_of_ble_eq_true rfl⟩ (fun H locs hG hS => ?_)
        refine o_iinc1 hx hb dX0_findWhatIs_23 hl rfl (by decide) rfl (fun ls hl => ?_)
        refine lv_goto (tgt := 2) hx hb dX0_findWhatIs_26 (by decide) ?_
        exact ih2 (y + 1) (by omega) H locs hG hS ls hl
  exact loop2 6 0 (by omega) s.heap [] hG hS ls hl
theorem k_X0_findWhatIs {p : Program} {l : Launch} {e : Env} {R : Room} {s : State} {m : MethodId} {args : Array Value} {below : List Frame} {meth : Method} {c : Code} {H : Heap} {locs : List Loc} {cells slots : Nat} {Q : State → Prop} {cc : ByteArray} {pc nL : Nat} {ls : Array Slot} {rest : List Value} {own : String} {D : va_G} {cy : Nat → ClassId} {sa : Nat → Nat} {de B : Nat} {ad : Ad} {S : St} {n : Nat → Nat} {T : St} {k : Nat → Nat} {th : Int32} {X : Rl} {i : Nat}  (hC : Cx p m c cc nL s args own D cy sa de B) (hS : va_S (AB B) s.heap H locs) (hG : GW D B ad (Vw cy de ad S n T k th X) H) (h0 : i < n 4)  {idx : Nat} (wl : Cond.methodLink own idx yX0_findWhatIs ∈ G0) (hR : 1 + 1 ≤ R.frames ∧ 8 + (2 + 11) + 22 ≤ R.locals) (hsz : ls.size = nL) (hst : (rest.map fun v => v.category).sum ≤ 8) (hdg : decode cc pc = .ok (.invokevirtual idx, 3)) (hcs : cells + 0 ≤ R.cells ∧ slots + 0 ≤ R.slots) (kk : ∀ (H1 : Heap) (locs1 : List Loc), ((fun H => GW D B ad (Vw cy de ad (up3 (fndS S i (S 6 i) 5) 8 i 0 1) n T k th X) H)) H1 → va_S (AB B) s.heap H1 locs1 → W p l e R s m args below meth c H1 locs1 cells slots Q (F0 m (pc + 3) ls (rest))) : W p l e R s m args below meth c H locs cells slots Q (F0 m pc ls (.ref (ad 3 i 0) :: rest)) :=
  va_callv (rV hC hS hG h0 (As := []) (c_X0_findWhatIs l) ⟨rfl, rfl⟩ wl im_X0_findWhatIs sl_X0_X0_findWhatIs in_X0 cd_X0_findWhatIs (n := 0) (by decide +kernel) hR (recv hC hG (q := (RX0, TX0, 10)) rfl (V_ath h0)) rfl hsz hst rfl hdg hcs) hS (fun _ _ h => h) (fun _ h => h) (fun u t H1 locs1 ht _ _ hB _ _ hS1 => kk H1 locs1 (by dsimp only at hB; rw [ht] at hB; exact hB) hS1)
set_option maxHeartbeats 4000000 in
set_option maxRecDepth 100000 in
theorem c_X0_mayCompete (l : Launch) {D : va_G} {cy : Nat → ClassId} {sa : Nat → Nat} {de B : Nat} {ad : Ad} {S : St} {n : Nat → Nat} {T : St} {k : Nat → Nat} {th : Int32} {X : Rl} {i : Nat}  : Met l yX0_mayCompete (Cond.code yX0_mayCompete cX0_mayCompete 1 (Option.some Jvm.ClassFile.FieldType.boolean) :: G0) ({ frames := 0, cells := 0, slots := 0, locals := 0 } : Room) (va_Pc [.ref (ad 3 i 0)] (PW D cy sa de B ad (Vw cy de ad S n T k th X) (i < n 4))) (vp_Si (fun r => (r = 1 ∧ mayP S i) ∨ (r = 0 ∧ ¬ mayP S i))) 0 0 (fun _ => False) := by
  refine E_met (own := RX0) rfl rfl (Nat.le_of_ble_eq_true rfl) ?_
  intro p e s m below meth c hC hr hlk hnm hG h0 ls hl
  have hx := hC.x
  have hb := hC.b
  have hS : va_S (AB B) s.heap s.heap [] := va_S.rf
  have hl : lo ls 1 [some (.ref (ad 3 i 0))] := lo_of hl
  refine o_aload_n hx hb dX0_mayCompete_0 hl rfl ?_
  refine g_get hC hG us_X0 rfl 6 (by decide) fl_X0_26 (V_ath (by omega)) rfl dX0_mayCompete_1 ?_
  refine lv_bipush (v := 110) hx hb dX0_mayCompete_4 (by decide) ?_
  refine lv_icmp_eq (tgt := 27) hx hb dX0_mayCompete_6 (by decide) (fun h6 => ?_) (fun h6 => ?_)
  · skip
    refine lv_iconst (v := 1) hx hb dX0_mayCompete_27 (by decide) ?_
    refine lv_goto (tgt := 32) hx hb dX0_mayCompete_28 (by decide) ?_
    exact R_i hC hr hlk rfl (by first | exact Or.inl ⟨rfl, Or.inl (by assumption)⟩ | exact Or.inl ⟨rfl, Or.inr (Or.inl (by assumption))⟩ | exact Or.inl ⟨rfl, Or.inr (Or.inr ((by assumption)))⟩ | exact Or.inr ⟨rfl, fun h => by rcases h with h | h | h <;> contradiction⟩) dX0_mayCompete_32
  · skip
    refine o_aload_n hx hb dX0_mayCompete_9 hl rfl ?_
    refine g_get hC hG us_X0 rfl 6 (by decide) fl_X0_26 (V_ath (by omega)) rfl dX0_mayCompete_10 ?_
    refine lv_bipush (v := 99) hx hb dX0_mayCompete_13 (by decide) ?_
    refine lv_icmp_eq (tgt := 27) hx hb dX0_mayCompete_15 (by decide) (fun h15 => ?_) (fun h15 => ?_)
    · skip
      refine lv_iconst (v := 1) hx hb dX0_mayCompete_27 (by decide) ?_
      refine lv_goto (tgt := 32) hx hb dX0_mayCompete_28 (by decide) ?_
      exact R_i hC hr hlk rfl (by first | exact Or.inl ⟨rfl, Or.inl (by assumption)⟩ | exact Or.inl ⟨rfl, Or.inr (Or.inl (by assumption))⟩ | exact Or.inl ⟨rfl, Or.inr (Or.inr ((by assumption)))⟩ | exact Or.inr ⟨rfl, fun h => by rcases h with h | h | h <;> contradiction⟩) dX0_mayCompete_32
    · skip
      refine o_aload_n hx hb dX0_mayCompete_18 hl rfl ?_
      refine g_get hC hG us_X0 rfl 6 (by decide) fl_X0_26 (V_ath (by omega)) rfl dX0_mayCompete_19 ?_
      refine lv_bipush (v := 114) hx hb dX0_mayCompete_22 (by decide) ?_
      refine lv_icmp_ne (tgt := 31) hx hb dX0_mayCompete_24 (by decide) (fun h24 => ?_) (fun h24 => ?_)
      · skip
        refine lv_iconst (v := 0) hx hb dX0_mayCompete_31 (by decide) ?_
        exact R_i hC hr hlk rfl (by first | exact Or.inl ⟨rfl, Or.inl (by assumption)⟩ | exact Or.inl ⟨rfl, Or.inr (Or.inl (by assumption))⟩ | exact Or.inl ⟨rfl, Or.inr (Or.inr ((by assumption)))⟩ | exact Or.inr ⟨rfl, fun h => by rcases h with h | h | h <;> contradiction⟩) dX0_mayCompete_32
      · skip
        refine lv_iconst (v := 1) hx hb dX0_mayCompete_27 (by decide) ?_
        refine lv_goto (tgt := 32) hx hb dX0_mayCompete_28 (by decide) ?_
        exact R_i hC hr hlk rfl (by first | exact Or.inl ⟨rfl, Or.inl (by assumption)⟩ | exact Or.inl ⟨rfl, Or.inr (Or.inl (by assumption))⟩ | exact Or.inl ⟨rfl, Or.inr (Or.inr ((by assumption)))⟩ | exact Or.inr ⟨rfl, fun h => by rcases h with h | h | h <;> contradiction⟩) dX0_mayCompete_32
theorem k_X0_mayCompete {p : Program} {l : Launch} {e : Env} {R : Room} {s : State} {m : MethodId} {args : Array Value} {below : List Frame} {meth : Method} {c : Code} {H : Heap} {locs : List Loc} {cells slots : Nat} {Q : State → Prop} {cc : ByteArray} {pc nL : Nat} {ls : Array Slot} {rest : List Value} {own : String} {D : va_G} {cy : Nat → ClassId} {sa : Nat → Nat} {de B : Nat} {ad : Ad} {S : St} {n : Nat → Nat} {T : St} {k : Nat → Nat} {th : Int32} {X : Rl} {i : Nat}  (hC : Cx p m c cc nL s args own D cy sa de B) (hS : va_S (AB B) s.heap H locs) (hG : GW D B ad (Vw cy de ad S n T k th X) H) (h0 : i < n 4)  {idx : Nat} (wl : Cond.methodLink own idx yX0_mayCompete ∈ G0) (hR : 0 + 1 ≤ R.frames ∧ 8 + (1 + 11) + 0 ≤ R.locals) (hsz : ls.size = nL) (hst : (rest.map fun v => v.category).sum ≤ 8) (hdg : decode cc pc = .ok (.invokevirtual idx, 3)) (hcs : cells + 0 ≤ R.cells ∧ slots + 0 ≤ R.slots) (kt : (mayP S i) → W p l e R s m args below meth c H locs cells slots Q (F0 m (pc + 3) ls (.int 1 :: rest))) (kf : ¬ (mayP S i) → W p l e R s m args below meth c H locs cells slots Q (F0 m (pc + 3) ls (.int 0 :: rest))) : W p l e R s m args below meth c H locs cells slots Q (F0 m pc ls (.ref (ad 3 i 0) :: rest)) :=
  vp_callSi (va_Run.run (rV hC hS hG h0 (As := []) (c_X0_mayCompete l) ⟨rfl, rfl⟩ wl im_X0_mayCompete sl_X0_X0_mayCompete in_X0 cd_X0_mayCompete (n := 0) (by decide +kernel) hR (recv hC hG (q := (RX0, TX0, 10)) rfl (V_ath h0)) rfl hsz hst rfl hdg hcs)) (fun r hr => by rcases hr with ⟨rfl, hp⟩ | ⟨rfl, hp⟩; exact kt hp; exact kf hp)
set_option maxHeartbeats 4000000 in
set_option maxRecDepth 100000 in
theorem c_X0_waits (l : Launch) {D : va_G} {cy : Nat → ClassId} {sa : Nat → Nat} {de B : Nat} {ad : Ad} {S : St} {n : Nat → Nat} {T : St} {k : Nat → Nat} {th : Int32} {X : Rl} {i : Nat}  : Met l yX0_waits (Cond.code yX0_waits cX0_waits 1 (Option.some Jvm.ClassFile.FieldType.boolean) :: G0) ({ frames := 0, cells := 0, slots := 0, locals := 0 } : Room) (va_Pc [.ref (ad 3 i 0)] (PW D cy sa de B ad (Vw cy de ad S n T k th X) (i < n 4))) (vp_Si (fun r => (r = 1 ∧ waitP S i) ∨ (r = 0 ∧ ¬ waitP S i))) 0 0 (fun _ => False) := by
  refine E_met (own := RX0) rfl rfl (Nat.le_of_ble_eq_true rfl) ?_
  intro p e s m below meth c hC hr hlk hnm hG h0 ls hl
  have hx := hC.x
  have hb := hC.b
  have hS : va_S (AB B) s.heap s.heap [] := va_S.rf
  have hl : lo ls 1 [some (.ref (ad 3 i 0))] := lo_of hl
  refine o_aload_n hx hb dX0_waits_0 hl rfl ?_
  refine g_get hC hG us_X0 rfl 6 (by decide) fl_X0_26 (V_ath (by omega)) rfl dX0_waits_1 ?_
  refine lv_bipush (v := 120) hx hb dX0_waits_4 (by decide) ?_
  refine lv_icmp_eq (tgt := 18) hx hb dX0_waits_6 (by decide) (fun h6 => ?_) (fun h6 => ?_)
  · skip
    refine lv_iconst (v := 1) hx hb dX0_waits_18 (by decide) ?_
    refine lv_goto (tgt := 23) hx hb dX0_waits_19 (by decide) ?_
    exact R_i hC hr hlk rfl (by first | exact Or.inl ⟨rfl, Or.inl (by assumption)⟩ | exact Or.inl ⟨rfl, Or.inr ((by assumption))⟩ | exact Or.inr ⟨rfl, fun h => by rcases h with h | h <;> contradiction⟩) dX0_waits_23
  · skip
    refine o_aload_n hx hb dX0_waits_9 hl rfl ?_
    refine g_get hC hG us_X0 rfl 6 (by decide) fl_X0_26 (V_ath (by omega)) rfl dX0_waits_10 ?_
    refine lv_bipush (v := 114) hx hb dX0_waits_13 (by decide) ?_
    refine lv_icmp_ne (tgt := 22) hx hb dX0_waits_15 (by decide) (fun h15 => ?_) (fun h15 => ?_)
    · skip
      refine lv_iconst (v := 0) hx hb dX0_waits_22 (by decide) ?_
      exact R_i hC hr hlk rfl (by first | exact Or.inl ⟨rfl, Or.inl (by assumption)⟩ | exact Or.inl ⟨rfl, Or.inr ((by assumption))⟩ | exact Or.inr ⟨rfl, fun h => by rcases h with h | h <;> contradiction⟩) dX0_waits_23
    · skip
      refine lv_iconst (v := 1) hx hb dX0_waits_18 (by decide) ?_
      refine lv_goto (tgt := 23) hx hb dX0_waits_19 (by decide) ?_
      exact R_i hC hr hlk rfl (by first | exact Or.inl ⟨rfl, Or.inl (by assumption)⟩ | exact Or.inl ⟨rfl, Or.inr ((by assumption))⟩ | exact Or.inr ⟨rfl, fun h => by rcases h with h | h <;> contradiction⟩) dX0_waits_23
theorem k_X0_waits {p : Program} {l : Launch} {e : Env} {R : Room} {s : State} {m : MethodId} {args : Array Value} {below : List Frame} {meth : Method} {c : Code} {H : Heap} {locs : List Loc} {cells slots : Nat} {Q : State → Prop} {cc : ByteArray} {pc nL : Nat} {ls : Array Slot} {rest : List Value} {own : String} {D : va_G} {cy : Nat → ClassId} {sa : Nat → Nat} {de B : Nat} {ad : Ad} {S : St} {n : Nat → Nat} {T : St} {k : Nat → Nat} {th : Int32} {X : Rl} {i : Nat}  (hC : Cx p m c cc nL s args own D cy sa de B) (hS : va_S (AB B) s.heap H locs) (hG : GW D B ad (Vw cy de ad S n T k th X) H) (h0 : i < n 4)  {idx : Nat} (wl : Cond.methodLink own idx yX0_waits ∈ G0) (hR : 0 + 1 ≤ R.frames ∧ 8 + (1 + 11) + 0 ≤ R.locals) (hsz : ls.size = nL) (hst : (rest.map fun v => v.category).sum ≤ 8) (hdg : decode cc pc = .ok (.invokevirtual idx, 3)) (hcs : cells + 0 ≤ R.cells ∧ slots + 0 ≤ R.slots) (kt : (waitP S i) → W p l e R s m args below meth c H locs cells slots Q (F0 m (pc + 3) ls (.int 1 :: rest))) (kf : ¬ (waitP S i) → W p l e R s m args below meth c H locs cells slots Q (F0 m (pc + 3) ls (.int 0 :: rest))) : W p l e R s m args below meth c H locs cells slots Q (F0 m pc ls (.ref (ad 3 i 0) :: rest)) :=
  vp_callSi (va_Run.run (rV hC hS hG h0 (As := []) (c_X0_waits l) ⟨rfl, rfl⟩ wl im_X0_waits sl_X0_X0_waits in_X0 cd_X0_waits (n := 0) (by decide +kernel) hR (recv hC hG (q := (RX0, TX0, 10)) rfl (V_ath h0)) rfl hsz hst rfl hdg hcs)) (fun r hr => by rcases hr with ⟨rfl, hp⟩ | ⟨rfl, hp⟩; exact kt hp; exact kf hp)