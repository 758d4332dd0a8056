/-! THE LAW'S DRAWS: cell(s, i) is some int; in(s, i, n) is one of 0 .. n - 1. -/
theorem nI_div {a b : Nat} (ha : a < 2 ^ 31) (hb : b < 2 ^ 31) : nI a / nI b = nI (a / b) := by
  have h0 : nI a ≠ Int32.minValue := fun h => absurd (show nI a < 0 by rw [h]; decide) (nI_pos ha)
  refine Int32.toInt_inj.mp ?_
  rw [Int32.toInt_div_of_ne_left _ _ h0, nI_toInt ha, nI_toInt hb, nI_toInt (Nat.lt_of_le_of_lt (Nat.div_le_self a b) ha)]
  exact (Int.ofNat_tdiv a b).symm
theorem nI_mul {a b : Nat} : nI a * nI b = nI (a * b) := (Int32.ofNat_mul a b).symm
theorem nI_subN {a b : Nat} (h : b ≤ a) : nI a - nI b = nI (a - b) := by
  obtain ⟨d, rfl⟩ : ∃ d, a = d + b := ⟨a - b, by omega⟩
  rw [show d + b - b = d by omega, ← nI_add]
  exact Int32.add_sub_cancel _ _
theorem nI_rem {a b : Nat} (ha : a < 2 ^ 31) (hb : b < 2 ^ 31) : nI a - nI a / nI b * nI b = nI (a % b) := by
  rw [nI_div ha hb, nI_mul, nI_subN (Nat.div_mul_le_self a b)]
  congr 1
  have := Nat.div_add_mod a b
  rw [Nat.mul_comm] at this
  omega
theorem and_max (x : Int32) : ∃ a, a < 2 ^ 31 ∧ x &&& 2147483647 = nI a := by
  refine ⟨(x &&& 2147483647).toBitVec.toNat, ?_, i32_nI _⟩
  show (x.toBitVec &&& (2147483647 : Int32).toBitVec).toNat < 2 ^ 31
  rw [BitVec.toNat_and]
  exact Nat.lt_of_le_of_lt Nat.and_le_right (by decide)
theorem E_scr {l : Launch} {y : MethodName} {cc : ByteArray} {maxL : Nat} {ret : Option FieldType} {own : String} {rm : Room} {As : List Value} {Qc : Array Value → State → Outcome → State → Prop} {mc ms : Nat} {free : Addr → Prop} {b L : Nat} {xs : Nat → Int32}
    (hy : plainName y.cls = true) (ho : y.cls = own) (hlen : (lg_sl As).length ≤ maxL)
    (body : ∀ (p : Program) (e : Env) (s : State) (m : MethodId) (below : List Frame) (meth : Method) (c : Code), (p.tables.exec = Jvm.exec ∧ c.code = cc ∧ c.maxLocals = maxL ∧ s.vm.findClass own = some m.cls ∧ ∀ w ∈ G0, w.before As.toArray s = true) → meth.sig.returnType = ret → meth.locks = false → va_X b L xs s s.heap → ∀ ls : Array Slot, lv_has ls maxL (lv_args 0 As) →
      W p l e rm s m As.toArray below meth c s.heap [] 0 0 (MQ below Qc As.toArray s mc ms free) (F0 m 0 ls [])) : Met l y (Cond.code y cc maxL ret :: G0) rm (va_Pc As (fun U => va_X b L xs U U.heap)) Qc mc ms free := by
  refine Met.ofW (cc := cc) (maxL := maxL) (ret := ret) hy rfl ?_
  intro p e s m args below meth c s₁ Bd hml hv
  obtain ⟨rfl, hX⟩ := hv
  have hts := atoms_spec (ws := Cond.code y cc maxL ret :: G0) Bd.pre
  have hown : s.vm.findClass own = some m.cls := by rw [← ho]; exact findClass_of_methodNamed Bd.named
  rw [lg_entry_eq]
  exact body p e s m below meth c ⟨Bd.exec, Bd.bytes, hml, hown, fun w hw => hts w (List.mem_cons_of_mem _ hw)⟩ Bd.returns Bd.notSynchronized hX _ (lv_entry As hlen)
theorem blindX {As : List Value} {b L : Nat} {xs : Nat → Int32} : FrameBlind (va_Pc As (fun U => va_X b L xs U U.heap)) := fun a U g mk h => ⟨h.1, va_X.moved (u := U) (U := U.calling g mk a) (Vm.Alike.refl U.vm) h.2⟩
theorem up_1 (x : Int32) (y : Int32) : (x.toUInt32 >>> (y.toUInt32 &&& Int32.toUInt32 31)).toInt32 = (x.toUInt32 >>> (y.toUInt32 &&& Int32.toUInt32 31)).toInt32 := rfl
set_option maxHeartbeats 4000000 in
set_option maxRecDepth 100000 in
theorem c_L_cell (l : Launch) {b L : Nat} {xs : Nat → Int32} {q : Nat} (hq : q < 2 ^ 20) (hL : L ≤ 2 ^ 20) : Met l yL_cell (Cond.code yL_cell cL_cell 3 (Option.some Jvm.ClassFile.FieldType.int) :: G0) ({ frames := 0, cells := 0, slots := 0, locals := 0 } : Room) (va_Pc [.ref b, .int (nI q)] (fun U => va_X b L xs U U.heap)) (vp_Si (fun _ => True)) 0 0 (fun _ => False) := by
  refine E_scr (own := RL) rfl rfl (Nat.le_of_ble_eq_true rfl) ?_
  intro p e s m below meth c h1 hr hlk hX ls hl
  obtain ⟨hx, hb, hml, hown, ht⟩ := id h1
  have hS : va_S (fun _ => False) s.heap s.heap [] := va_S.rf
  have hl : lo ls 3 [some (.ref b), some (.int (nI q)), none] := lo_of hl
  obtain ⟨scr, hscr⟩ := id hX
  have hbl : b < s.heap.size := (Array.getElem?_eq_some_iff.mp hscr.1).1
  refine lv_ldc hx hb hown (ht _ ct_L_7) dL_cell_0 ?_
  refine o_iload_n hx hb dL_cell_2 hl rfl ?_
  refine o_aload_n hx hb dL_cell_3 hl rfl ?_
  refine va_slen hx hb hX hbl (fun h => h) hS dL_cell_4 ?_
  have tail : ∀ (z : Int32), W p l e ({ frames := 0, cells := 0, slots := 0, locals := 0 } : Room) s m [Value.ref b, Value.int (nI q)].toArray below meth c s.heap [] 0 0 (MQ below (vp_Si (fun _ => True)) [Value.ref b, Value.int (nI q)].toArray s 0 0 (fun _ => False)) (F0 m 15 ls [.int z, .int 69069]) := by
    intro z
    refine lv_sipush (v := 1009) hx hb dL_cell_15 (by decide) ?_
    refine o_iload_n hx hb dL_cell_18 hl rfl ?_
    refine lv_imul hx hb dL_cell_19 ?_
    refine lv_iadd hx hb dL_cell_20 ?_
    refine lv_imul hx hb dL_cell_21 ?_
    refine lv_sipush (v := 12345) hx hb dL_cell_22 (by decide) ?_
    refine lv_iadd hx hb dL_cell_25 ?_
    refine lv_topi (fun y _ => ?_)
    refine o_istore_n hx hb dL_cell_26 hl (by decide) rfl (fun ls hl => ?_)
    refine o_iload_n hx hb dL_cell_27 hl rfl ?_
    refine o_iload_n hx hb dL_cell_28 hl rfl ?_
    refine lv_bipush (v := 13) hx hb dL_cell_29 (by decide) ?_
    refine lv_iushr hx hb dL_cell_31 rfl ?_
    refine lv_ixor hx hb dL_cell_32 ?_
    refine lv_ldc hx hb hown (ht _ ct_L_8) dL_cell_33 ?_
    refine lv_imul hx hb dL_cell_35 ?_
    refine lv_topi (fun y2 _ => ?_)
    refine o_istore_n hx hb dL_cell_36 hl (by decide) rfl (fun ls hl => ?_)
    refine o_iload_n hx hb dL_cell_37 hl rfl ?_
    refine o_iload_n hx hb dL_cell_38 hl rfl ?_
    refine lv_bipush (v := 16) hx hb dL_cell_39 (by decide) ?_
    refine lv_iushr hx hb dL_cell_41 rfl ?_
    refine lv_ixor hx hb dL_cell_42 ?_
    exact W.zret hx hb hr rfl (fun t ht _ => ⟨_, rfl, trivial, ht⟩) (fun _ h => absurd h List.not_mem_nil) dL_cell_43 hlk
  refine n_icmp_ge (tgt := 14) hx hb q L rfl rfl (by omega) (by omega) dL_cell_5 (by decide) (fun h5 => ?_) (fun h5 => ?_)
  · refine lv_iconst (v := 0) hx hb dL_cell_14 (by decide) ?_
    exact tail _
  · refine o_aload_n hx hb dL_cell_8 hl rfl ?_
    refine o_iload_n hx hb dL_cell_9 hl rfl ?_
    refine va_sld hx hb hX hbl (fun h => h) hS (vp_in_nI h5 (by omega)) dL_cell_10 ?_
    refine lv_goto (tgt := 15) hx hb dL_cell_11 (by decide) ?_
    exact tail _
set_option maxHeartbeats 4000000 in
set_option maxRecDepth 100000 in
theorem c_L_in (l : Launch) {b L : Nat} {xs : Nat → Int32} {q N : Nat} (hq : q < 2 ^ 20) (hL : L ≤ 2 ^ 20) (hN : N < 2 ^ 20) (hN0 : 0 < N) : Met l yL_in (Cond.code yL_in cL_in 3 (Option.some Jvm.ClassFile.FieldType.int) :: G0) ({ frames := 1, cells := 0, slots := 0, locals := 22 } : Room) (va_Pc [.ref b, .int (nI q), .int (nI N)] (fun U => va_X b L xs U U.heap)) (vp_Si (fun r => ∃ a, a < N ∧ r = nI a)) 0 0 (fun _ => False) := by
  refine E_scr (own := RL) rfl rfl (Nat.le_of_ble_eq_true rfl) ?_
  intro p e s m below meth c h1 hr hlk hX ls hl
  obtain ⟨hx, hb, hml, hown, ht⟩ := id h1
  have hl : lo ls 3 [some (.ref b), some (.int (nI q)), some (.int (nI N))] := lo_of hl
  refine o_aload_n hx hb dL_in_0 hl rfl ?_
  refine o_iload_n hx hb dL_in_1 hl rfl ?_
  refine vp_callSi (va_Run.run (va_runS (As := [.ref b, .int (nI q)]) (rest := []) h1 (c_L_cell l (xs := xs) hq hL) (va_cwS 2 ht (goodL (goodG cd_L_cell) (mem1 ml_L_77 (mem1 sm_L_cell (mem1 in_L mem0)))) rfl rfl rfl (by decide +kernel) ⟨(Nat.le_of_ble_eq_true rfl), (Nat.le_of_ble_eq_true rfl)⟩) ⟨blindX, fun U hU hW => ⟨rfl, by show va_X b L xs U U.heap; rw [hU]; exact hX.moved hW.alike⟩⟩ rfl rfl hl.1 rfl (lv_room (Nat.le_of_ble_eq_true rfl)) dL_in_2 ⟨(Nat.le_of_ble_eq_true rfl), (Nat.le_of_ble_eq_true rfl)⟩)) (fun r _ => ?_)
  refine lv_ldc hx hb hown (ht _ ct_L_83) dL_in_5 ?_
  refine lv_iand hx hb dL_in_7 ?_
  refine o_iload_n hx hb dL_in_8 hl rfl ?_
  obtain ⟨a, ha, ea⟩ := and_max r
  rw [ea]
  refine lv_irem hx hb dL_in_9 (fun h => absurd ((nI_eq (a := N) (b := 0) (by omega) (by decide)).mp h) (by omega)) ?_
  rw [nI_rem ha (by omega)]
  exact W.zret hx hb hr rfl (fun t ht _ => ⟨_, rfl, ⟨a % N, Nat.mod_lt _ hN0, rfl⟩, ht⟩) (fun _ h => absurd h List.not_mem_nil) dL_in_10 hlk
theorem k_L_in {p : Program} {l : Launch} {e : Env} {R : Room} {s : State} {m : MethodId} {args : Array Value} {below : List Frame} {meth : Method} {c : Code} {H : Heap} {locs : List Loc} {cells slots : Nat} {Q : State → Prop} {cc : ByteArray} {pc nL : Nat} {ls : Array Slot} {rest : List Value} {own : String} {D : va_G} {cy : Nat → ClassId} {sa : Nat → Nat} {de B b L : Nat} {xs : Nat → Int32} (q N : Nat) {x y : Int32} (hC : Cx p m c cc nL s args own D cy sa de B) (hS : va_S (AB B) s.heap H locs) (hX : va_X b L xs s s.heap) (hbl : b < s.heap.size) (hbA : ¬ AB B b) (hL : L ≤ 260) (ex : x = nI q) (ey : y = nI N) (hq : q < 2 ^ 20) (hN : N < 2 ^ 20) (hN0 : 0 < N) {idx : Nat} (wl : Cond.methodLink own idx yL_in ∈ G0) (hR : 1 + 1 ≤ R.frames ∧ 8 + (3 + 11) + 22 ≤ R.locals) (hsz : ls.size = nL) (hst : (rest.map fun v => v.category).sum ≤ 8) (hdg : decode cc pc = .ok (.invokestatic idx, 3)) (hcs : cells + 0 ≤ R.cells ∧ slots + 0 ≤ R.slots)
    (kk : ∀ a : Nat, a < N → W p l e R s m args below meth c H locs cells slots Q (F0 m (pc + 3) ls (.int (nI a) :: rest))) : W p l e R s m args below meth c H locs cells slots Q (F0 m pc ls (.int y :: .int x :: .ref b :: rest)) := by
  subst ex; subst ey
  refine vp_callSi (va_Run.run (va_runS (As := [.ref b, .int (nI q), .int (nI N)]) (rest := rest) hC.1 (c_L_in l (xs := xs) hq (show L ≤ 2 ^ 20 by omega) hN hN0) (va_cwS 3 hC.t (goodL (goodG cd_L_in) (mem1 wl (mem1 sm_L_in (mem1 in_L mem0)))) rfl rfl rfl (by decide +kernel) hR) ⟨blindX, fun U hU hW => ⟨rfl, by show va_X b L xs U U.heap; rw [hU]; exact (hX.kept (hS.2.1 b hbl hbA)).moved hW.alike⟩⟩ rfl rfl hsz rfl (lv_room hst) hdg hcs)) (fun r hr => ?_)
  obtain ⟨a, ha, rfl⟩ := hr
  exact kk a ha
