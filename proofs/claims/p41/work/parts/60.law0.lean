/-! THE LAW'S WORLD: 'out' at role (20, 0, 0), 'outD' at (20, 1, 0); rows of arrays of long and of double; the beginning of a body with handlers. -/
abbrev eL (c : ClassId) (n : Nat) (f : Nat → Int64) : va_E := .inl (c, n, .inr (.inl f))
abbrev eD (c : ClassId) (n : Nat) (f : Nat → UInt64) : va_E := .inl (c, n, .inr (.inr (.inr (.inl f))))
theorem up_Vw {cy : Nat → ClassId} {de : Nat} {ad : Ad} {S : St} {n : Nat → Nat} {T : St} {k : Nat → Nat} {th : Int32} {X X' : Rl} {t i j : Nat} {e : Option va_E} (ht : 16 ≤ t) (hX : up3 X t i j e = X') : up3 (Vw cy de ad S n T k th X) t i j e = Vw cy de ad S n T k th X' := by
  subst hX
  funext a b c
  by_cases h : a = t ∧ b = i ∧ c = j
  · obtain ⟨rfl, rfl, rfl⟩ := h
    rw [up3_self]
    unfold Vw
    rw [if_neg (by omega), if_neg (by omega), if_neg (by omega), if_neg (by omega), up3_self]
  · rw [up3_ne h]
    unfold Vw
    rw [up3_ne h]
section GL
variable {p : Program} {l : Launch} {e : Env} {R : Room} {s : State} {m : MethodId} {args : Array Value} {below : List Frame} {meth : Method} {c : Code} {H : Heap} {locs : List Loc} {cells slots : Nat} {Q : State → Prop}
variable {cc : ByteArray} {pc nL : Nat} {ls : Array Slot} {rest : List Value} {own : String} {D : va_G} {cy : Nat → ClassId} {sa : Nat → Nat} {de B : Nat} {ad : Ad} {V : Rl} {t i j : Nat}
/-- an exception that a row of this method's table takes -/
theorem caught (hC : Cx p m c cc nL s args RL D cy sa de B) (pre : List ExceptionTableEntry) (x : ExceptionTableEntry) (suf : List ExceptionTableEntry) (hsplit : c.exceptionTable.toList = pre ++ x :: suf) {E : String} {ce : Cell} {q : Addr}
    (hpass : ∀ z ∈ pre, covers z pc = false ∨ (z.catchType ≠ 0 ∧ ∃ nm : String, (Cond.classLink RL z.catchType nm).before args s = true ∧ va_Nc E nm s)) (hx : covers x pc = true) (h0 : x.catchType ≠ 0)
    (hlink : Cond.classLink RL x.catchType E ∈ G0) (hE : (E, E) ∈ castL) (hcell : H[q]? = some ce) (hv : ce.vm = .none) (hcl : s.vm.findClass E = some ce.cls)
    (kk : W p l e R s m args below meth c H locs cells slots Q (F0 m x.handlerPc ls [.ref q])) : vx_W p l e R s m args below meth c H locs cells slots Q (F0 m pc ls rest) q :=
  vx_catch hC.o pre x suf hsplit hpass hx h0 (hC.t _ hlink) (va_Nw.use rfl (hC.k.2.2.1 (E, E) hE)) hcell hv hcl kk
end GL
theorem E_metW {l : Launch} {y : MethodName} {cc : ByteArray} {maxL : Nat} {ret : Option FieldType} {hh : List (Nat × Nat × Nat × Nat)} {own : String} {rm : Room} {As : List Value} {Qc : Array Value → State → Outcome → State → Prop} {mc ms : Nat} {free : Addr → Prop} {D : va_G} {cy : Nat → ClassId} {sa : Nat → Nat} {de B : Nat} {ad : Ad} {V : Rl} {P0 : Prop}
    (hy : plainName y.cls = true) (ho : y.cls = own) (hlen : (lg_sl As).length ≤ maxL)
    (body : ∀ (p : Program) (e : Env) (s : State) (m : MethodId) (below : List Frame) (meth : Method) (c : Code), Cx p m c cc maxL s As.toArray own D cy sa de B → meth.sig.returnType = ret → meth.locks = false → c.exceptionTable.toList = tableOf hh → GW D B ad V s.heap → P0 → ∀ ls : Array Slot, lv_has ls maxL (lv_args 0 As) →
      W p l e rm s m As.toArray below meth c s.heap [] 0 0 (MQ below Qc As.toArray s mc ms free) (F0 m 0 ls [])) : Met l y (Cond.codeWith y cc maxL ret hh :: G0) rm (va_Pc As (PW D cy sa de B ad V P0)) Qc mc ms free := by
  refine va_MetW (cc := cc) (maxL := maxL) (ret := ret) (hh := hh) hy rfl ?_
  intro p e s m args below meth c s₁ Bd hml hv
  obtain ⟨rfl, ⟨hk, hf, hb, hg⟩, h0⟩ := hv
  have hts := atoms_spec (ws := Cond.codeWith y cc maxL ret hh :: G0) Bd.pre
  have hown : s.vm.findClass own = some m.cls := by rw [← ho]; exact findClass_of_methodNamed Bd.named
  rw [lg_entry_eq]
  exact body p e s m below meth c ⟨⟨Bd.exec, Bd.bytes, hml, hown, fun w hw => hts w (List.mem_cons_of_mem _ hw)⟩, hk, hf, hb⟩ Bd.returns Bd.notSynchronized (vx_table (x := y) Bd (hts _ List.mem_cons_self)) hg h0 _ (lv_entry As hlen)
/-- a static call of a method with handlers -/
theorem rSW {p : Program} {l : Launch} {e : Env} {R : Room} {s : State} {m : MethodId} {args : Array Value} {below : List Frame} {meth : Method} {c : Code} {H : Heap} {locs : List Loc} {cells slots : Nat} {cc : ByteArray} {pc nL : Nat} {ls : Array Slot} {rest st0 : List Value} {own : String} {D : va_G} {cy : Nat → ClassId} {sa : Nat → Nat} {de B : Nat} {ad : Ad} {V : Rl} {P0 : Prop} {mc ms : Nat} {free : Addr → Prop}
    (hC : Cx p m c cc nL s args own D cy sa de B) (hS : va_S (AB B) s.heap H locs) (hG : GW D B ad V H) (h0 : P0) {y : MethodName} {cY : ByteArray} {mY : Nat} {rY : Option FieldType} {hh : List (Nat × Nat × Nat × Nat)} {rmY : Room} {idx n : Nat} {As : List Value} {Qc : Array Value → State → Outcome → State → Prop}
    (hM : Met l y (Cond.codeWith y cY mY rY hh :: G0) rmY (va_Pc As (PW D cy sa de B ad V P0)) Qc mc ms free) (hrm : rmY.cells = mc ∧ rmY.slots = ms)
    (wl : Cond.methodLink own idx y ∈ G0) (wi : Cond.static y ∈ G0) (wn : Cond.initialized y.cls ∈ G0) (wc : Cond.codeWith y cY mY rY hh ∈ G0)
    (hd : y.cls ≠ "java/lang/invoke/MethodHandle" ∧ y.cls ≠ "java/lang/invoke/VarHandle" ∧ (parseMethodDescriptor y.desc).map (fun d => d.parameters.length) = some n) (hR : rmY.frames + 1 ≤ R.frames ∧ 8 + (mY + 11) + rmY.locals ≤ R.locals)
    (hn : As.length = n) (hsz : ls.size = nL) (hst : (rest.map fun v => v.category).sum ≤ 8) (hst0 : st0 = As.reverse ++ rest) (hdg : decode cc pc = .ok (.invokestatic idx, 3)) (hcs : cells + mc ≤ R.cells ∧ slots + ms ≤ R.slots) :
    va_Run p l e R s m args below meth c H locs cells slots mc ms (F0 m pc ls st0) rest (Qc As.toArray) free :=
  vx_runSW (As := As) (rest := rest) hC.1 hM (vx_cwSW n hC.t (goodL (goodW wc) (mem1 wl (mem1 wi (mem1 wn mem0)))) rfl hrm.1 hrm.2 hd hR) ⟨blindP, fun U hU hW => ⟨rfl, hC.w hS hG hU hW, h0⟩⟩ rfl hn hsz hst0 (lv_room hst) hdg hcs
theorem ddc : ∀ q, q ≤ 500 → Op.cmpValue (FP.dcmp (FP.ddiv (FP.i2d (nI q)) 4617315517961601024) (FP.ddiv (FP.i2d (nI q)) 4617315517961601024)) .l = 0 := by decide +kernel
theorem mean_cmp {f : Nat → Int32} (h : ∀ y, y < 5 → 0 ≤ f y ∧ f y ≤ 100) : Op.cmpValue (FP.dcmp (FP.ddiv (FP.i2d (sumLk f 5)) 4617315517961601024) (FP.ddiv (FP.i2d (sumLk f 5)) 4617315517961601024)) .l = 0 := by
  obtain ⟨s, hs, e⟩ := sumLk_N h 5 (Nat.le_refl 5)
  rw [e]; exact ddc s (by omega)
