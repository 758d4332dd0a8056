def exN : List String := ["java/lang/RuntimeException", "java/lang/Exception"]
/-! BEGINNINGS, ENDS AND CALLS in the words of the world. -/
/-- the good words of a callee are among its caller's -/
theorem goodG {y : MethodName} {cY : ByteArray} {mY : Nat} {rY : Option FieldType} (h : Cond.code y cY mY rY ∈ G0) : GoodIn G0 (Cond.code y cY mY rY :: G0) := fun w hw => (List.mem_cons.mp hw).elim (fun e => by rw [e]; exact ⟨h, good_of_word (G0_good _ h)⟩) (fun hw => ⟨hw, good_of_word (G0_good _ hw)⟩)
theorem goodW {y : MethodName} {cY : ByteArray} {mY : Nat} {rY : Option FieldType} {hh : List (Nat × Nat × Nat × Nat)} (h : Cond.codeWith y cY mY rY hh ∈ G0) : GoodIn G0 (Cond.codeWith y cY mY rY hh :: G0) := fun w hw => (List.mem_cons.mp hw).elim (fun e => by rw [e]; exact ⟨h, good_of_word (G0_good _ h)⟩) (fun hw => ⟨hw, good_of_word (G0_good _ hw)⟩)
theorem goodL {ws L : List Cond} (h : GoodIn G0 ws) (hL : ∀ w ∈ L, w ∈ G0) : GoodIn G0 (L ++ ws) := fun w hw => (List.mem_append.mp hw).elim (fun hw => ⟨hL w hw, good_of_word (G0_good _ (hL w hw))⟩) (h w)
theorem mem1 {a : Cond} {l : List Cond} (h : a ∈ G0) (t : ∀ w ∈ l, w ∈ G0) : ∀ w ∈ a :: l, w ∈ G0 := fun w hw => (List.mem_cons.mp hw).elim (fun e => by rw [e]; exact h) (t w)
theorem mem0 : ∀ w ∈ ([] : List Cond), w ∈ G0 := fun _ h => absurd h List.not_mem_nil
/-- what a contract asks: the world, and a fact of numbers -/
def PW (D : va_G) (cy : Nat → ClassId) (sa : Nat → Nat) (de B : Nat) (ad : Ad) (V : Rl) (P0 : Prop) : State → Prop := fun U => Wd D cy sa de B ad V U ∧ P0
/-- the end of a method that writes: the frame, and a fact of the heap -/
abbrev oV (B : Nat) (G : Heap → Prop) : Array Value → State → Outcome → State → Prop := va_Qv (S := Unit) (fun _ => True) (fun _ t => G t.heap) (AB B)
abbrev oI (B : Nat) (G : Int32 → Heap → Prop) : Array Value → State → Outcome → State → Prop := va_Qi (S := Int32) (fun r u => r = u) (fun u t => G u t.heap) (AB B)
abbrev oQ (B : Nat) (G : Option Nat → Heap → Prop) : Array Value → State → Outcome → State → Prop := va_Qq (S := Option Nat) (fun r u => r = u) (fun u t => G u t.heap) (AB B)
abbrev oL (B : Nat) (G : Int64 → Heap → Prop) : Array Value → State → Outcome → State → Prop := va_Ql (S := Int64) (fun r u => r = u) (fun u t => G u t.heap) (AB B)
abbrev oF (B : Nat) (G : UInt32 → Heap → Prop) : Array Value → State → Outcome → State → Prop := va_Qf (S := UInt32) (fun r u => r = u) (fun u t => G u t.heap) (AB B)
abbrev oD (B : Nat) (G : UInt64 → Heap → Prop) : Array Value → State → Outcome → State → Prop := va_Qd (S := UInt64) (fun r u => r = u) (fun u t => G u t.heap) (AB B)
/-- .. of a method that throws: the class by its name -/
abbrev oX (B : Nat) (G : String → Heap → Prop) : String → State → State → Prop := vx_X (S := Unit) (fun _ => True) (fun E _ t => G E t.heap) (AB B)
theorem E_met {l : Launch} {y : MethodName} {cc : ByteArray} {maxL : Nat} {ret : Option FieldType} {own : String} {rm : Room} {As : List Value} {Qc : Array Value → State → Outcome → State → Prop} {mc ms : Nat} {free : Addr → Prop} {D : va_G} {cy : Nat → ClassId} {sa : Nat → Nat} {de B : Nat} {ad : Ad} {V : Rl} {P0 : Prop}
    (hy : plainName y.cls = true) (ho : y.cls = own) (hlen : (lg_sl As).length ≤ maxL)
    (body : ∀ (p : Program) (e : Env) (s : State) (m : MethodId) (below : List Frame) (meth : Method) (c : Code), Cx p m c cc maxL s As.toArray own D cy sa de B → meth.sig.returnType = ret → meth.locks = false → meth.name = y.name → GW D B ad V s.heap → P0 → ∀ ls : Array Slot, lv_has ls maxL (lv_args 0 As) →
      W p l e rm s m As.toArray below meth c s.heap [] 0 0 (MQ below Qc As.toArray s mc ms free) (F0 m 0 ls [])) : Met l y (Cond.code y cc maxL ret :: G0) rm (va_Pc As (PW D cy sa de B ad V P0)) Qc mc ms free := by
  refine Met.ofW (cc := cc) (maxL := maxL) (ret := ret) hy rfl ?_
  intro p e s m args below meth c s₁ Bd hml hv
  obtain ⟨rfl, ⟨hk, hf, hb, hg⟩, h0⟩ := hv
  have hts := atoms_spec (ws := Cond.code y cc maxL ret :: G0) Bd.pre
  have hown : s.vm.findClass own = some m.cls := by rw [← ho]; exact findClass_of_methodNamed Bd.named
  rw [lg_entry_eq]
  exact body p e s m below meth c ⟨⟨Bd.exec, Bd.bytes, hml, hown, fun w hw => hts w (List.mem_cons_of_mem _ hw)⟩, hk, hf, hb⟩ Bd.returns Bd.notSynchronized (name_of_methodNamed Bd.named Bd.method).1 hg h0 _ (lv_entry As hlen)
theorem E_vx {l : Launch} {y : MethodName} {cc : ByteArray} {maxL : Nat} {ret : Option FieldType} {own : String} {rm : Room} {As : List Value} {Qc : Array Value → State → Outcome → State → Prop} {XC : String → State → State → Prop} {mc ms : Nat} {free : Addr → Prop} {D : va_G} {cy : Nat → ClassId} {sa : Nat → Nat} {de B : Nat} {ad : Ad} {V : Rl} {P0 : Prop}
    (hy : plainName y.cls = true) (ho : y.cls = own) (hlen : (lg_sl As).length ≤ maxL)
    (body : ∀ (p : Program) (e : Env) (s : State) (m : MethodId) (below : List Frame) (meth : Method) (c : Code), Cx p m c cc maxL s As.toArray own D cy sa de B → meth.sig.returnType = ret → meth.locks = false → (∀ x ∈ c.exceptionTable.toList, False) → GW D B ad V s.heap → P0 → ∀ ls : Array Slot, lv_has ls maxL (lv_args 0 As) →
      W p l e rm s m As.toArray below meth c s.heap [] 0 0 (vx_MQ below Qc XC As.toArray s mc ms free) (F0 m 0 ls [])) : vx_Met l y (Cond.code y cc maxL ret :: G0) rm (va_Pc As (PW D cy sa de B ad V P0)) Qc XC mc ms free := by
  refine vx_ofW (cc := cc) (maxL := maxL) (ret := ret) hy rfl ?_
  intro p e s m args below meth c s₁ Bd hml hex hv
  obtain ⟨rfl, ⟨hk, hf, hb, hg⟩, h0⟩ := hv
  have hts := atoms_spec (ws := Cond.code y cc maxL ret :: G0) Bd.pre
  have hown : s.vm.findClass own = some m.cls := by rw [← ho]; exact findClass_of_methodNamed Bd.named
  rw [lg_entry_eq]
  exact body p e s m below meth c ⟨⟨Bd.exec, Bd.bytes, hml, hown, fun w hw => hts w (List.mem_cons_of_mem _ hw)⟩, hk, hf, hb⟩ Bd.returns Bd.notSynchronized hex hg h0 _ (lv_entry As hlen)
section CR
variable {p : Program} {l : Launch} {e : Env} {R : Room} {s : State} {m : MethodId} {args : Array Value} {below : List Frame} {meth : Method} {c : Code} {H : Heap} {locs : List Loc} {cells slots : Nat} {Q : State → Prop}
variable {cc : ByteArray} {pc nL : Nat} {ls : Array Slot} {rest st0 : List Value} {own : String} {D : va_G} {cy : Nat → ClassId} {sa : Nat → Nat} {de B : Nat} {ad : Ad} {V : Rl} {t i j : Nat} {P0 : Prop}
variable {XC : String → State → State → Prop} {mc ms : Nat} {free : Addr → Prop}
-- ends of a method that leaves the heap as it was
theorem R_i (hC : Cx p m c cc nL s args own D cy sa de B) {ty : FieldType} (hr : meth.sig.returnType = some ty) (hlk : meth.locks = false) {v : Int32} {post : Int32 → Prop} (hn : narrow ty (.int v) = .int v) (hp : post v) (hdg : decode cc pc = .ok (.ireturn, 1)) : W p l e R s m args below meth c s.heap [] 0 0 (MQ below (vp_Si post) args s 0 0 (fun _ => False)) (F0 m pc ls [.int v]) :=
  W.zret hC.x hC.b hr hn (fun t ht _ => ⟨v, rfl, hp, ht⟩) (fun _ h => absurd h List.not_mem_nil) hdg hlk
theorem R_l (hC : Cx p m c cc nL s args own D cy sa de B) (hr : meth.sig.returnType = some .long) (hlk : meth.locks = false) {v : Int64} {post : Int64 → Prop} (hp : post v) (hdg : decode cc pc = .ok (.lreturn, 1)) : W p l e R s m args below meth c s.heap [] 0 0 (MQ below (vp_Sl post) args s 0 0 (fun _ => False)) (F0 m pc ls [.long v]) :=
  W.lret hC.x hC.b hr (fun t ht _ => ⟨v, rfl, hp, ht⟩) (fun _ h => absurd h List.not_mem_nil) hdg hlk
theorem R_q (hC : Cx p m c cc nL s args own D cy sa de B) {rt : FieldType} (hr : meth.sig.returnType = some rt) (hrt : (∃ n, rt = .object n) ∨ ∃ t, rt = .array t) (hlk : meth.locks = false) {v : Option Nat} {post : Option Nat → Prop} (hp : post v) (hdg : decode cc pc = .ok (.areturn, 1)) : W p l e R s m args below meth c s.heap [] 0 0 (MQ below (va_Sq post) args s 0 0 (fun _ => False)) (F0 m pc ls [va_rf v]) :=
  W.aret hC.x hC.b hr hrt (va_rf_or v) (fun t ht _ => ⟨v, rfl, hp, ht⟩) (fun _ h => absurd h List.not_mem_nil) hdg hlk
-- ends of one that writes
theorem R_V (hC : Cx p m c cc nL s args own D cy sa de B) (hS : va_S (AB B) s.heap H locs) (hr : meth.sig.returnType = none) (hlk : meth.locks = false) {G : Heap → Prop} (hG : G H) (hc : cells ≤ mc) (hs : slots ≤ ms) (hdg : decode cc pc = .ok (.return_, 1)) : W p l e R s m args below meth c H locs cells slots (MQ below (oV B G) args s mc ms (AB B)) (F0 m pc ls []) := by
  refine W.widen (k := mc) (n := ms) hc hs ?_
  exact W.vret hC.x hC.b hr (fun t ht _ => ⟨⟨(), rfl, trivial, by dsimp only; rw [ht]; exact hG⟩, hS.F ht⟩) hS.2.2 hdg hlk
theorem R_I (hC : Cx p m c cc nL s args own D cy sa de B) (hS : va_S (AB B) s.heap H locs) {ty : FieldType} (hr : meth.sig.returnType = some ty) (hlk : meth.locks = false) {v : Int32} (hn : narrow ty (.int v) = .int v) {G : Int32 → Heap → Prop} (hG : G v H) (hc : cells ≤ mc) (hs : slots ≤ ms) (hdg : decode cc pc = .ok (.ireturn, 1)) : W p l e R s m args below meth c H locs cells slots (MQ below (oI B G) args s mc ms (AB B)) (F0 m pc ls [.int v]) := by
  refine W.widen (k := mc) (n := ms) hc hs ?_
  exact W.zret hC.x hC.b hr hn (fun t ht _ => ⟨⟨v, v, rfl, rfl, by dsimp only; rw [ht]; exact hG⟩, hS.F ht⟩) hS.2.2 hdg hlk
theorem R_L (hC : Cx p m c cc nL s args own D cy sa de B) (hS : va_S (AB B) s.heap H locs) (hr : meth.sig.returnType = some .long) (hlk : meth.locks = false) {v : Int64} {G : Int64 → Heap → Prop} (hG : G v H) (hc : cells ≤ mc) (hs : slots ≤ ms) (hdg : decode cc pc = .ok (.lreturn, 1)) : W p l e R s m args below meth c H locs cells slots (MQ below (oL B G) args s mc ms (AB B)) (F0 m pc ls [.long v]) := by
  refine W.widen (k := mc) (n := ms) hc hs ?_
  exact W.lret hC.x hC.b hr (fun t ht _ => ⟨⟨v, v, rfl, rfl, by dsimp only; rw [ht]; exact hG⟩, hS.F ht⟩) hS.2.2 hdg hlk
theorem R_F (hC : Cx p m c cc nL s args own D cy sa de B) (hS : va_S (AB B) s.heap H locs) (hr : meth.sig.returnType = some .float) (hlk : meth.locks = false) {v : UInt32} {G : UInt32 → Heap → Prop} (hG : G v H) (hc : cells ≤ mc) (hs : slots ≤ ms) (hdg : decode cc pc = .ok (.freturn, 1)) : W p l e R s m args below meth c H locs cells slots (MQ below (oF B G) args s mc ms (AB B)) (F0 m pc ls [.float v]) := by
  refine W.widen (k := mc) (n := ms) hc hs ?_
  exact W.fret hC.x hC.b hr (fun t ht _ => ⟨⟨v, v, rfl, rfl, by dsimp only; rw [ht]; exact hG⟩, hS.F ht⟩) hS.2.2 hdg hlk
theorem R_D (hC : Cx p m c cc nL s args own D cy sa de B) (hS : va_S (AB B) s.heap H locs) (hr : meth.sig.returnType = some .double) (hlk : meth.locks = false) {v : UInt64} {G : UInt64 → Heap → Prop} (hG : G v H) (hc : cells ≤ mc) (hs : slots ≤ ms) (hdg : decode cc pc = .ok (.dreturn, 1)) : W p l e R s m args below meth c H locs cells slots (MQ below (oD B G) args s mc ms (AB B)) (F0 m pc ls [.double v]) := by
  refine W.widen (k := mc) (n := ms) hc hs ?_
  exact W.dret hC.x hC.b hr (fun t ht _ => ⟨⟨v, v, rfl, rfl, by dsimp only; rw [ht]; exact hG⟩, hS.F ht⟩) hS.2.2 hdg hlk
theorem R_Q (hC : Cx p m c cc nL s args own D cy sa de B) (hS : va_S (AB B) s.heap H locs) {rt : FieldType} (hr : meth.sig.returnType = some rt) (hrt : (∃ n, rt = .object n) ∨ ∃ t, rt = .array t) (hlk : meth.locks = false) {v : Option Nat} {G : Option Nat → Heap → Prop} (hG : G v H) (hc : cells ≤ mc) (hs : slots ≤ ms) (hdg : decode cc pc = .ok (.areturn, 1)) : W p l e R s m args below meth c H locs cells slots (MQ below (oQ B G) args s mc ms (AB B)) (F0 m pc ls [va_rf v]) := by
  refine W.widen (k := mc) (n := ms) hc hs ?_
  exact W.aret hC.x hC.b hr hrt (va_rf_or v) (fun t ht _ => ⟨⟨v, v, rfl, rfl, by dsimp only; rw [ht]; exact hG⟩, hS.F ht⟩) hS.2.2 hdg hlk
-- calls
theorem blindP {As : List Value} : FrameBlind (va_Pc As (PW D cy sa de B ad V P0)) := fun a U g mk h => ⟨h.1, Wd.blind rfl rfl h.2.1, h.2.2⟩
theorem recv (hC : Cx p m c cc nL s args own D cy sa de B) (hG : GW D B ad V H) {ci : Nat} {fs : List Value} {q : vw_C} (hc : vwCl[ci]? = some q) (he : V t i j = some (.inr (ci, fs))) : ∃ cell : Cell, H[ad t i j]? = some cell ∧ cell.vm.isStatics = false ∧ s.vm.findClass q.1 = some cell.cls := va_recv hC.K (hG.one he) (q0 := 0) hc rfl
theorem rV (hC : Cx p m c cc nL s args own D cy sa de B) (hS : va_S (AB B) s.heap H locs) (hG : GW D B ad V H) (h0 : P0) {y : MethodName} {cY : ByteArray} {mY : Nat} {rY : Option FieldType} {rmY : Room} {C : String} {idx n : Nat} {As : List Value} {b : Nat} {Qc : Array Value → State → Outcome → State → Prop}
    (hM : Met l y (Cond.code y cY mY rY :: G0) rmY (va_Pc (.ref b :: As) (PW D cy sa de B ad V P0)) Qc mc ms free) (hrm : rmY.cells = mc ∧ rmY.slots = ms)
    (wl : Cond.methodLink own idx y ∈ G0) (wi : Cond.instanceMethod y ∈ G0) (wsl : Cond.selects C y y ∈ G0) (wn : Cond.initialized C ∈ G0) (wc : Cond.code y cY mY rY ∈ G0)
    (hd : y.cls = C ∧ y.cls ≠ "java/lang/invoke/MethodHandle" ∧ y.cls ≠ "java/lang/invoke/VarHandle" ∧ (parseMethodDescriptor y.desc).map (fun d => d.parameters.length) = some n) (hR : rmY.frames + 1 ≤ R.frames ∧ 8 + (mY + 11) + rmY.locals ≤ R.locals)
    (hrv : ∃ cell : Cell, H[b]? = some cell ∧ cell.vm.isStatics = false ∧ s.vm.findClass C = some cell.cls) (hn : As.length = n) (hsz : ls.size = nL) (hst : (rest.map fun v => v.category).sum ≤ 8) (hst0 : st0 = As.reverse ++ .ref b :: rest) (hdg : decode cc pc = .ok (.invokevirtual idx, 3)) (hcs : cells + mc ≤ R.cells ∧ slots + ms ≤ R.slots) :
    va_Run p l e R s m args below meth c H locs cells slots mc ms (F0 m pc ls st0) rest (Qc (Value.ref b :: As).toArray) free :=
  va_runV (As := As) (rest := rest) hC.1 hM (cwV n hC.t (goodL (goodG wc) (mem1 wl (mem1 wi (mem1 wsl (mem1 wn mem0))))) rfl hrm.1 hrm.2 hd hR) ⟨blindP, hrv, fun U hU hW => ⟨rfl, hC.w hS hG hU hW, h0⟩⟩ rfl hn hsz hst0 (lv_room hst) hdg hcs
theorem rS (hC : Cx p m c cc nL s args own D cy sa de B) (hS : va_S (AB B) s.heap H locs) (hG : GW D B ad V H) (h0 : P0) {y : MethodName} {cY : ByteArray} {mY : Nat} {rY : Option FieldType} {rmY : Room} {idx n : Nat} {As : List Value} {Qc : Array Value → State → Outcome → State → Prop}
    (hM : Met l y (Cond.code y cY mY rY :: G0) rmY (va_Pc As (PW D cy sa de B ad V P0)) Qc mc ms free) (hrm : rmY.cells = mc ∧ rmY.slots = ms)
    (wl : Cond.methodLink own idx y ∈ G0) (wi : Cond.static y ∈ G0) (wn : Cond.initialized y.cls ∈ G0) (wc : Cond.code y cY mY rY ∈ G0)
    (hd : y.cls ≠ "java/lang/invoke/MethodHandle" ∧ y.cls ≠ "java/lang/invoke/VarHandle" ∧ (parseMethodDescriptor y.desc).map (fun d => d.parameters.length) = some n) (hR : rmY.frames + 1 ≤ R.frames ∧ 8 + (mY + 11) + rmY.locals ≤ R.locals)
    (hn : As.length = n) (hsz : ls.size = nL) (hst : (rest.map fun v => v.category).sum ≤ 8) (hst0 : st0 = As.reverse ++ rest) (hdg : decode cc pc = .ok (.invokestatic idx, 3)) (hcs : cells + mc ≤ R.cells ∧ slots + ms ≤ R.slots) :
    va_Run p l e R s m args below meth c H locs cells slots mc ms (F0 m pc ls st0) rest (Qc As.toArray) free :=
  va_runS (As := As) (rest := rest) hC.1 hM (va_cwS n hC.t (goodL (goodG wc) (mem1 wl (mem1 wi (mem1 wn mem0)))) rfl hrm.1 hrm.2 hd hR) ⟨blindP, fun U hU hW => ⟨rfl, hC.w hS hG hU hW, h0⟩⟩ rfl hn hsz hst0 (lv_room hst) hdg hcs
theorem rI (hC : Cx p m c cc nL s args own D cy sa de B) (hS : va_S (AB B) s.heap H locs) (hG : GW D B ad V H) (h0 : P0) {y : MethodName} {cY : ByteArray} {mY : Nat} {rmY : Room} {idx n : Nat} {As : List Value} {b : Nat} {Qc : Array Value → State → Outcome → State → Prop}
    (hM : Met l y (Cond.code y cY mY none :: G0) rmY (va_Pc (.ref b :: As) (PW D cy sa de B ad V P0)) Qc mc ms free) (hrm : rmY.cells = mc ∧ rmY.slots = ms)
    (wl : Cond.methodLink own idx y ∈ G0) (wi : Cond.instanceMethod y ∈ G0) (wn : Cond.initialized y.cls ∈ G0) (wc : Cond.code y cY mY none ∈ G0) (hy : y.name = "<init>")
    (hd : y.cls ≠ "java/lang/invoke/MethodHandle" ∧ y.cls ≠ "java/lang/invoke/VarHandle" ∧ (parseMethodDescriptor y.desc).map (fun d => d.parameters.length) = some n) (hR : rmY.frames + 1 ≤ R.frames ∧ 8 + (mY + 11) + rmY.locals ≤ R.locals)
    (hn : As.length = n) (hsz : ls.size = nL) (hst : (rest.map fun v => v.category).sum ≤ 8) (hst0 : st0 = As.reverse ++ .ref b :: rest) (hdg : decode cc pc = .ok (.invokespecial idx, 3)) (hcs : cells + mc ≤ R.cells ∧ slots + ms ≤ R.slots) :
    va_Run p l e R s m args below meth c H locs cells slots mc ms (F0 m pc ls st0) rest (Qc (Value.ref b :: As).toArray) free :=
  va_runI (As := As) (rest := rest) hC.1 hM (cwI n hC.t (goodG wc) rfl hrm.1 hrm.2 (hC.t _ wn) (hC.t _ wl) (hC.t _ wi) hy hd hR) ⟨blindP, fun U hU hW => ⟨rfl, hC.w hS hG hU hW, h0⟩⟩ rfl hn hsz hst0 (lv_room hst) hdg hcs
theorem xV (hC : Cx p m c cc nL s args own D cy sa de B) (hS : va_S (AB B) s.heap H locs) (hG : GW D B ad V H) (h0 : P0) {y : MethodName} {cY : ByteArray} {mY : Nat} {rY : Option FieldType} {rmY : Room} {C : String} {idx n : Nat} {As : List Value} {b : Nat} {Qc : Array Value → State → Outcome → State → Prop}
    (hM : vx_Met l y (Cond.code y cY mY rY :: G0) rmY (va_Pc (.ref b :: As) (PW D cy sa de B ad V P0)) Qc XC mc ms free) (hrm : rmY.cells = mc ∧ rmY.slots = ms)
    (wl : Cond.methodLink own idx y ∈ G0) (wi : Cond.instanceMethod y ∈ G0) (wsl : Cond.selects C y y ∈ G0) (wn : Cond.initialized C ∈ G0) (wc : Cond.code y cY mY rY ∈ G0)
    (hd : y.cls = C ∧ y.cls ≠ "java/lang/invoke/MethodHandle" ∧ y.cls ≠ "java/lang/invoke/VarHandle" ∧ (parseMethodDescriptor y.desc).map (fun d => d.parameters.length) = some n) (hR : rmY.frames + 1 ≤ R.frames ∧ 8 + (mY + 11) + rmY.locals ≤ R.locals)
    (hrv : ∃ cell : Cell, H[b]? = some cell ∧ cell.vm.isStatics = false ∧ s.vm.findClass C = some cell.cls) (hn : As.length = n) (hsz : ls.size = nL) (hst : (rest.map fun v => v.category).sum ≤ 8) (hst0 : st0 = As.reverse ++ .ref b :: rest) (hdg : decode cc pc = .ok (.invokevirtual idx, 3)) (hcs : cells + mc ≤ R.cells ∧ slots + ms ≤ R.slots) :
    vx_Run p l e R s m args below meth c H locs cells slots mc ms (F0 m pc ls st0) rest (Qc (Value.ref b :: As).toArray) XC free :=
  vx_runV (As := As) (rest := rest) hC.1 hM (cwV n hC.t (goodL (goodG wc) (mem1 wl (mem1 wi (mem1 wsl (mem1 wn mem0))))) rfl hrm.1 hrm.2 hd hR) ⟨blindP, hrv, fun U hU hW => ⟨rfl, hC.w hS hG hU hW, h0⟩⟩ rfl hn hsz hst0 (lv_room hst) hdg hcs
theorem xS (hC : Cx p m c cc nL s args own D cy sa de B) (hS : va_S (AB B) s.heap H locs) (hG : GW D B ad V H) (h0 : P0) {y : MethodName} {cY : ByteArray} {mY : Nat} {rY : Option FieldType} {rmY : Room} {idx n : Nat} {As : List Value} {Qc : Array Value → State → Outcome → State → Prop}
    (hM : vx_Met l y (Cond.code y cY mY rY :: G0) rmY (va_Pc As (PW D cy sa de B ad V P0)) Qc XC mc ms free) (hrm : rmY.cells = mc ∧ rmY.slots = ms)
    (wl : Cond.methodLink own idx y ∈ G0) (wi : Cond.static y ∈ G0) (wn : Cond.initialized y.cls ∈ G0) (wc : Cond.code y cY mY rY ∈ G0)
    (hd : y.cls ≠ "java/lang/invoke/MethodHandle" ∧ y.cls ≠ "java/lang/invoke/VarHandle" ∧ (parseMethodDescriptor y.desc).map (fun d => d.parameters.length) = some n) (hR : rmY.frames + 1 ≤ R.frames ∧ 8 + (mY + 11) + rmY.locals ≤ R.locals)
    (hn : As.length = n) (hsz : ls.size = nL) (hst : (rest.map fun v => v.category).sum ≤ 8) (hst0 : st0 = As.reverse ++ rest) (hdg : decode cc pc = .ok (.invokestatic idx, 3)) (hcs : cells + mc ≤ R.cells ∧ slots + ms ≤ R.slots) :
    vx_Run p l e R s m args below meth c H locs cells slots mc ms (F0 m pc ls st0) rest (Qc As.toArray) XC free :=
  vx_runS (As := As) (rest := rest) hC.1 hM (va_cwS n hC.t (goodL (goodG wc) (mem1 wl (mem1 wi (mem1 wn mem0)))) rfl hrm.1 hrm.2 hd hR) ⟨blindP, fun U hU hW => ⟨rfl, hC.w hS hG hU hW, h0⟩⟩ rfl hn hsz hst0 (lv_room hst) hdg hcs
/-- an exception that comes out of a callee leaves this method too -/
theorem prop_out (hS : va_S (AB B) s.heap H locs) (hex : ∀ x ∈ c.exceptionTable.toList, False) (hlk : meth.locks = false) {Qc : Array Value → State → Outcome → State → Prop} {G : String → Heap → Prop} {E : String} {ce : Cell} {q : Addr} (hG : G E H) (hcell : H[q]? = some ce) (hv : ce.vm = .none) (hcl : s.vm.findClass E = some ce.cls) (hc : cells ≤ mc) (hs : slots ≤ ms) :
    vx_W p l e R s m args below meth c H locs cells slots (vx_MQ below Qc (oX B G) args s mc ms (AB B)) (F0 m pc ls rest) q :=
  vx_out (fun x hx => (hex x hx).elim) hlk hcell hv hcl (fun t ht _ => ⟨(), trivial, by dsimp only; rw [ht]; exact hG, hS.F ht⟩) hS.2.2 hc hs
/-- 'throw new E(text)' -/
theorem thr (hC : Cx p m c cc nL s args RX6 D cy sa de B) (hl : l.stackTraces = false) (hS : va_S (AB B) s.heap H locs) (hGW : GW D B ad V H) (hex : ∀ x ∈ c.exceptionTable.toList, False) (hlk : meth.locks = false) (hsz : ls.size = nL) {cls text : String} {ik is ic si : Nat} {Qc : Array Value → State → Outcome → State → Prop} {G : String → Heap → Prop}
    (hcls : Bundle.fit cls = true) (wk : Cond.classLink RX6 ik cls ∈ G0) (wi : Cond.initialized cls ∈ G0) (hat : ∀ w ∈ vx_atS RX6 ic cls exN, w.before args s = true) (hot : ∀ w ∈ Cond.classLink RX6 ik cls :: Cond.initialized cls :: vx_atS RX6 ic cls exN, vx_ot w = true) (hstr : strL[si]? = some (is, text))
    (d0 : decode cc pc = .ok (.new ik, 3)) (d3 : decode cc (pc + 3) = .ok (.dup, 1)) (d4 : decode cc (pc + 4) = .ok (.ldc is, 2)) (d6 : decode cc (pc + 6) = .ok (.invokespecial ic, 3)) (d9 : decode cc (pc + 9) = .ok (.athrow, 1))
    (hRf : 5 < R.frames) (hRl : (rest.map fun v => v.category).sum + 82 ≤ R.locals) (hRc : cells + 1 ≤ R.cells) (hRs : slots + 6 ≤ R.slots) (hG : ∀ H1 : Heap, GW D B ad V H1 → G cls H1) (hc : cells + 1 ≤ mc) (hs : slots + 6 ≤ ms) :
    W p l e R s m args below meth c H locs cells slots (vx_MQ below Qc (oX B G) args s mc ms (AB B)) (F0 m pc ls rest) := by
  have hf := hC.2.2.1
  refine vx_throwS (names := exN) (A := AB B) (sa := sa si) hC.x hC.b hl hC.o hcls (by decide) (hC.t _ wk) (hC.t _ wi) (hC.k.2.2.2.2.2.1 si _ hstr) hat hot hf.1 hf.2.1 hS (hsz.trans hC.l.symm) d0 d3 d4 d6 d9 (fun x hx => (hex x hx).elim) hRf hRl hRc hRs hlk (fun t _ hz ho => ?_) hS.2.2 hc hs
  exact ⟨(), trivial, hG t.heap (hGW.kept ho), Nat.le_trans hS.1 hz, fun q h1 h2 => (ho q (Nat.lt_of_lt_of_le h1 hS.1)).trans (hS.2.1 q h1 h2)⟩
end CR
