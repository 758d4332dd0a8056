section THW
variable {p : Program} {l : Launch} {e : Env} {R : Room} {s : State} {m : MethodId} {args : Array Value} {below : List Frame} {meth : Method} {c : Code} {H : Heap} {locs : List Loc} {cells slots : Nat}
variable {cc : ByteArray} {pc nL : Nat} {ls : Array Slot} {rest : List Value} {D : va_G} {cy : Nat → ClassId} {sa : Nat → Nat} {de B : Nat} {ad : Ad} {V : Rl} {mc ms : Nat}
theorem thrW (hC : Cx p m c cc nL s args RX6 D cy sa de B) (hl : l.stackTraces = false) (hS : va_S (AB B) s.heap H locs) (hGW : GW D B ad V H) (hex : ∀ x ∈ c.exceptionTable.toList, False) (hlk : meth.locks = false) (hsz : ls.size = nL) {cls text : String} {ik is ic si : Nat} {Qc : Array Value → State → Outcome → State → Prop} {G : String → Heap → Prop}
    (hcls : Bundle.fit cls = true) (wk : Cond.classLink RX6 ik cls ∈ G0) (wi : Cond.initialized cls ∈ G0) (hat : ∀ w ∈ vx_atS RX6 ic cls exN, w.before args s = true) (hot : ∀ w ∈ Cond.classLink RX6 ik cls :: Cond.initialized cls :: vx_atS RX6 ic cls exN, vx_ot w = true) (hstr : strL[si]? = some (is, text))
    (d0 : decode cc pc = .ok (.new ik, 3)) (d3 : decode cc (pc + 3) = .ok (.dup, 1)) (d4 : decode cc (pc + 4) = .ok (.ldc_w is, 3)) (d6 : decode cc (pc + 7) = .ok (.invokespecial ic, 3)) (d9 : decode cc (pc + 10) = .ok (.athrow, 1))
    (hRf : 5 < R.frames) (hRl : (rest.map fun v => v.category).sum + 82 ≤ R.locals) (hRc : cells + 1 ≤ R.cells) (hRs : slots + 6 ≤ R.slots) (hG : ∀ H1 : Heap, GW D B ad V H1 → G cls H1) (hc : cells + 1 ≤ mc) (hs : slots + 6 ≤ ms) :
    W p l e R s m args below meth c H locs cells slots (vx_MQ below Qc (oX B G) args s mc ms (AB B)) (F0 m pc ls rest) := by
  have hf := hC.2.2.1
  refine vx_throwSW (names := exN) (A := AB B) (sa := sa si) hC.x hC.b hl hC.o hcls (by decide) (hC.t _ wk) (hC.t _ wi) (hC.k.2.2.2.2.2.1 si _ hstr) hat hot hf.1 hf.2.1 hS (hsz.trans hC.l.symm) d0 d3 d4 d6 d9 (fun x hx => (hex x hx).elim) hRf hRl hRc hRs hlk (fun t _ hz ho => ?_) hS.2.2 hc hs
  exact ⟨(), trivial, hG t.heap (hGW.kept ho), Nat.le_trans hS.1 hz, fun q h1 h2 => (ho q (Nat.lt_of_lt_of_le h1 hS.1)).trans (hS.2.1 q h1 h2)⟩
theorem thrW_NS (hC : Cx p m c cc nL s args RX6 D cy sa de B) (hl : l.stackTraces = false) (hS : va_S (AB B) s.heap H locs) (hGW : GW D B ad V H) (hex : ∀ x ∈ c.exceptionTable.toList, False) (hlk : meth.locks = false) (hsz : ls.size = nL) {text : String} {is si : Nat} {Qc : Array Value → State → Outcome → State → Prop} {G : String → Heap → Prop}
    (hstr : strL[si]? = some (is, text))
    (d0 : decode cc pc = .ok (.new 90, 3)) (d3 : decode cc (pc + 3) = .ok (.dup, 1)) (d4 : decode cc (pc + 4) = .ok (.ldc_w is, 3)) (d6 : decode cc (pc + 7) = .ok (.invokespecial 94, 3)) (d9 : decode cc (pc + 10) = .ok (.athrow, 1))
    (hRf : 5 < R.frames) (hRl : (rest.map fun v => v.category).sum + 82 ≤ R.locals) (hRc : cells + 1 ≤ R.cells) (hRs : slots + 6 ≤ R.slots) (hG : ∀ H1 : Heap, GW D B ad V H1 → G "java/util/NoSuchElementException" H1) (hc : cells + 1 ≤ mc) (hs : slots + 6 ≤ ms) :
    W p l e R s m args below meth c H locs cells slots (vx_MQ below Qc (oX B G) args s mc ms (AB B)) (F0 m pc ls rest) := by
  have hexec := hC.x
  have hb := hC.b
  have hat := at_NS hC
  have hgood := ot_NS
  have hSF := hC.2.2.1
  have hk := hC.t _ cl_X6_90
  have hini := hC.t _ (by exact in_java_util_NoSuchElementException)
  have hstr2 := hC.k.2.2.2.2.2.1 si _ hstr
  intro T hT X
  have htr : e.platform.stackTraces = false := (show e.platform.stackTraces = l.stackTraces by rw [X.admits.platform]).trans hl
  have Y := vx_rebase X (R' := { frames := R.frames, locals := R.locals, cells := 1, slots := 6 }) (Nat.le_refl _) (Nat.le_refl _) hRc hRs
  obtain ⟨s', hA⟩ : ∃ z, z = (T.setVm s.vm).setFrames (.invoking m args :: below) := ⟨_, rfl⟩
  rw [← hA] at Y
  have hvm : s'.vm = s.vm := by rw [hA]; rfl
  have hhp : s'.heap = H := by rw [hA]; exact hT
  have hW0 : s.WarmedH s'.vm := by rw [hvm]; exact State.WarmedH.refl s
  have hat' : ∀ w ∈ nsAt, w.before args s' = true := fun w hw => vx_ot_at hW0 hvm.symm (hgood w (List.mem_cons_of_mem _ (List.mem_cons_of_mem _ hw))) (hat w hw)
  have hk' : (Cond.classLink RX6 90 "java/util/NoSuchElementException").before args s' = true := vx_ot_at hW0 hvm.symm (hgood _ List.mem_cons_self) hk
  have hini' : (Cond.initialized "java/util/NoSuchElementException").before args s' = true := vx_ot_at hW0 hvm.symm (hgood _ (List.mem_cons_of_mem _ List.mem_cons_self)) hini
  have hU' : vx_Zq Bundle.tN "UNASSIGNED_STACK" Bundle.steD (AB B) s' s'.heap := by rw [hhp]; exact vx_Zq.moved hW0.alike (hSF.1.kept hS.2.1)
  have hN' : vx_Zq Bundle.tN "SUPPRESSED_SENTINEL" Bundle.listD (AB B) s' s'.heap := by rw [hhp]; exact vx_Zq.moved hW0.alike (hSF.2.1.kept hS.2.1)
  have h : ∀ w ∈ gAtoms RX6 94 "java/util/NoSuchElementException" "java/lang/RuntimeException" ["java/lang/Exception"] 13 nsB, w.before args s' = true := vx_own hat' (vx_isRefq hU'.1) (vx_isRefq hN'.1) hU'.2.word hN'.2.word
  have hown' : s'.vm.findClass RX6 = some m.cls := by rw [hvm]; exact hC.o
  have hins : (Cond.instantiable "java/util/NoSuchElementException" 6).before args s' = true := h _ (by simp [gAtoms])
  obtain ⟨vm₁, cX, kX, hfX, hkX, -, -, X₁, st1⟩ := Y.newCold hexec (own := RX6) (C := "java/util/NoSuchElementException") (index := 90) (n := 6) hown' hk' hins hini'
    (g := F0 m pc ls rest) rfl (by rw [hb]; exact d0) (Nat.le_refl _) (Nat.le_refl _)
  generalize hT1 : (T.setVm vm₁).pushCell { cls := cX, slots := kX.instanceTypes.map defaultValue, vm := .none } = T1 at X₁ st1
  have hcat : (Value.ref T.heap.size).category = 1 := rfl
  have hcellA : T1.heap[T.heap.size]? = some (freshCell cX kX) := by rw [← hT1]; exact State.heap_pushCell_size _ _
  have d3' : decode c.code (pc + 3) = .ok (.dup, 1) := by rw [hb]; exact d3
  have d4' : decode c.code (pc + 4) = .ok (.ldc_w is, 3) := by rw [hb]; exact d4
  have hstr' : vk_R RX6 is text (sa si) s' := vk_R.warm hW0 hstr2
  obtain ⟨U, hsteps, hrun, hend, hW, hsame, ce, hce, hcev, hcecl⟩ := gCtor X₁ hexec htr (own := RX6) (cls := "java/util/NoSuchElementException") (Yn := "java/lang/RuntimeException") (r := ["java/lang/Exception"]) (ic := 94) (ix := 13) (bs := nsB) hown' (by decide) (by decide) (by decide) (by decide +kernel) (by decide +kernel) (by decide +kernel) (by decide +kernel) h (fun x hx => nomatch hx) hfX hkX hcellA (by rw [hhp, hT]; exact Nat.le_refl _) (msg := .ref (sa si)) rfl
    (g := { method := m, pc := pc + 7, locals := ls, stack := .ref (sa si) :: .ref T.heap.size :: .ref T.heap.size :: rest, locked := none }) rfl (hsz.trans hC.l.symm) rfl rfl (rest := rest) rfl
    (by rw [hb]; exact d6) (by rw [hb]; exact d9) (fun x hx => (hex x hx).elim) hRf (by simp only [List.map_cons, List.sum_cons, hcat, List.length_cons, List.length_nil]; show 2 * 0 + _ + _ ≤ _; omega) hlk
  obtain ⟨f1, f2⟩ := vx_frame hsame
  rw [hhp] at f1 f2
  have hWs : s.WarmedH U.vm := State.WarmedH.trans hW0 hW
  have hcl : s.vm.findClass "java/util/NoSuchElementException" = some ce.cls := by
    rw [hvm] at hcecl
    exact hcecl
  have hall : s.sameButNew ({ U with vm := s.vm } : State) locs mc ms := by
    subst hA
    obtain ⟨e1, e2⟩ := hsame
    rw [State.setFrames_setFrames] at e1
    have h2 : (T.setVm s.vm).sameButNew ({ U with vm := s.vm } : State) [] (0 + 1) (0 + 6) := ⟨e1, e2⟩
    have h3 := X.same.trans h2
    rw [List.append_nil] at h3
    exact h3.mono hc hs
  have ho : ∀ q : Nat, q < H.size → U.heap[q]? = H[q]? := fun q hq => f2 q hq (fun z hz => nomatch hz)
  refine ⟨U, ?_, .threw T.heap.size, hrun, hend, Or.inr ⟨T.heap.size, rfl, "java/util/NoSuchElementException", ce, locs, ⟨(), trivial, hG U.heap (hGW.kept ho), Nat.le_trans hS.1 f1, fun q h1 h2 => (ho q (Nat.lt_of_lt_of_le h1 hS.1)).trans (hS.2.1 q h1 h2)⟩, hce, hcev, hcl, hWs, hall, hS.2.2⟩⟩
  refine st1 _ ?_
  show Steps p.tables e below (T1.setTop { method := m, pc := pc + 3, locals := ls, stack := .ref T.heap.size :: rest, locked := none }) _
  jvm_step X₁.here [X₁.here.top, hexec, d3', Value.category]
  exact X₁.ldcStringW hexec (own := RX6) (text := text) (index := is) (a := sa si) hown' hstr'.1 hstr'.2
    (g := { method := m, pc := pc + 4, locals := ls, stack := .ref T.heap.size :: .ref T.heap.size :: rest, locked := none }) rfl d4' _ hsteps
theorem thrW_IO (hC : Cx p m c cc nL s args RX6 D cy sa de B) (hl : l.stackTraces = false) (hS : va_S (AB B) s.heap H locs) (hGW : GW D B ad V H) (hex : ∀ x ∈ c.exceptionTable.toList, False) (hlk : meth.locks = false) (hsz : ls.size = nL) {text : String} {is si : Nat} {Qc : Array Value → State → Outcome → State → Prop} {G : String → Heap → Prop}
    (hstr : strL[si]? = some (is, text))
    (d0 : decode cc pc = .ok (.new 232, 3)) (d3 : decode cc (pc + 3) = .ok (.dup, 1)) (d4 : decode cc (pc + 4) = .ok (.ldc_w is, 3)) (d6 : decode cc (pc + 7) = .ok (.invokespecial 236, 3)) (d9 : decode cc (pc + 10) = .ok (.athrow, 1))
    (hRf : 5 < R.frames) (hRl : (rest.map fun v => v.category).sum + 82 ≤ R.locals) (hRc : cells + 1 ≤ R.cells) (hRs : slots + 6 ≤ R.slots) (hG : ∀ H1 : Heap, GW D B ad V H1 → G "java/lang/IndexOutOfBoundsException" H1) (hc : cells + 1 ≤ mc) (hs : slots + 6 ≤ ms) :
    W p l e R s m args below meth c H locs cells slots (vx_MQ below Qc (oX B G) args s mc ms (AB B)) (F0 m pc ls rest) :=
  thrW hC hl hS hGW hex hlk hsz (by decide) cl_X6_232 in_java_lang_IndexOutOfBoundsException (at_IO hC) ot_IO hstr d0 d3 d4 d6 d9 hRf hRl hRc hRs hG hc hs
theorem thrW_IS (hC : Cx p m c cc nL s args RX6 D cy sa de B) (hl : l.stackTraces = false) (hS : va_S (AB B) s.heap H locs) (hGW : GW D B ad V H) (hex : ∀ x ∈ c.exceptionTable.toList, False) (hlk : meth.locks = false) (hsz : ls.size = nL) {text : String} {is si : Nat} {Qc : Array Value → State → Outcome → State → Prop} {G : String → Heap → Prop}
    (hstr : strL[si]? = some (is, text))
    (d0 : decode cc pc = .ok (.new 37, 3)) (d3 : decode cc (pc + 3) = .ok (.dup, 1)) (d4 : decode cc (pc + 4) = .ok (.ldc_w is, 3)) (d6 : decode cc (pc + 7) = .ok (.invokespecial 41, 3)) (d9 : decode cc (pc + 10) = .ok (.athrow, 1))
    (hRf : 5 < R.frames) (hRl : (rest.map fun v => v.category).sum + 82 ≤ R.locals) (hRc : cells + 1 ≤ R.cells) (hRs : slots + 6 ≤ R.slots) (hG : ∀ H1 : Heap, GW D B ad V H1 → G "java/lang/IllegalStateException" H1) (hc : cells + 1 ≤ mc) (hs : slots + 6 ≤ ms) :
    W p l e R s m args below meth c H locs cells slots (vx_MQ below Qc (oX B G) args s mc ms (AB B)) (F0 m pc ls rest) :=
  thrW hC hl hS hGW hex hlk hsz (by decide) cl_X6_37 in_java_lang_IllegalStateException (at_IS hC) ot_IS hstr d0 d3 d4 d6 d9 hRf hRl hRc hRs hG hc hs
theorem thrW_IA (hC : Cx p m c cc nL s args RX6 D cy sa de B) (hl : l.stackTraces = false) (hS : va_S (AB B) s.heap H locs) (hGW : GW D B ad V H) (hex : ∀ x ∈ c.exceptionTable.toList, False) (hlk : meth.locks = false) (hsz : ls.size = nL) {text : String} {is si : Nat} {Qc : Array Value → State → Outcome → State → Prop} {G : String → Heap → Prop}
    (hstr : strL[si]? = some (is, text))
    (d0 : decode cc pc = .ok (.new 60, 3)) (d3 : decode cc (pc + 3) = .ok (.dup, 1)) (d4 : decode cc (pc + 4) = .ok (.ldc_w is, 3)) (d6 : decode cc (pc + 7) = .ok (.invokespecial 64, 3)) (d9 : decode cc (pc + 10) = .ok (.athrow, 1))
    (hRf : 5 < R.frames) (hRl : (rest.map fun v => v.category).sum + 82 ≤ R.locals) (hRc : cells + 1 ≤ R.cells) (hRs : slots + 6 ≤ R.slots) (hG : ∀ H1 : Heap, GW D B ad V H1 → G "java/lang/IllegalArgumentException" H1) (hc : cells + 1 ≤ mc) (hs : slots + 6 ≤ ms) :
    W p l e R s m args below meth c H locs cells slots (vx_MQ below Qc (oX B G) args s mc ms (AB B)) (F0 m pc ls rest) :=
  thrW hC hl hS hGW hex hlk hsz (by decide) cl_X6_60 in_java_lang_IllegalArgumentException (at_IA hC) ot_IA hstr d0 d3 d4 d6 d9 hRf hRl hRc hRs hG hc hs
theorem thrW_UO (hC : Cx p m c cc nL s args RX6 D cy sa de B) (hl : l.stackTraces = false) (hS : va_S (AB B) s.heap H locs) (hGW : GW D B ad V H) (hex : ∀ x ∈ c.exceptionTable.toList, False) (hlk : meth.locks = false) (hsz : ls.size = nL) {text : String} {is si : Nat} {Qc : Array Value → State → Outcome → State → Prop} {G : String → Heap → Prop}
    (hstr : strL[si]? = some (is, text))
    (d0 : decode cc pc = .ok (.new 145, 3)) (d3 : decode cc (pc + 3) = .ok (.dup, 1)) (d4 : decode cc (pc + 4) = .ok (.ldc_w is, 3)) (d6 : decode cc (pc + 7) = .ok (.invokespecial 149, 3)) (d9 : decode cc (pc + 10) = .ok (.athrow, 1))
    (hRf : 5 < R.frames) (hRl : (rest.map fun v => v.category).sum + 82 ≤ R.locals) (hRc : cells + 1 ≤ R.cells) (hRs : slots + 6 ≤ R.slots) (hG : ∀ H1 : Heap, GW D B ad V H1 → G "java/lang/UnsupportedOperationException" H1) (hc : cells + 1 ≤ mc) (hs : slots + 6 ≤ ms) :
    W p l e R s m args below meth c H locs cells slots (vx_MQ below Qc (oX B G) args s mc ms (AB B)) (F0 m pc ls rest) :=
  thrW hC hl hS hGW hex hlk hsz (by decide) cl_X6_145 in_java_lang_UnsupportedOperationException (at_UO hC) ot_UO hstr d0 d3 d4 d6 d9 hRf hRl hRc hRs hG hc hs
end THW
