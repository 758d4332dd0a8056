/-! CONSTRUCTORS: the call of Object's. -/
section OI
variable {p : Program} {l : Launch} {e : Env} {R : Room} {s : State} {m : MethodId} {args : Array Value} {below : List Frame} {meth : Method} {c : Code} {H : Heap} {locs : List Loc} {cells slots : Nat} {Q : State → Prop}
variable {cc : ByteArray} {pc nL : Nat} {ls : Array Slot} {rest : List Value} {own : String} {D : va_G} {cy : Nat → ClassId} {sa : Nat → Nat} {de B : Nat} {a idx : Nat}
theorem o_oinit (hC : Cx p m c cc nL s args own D cy sa de B) (wl : Cond.methodLink own idx ⟨"java/lang/Object", "<init>", "()V"⟩ ∈ G0) (hsz : ls.size = nL) (hframes : 1 ≤ R.frames) (hlocals : (rest.map fun v => v.category).sum + 12 ≤ R.locals) (hdg : decode cc pc = .ok (.invokespecial idx, 3))
    (kk : W p l e R s m args below meth c H locs cells slots Q (F0 m (pc + 3) ls rest)) : W p l e R s m args below meth c H locs cells slots Q (F0 m pc ls (.ref a :: rest)) :=
  W.objInit hC.x hC.b hC.o (hC.t _ wl) (hC.t _ im_java_lang_Object__init_) (hC.t _ cd_java_lang_Object__init_) rfl (hsz.trans hC.l.symm) rfl hdg hframes (by show 2 * 0 + _ + 12 ≤ _; omega) kk
end OI
