/-! THE LAW'S BODY: its rows, its locals. -/
section LB
variable {p : Program} {l : Launch} {e : Env} {R : Room} {s : State} {m : MethodId} {args : Array Value} {below : List Frame} {meth : Method} {c : Code} {H : Heap} {locs : List Loc} {cells slots : Nat} {Q : State → Prop}
variable {cc : ByteArray} {pc nL : Nat} {ls : Array Slot} {rest : List Value} {vs : List (Option Value)} {own : String} {D : va_G} {cy : Nat → ClassId} {sa : Nat → Nat} {de B : Nat} {ad : Ad}
theorem lv_lcmpE (hexec : p.tables.exec = Jvm.exec) (hb : c.code = cc) {x : Int64} (hdg : decode cc pc = .ok (.lcmp, 1))
    (k : W p l e R s m args below meth c H locs cells slots Q (F0 m (pc + 1) ls (.int 0 :: rest))) : W p l e R s m args below meth c H locs cells slots Q (F0 m pc ls (.long x :: .long x :: rest)) := by
  intro T hT X
  obtain ⟨t, a, b⟩ := k T hT X
  refine ⟨t, ?_, b⟩
  jvm_step X.here [X.here.top, hexec, hb, hdg]
  simpa [Int64.lt_irrefl] using a
theorem o_fstore (hx : p.tables.exec = Jvm.exec) (hb : c.code = cc) {k : Nat} {x : UInt32} (hdg : decode cc pc = .ok (.fstore k, 2)) (hl : lo ls nL vs) (hi : k < nL) (hp : okp vs k = true)
    (kk : ∀ ls' : Array Slot, lo ls' nL (vs.set k (some (.float x))) → W p l e R s m args below meth c H locs cells slots Q (F0 m (pc + 2) ls' rest)) : W p l e R s m args below meth c H locs cells slots Q (F0 m pc ls (.float x :: rest)) := lv_fstore hx hb hdg (lo_lv hl) hi rfl (fun ls' h => kk ls' (lo_set hp h))
theorem o_fload (hx : p.tables.exec = Jvm.exec) (hb : c.code = cc) {k : Nat} {x : UInt32} (hdg : decode cc pc = .ok (.fload k, 2)) (hl : lo ls nL vs) (hk : vs[k]? = some (some (.float x)))
    (kk : W p l e R s m args below meth c H locs cells slots Q (F0 m (pc + 2) ls (.float x :: rest))) : W p l e R s m args below meth c H locs cells slots Q (F0 m pc ls rest) := lv_fload hx hb hdg (lo_get hl hk) kk
theorem o_dload (hx : p.tables.exec = Jvm.exec) (hb : c.code = cc) {k : Nat} {x : UInt64} (hdg : decode cc pc = .ok (.dload k, 2)) (hl : lo ls nL vs) (hk : vs[k]? = some (some (.double x)))
    (kk : W p l e R s m args below meth c H locs cells slots Q (F0 m (pc + 2) ls (.double x :: rest))) : W p l e R s m args below meth c H locs cells slots Q (F0 m pc ls rest) := lv_dload hx hb hdg (lo_get hl hk) kk
/-- the law's locals: the script, the two sides, the two arrays, where in the script; three more -/
abbrev LW (b : Nat) (ad : Ad) (i : Int32) (u v w : Option Value) : List (Option Value) := [some (.ref b), some (.ref (ad 0 0 0)), some (.ref (ad 13 0 0)), some (.ref (ad 20 0 0)), some (.ref (ad 20 1 0)), some (.int i), u, v, w]
theorem LW_ag {b : Nat} {ad ad9 : Ad} {i : Int32} {u v w : Option Value} (hA : Ag ad ad9) (h : lo ls 9 (LW b ad i u v w)) : lo ls 9 (LW b ad9 i u v w) := by
  unfold LW at h ⊢
  rw [show ad9 0 = ad 0 from hA 0 (Or.inl rfl), show ad9 13 = ad 13 from hA 13 (Or.inr (by decide)), show ad9 20 = ad 20 from hA 20 (Or.inr (by decide))]
  exact h
theorem LW_no {b : Nat} {i : Int32} {u v w : Option Value} (h : lo ls 9 (LW b ad i u v w)) : lo ls 9 (LW b ad i none none none) := lo_sub h (fun a x hx => by
  match a with
  | 0 => exact hx
  | 1 => exact hx
  | 2 => exact hx
  | 3 => exact hx
  | 4 => exact hx
  | 5 => exact hx
  | 6 => cases hx
  | 7 => cases hx
  | 8 => cases hx
  | _ + 9 => cases hx)
theorem o_dstore7 (hx : p.tables.exec = Jvm.exec) (hb : c.code = cc) {b : Nat} {i : Int32} {u : Int32} {x : UInt64} (hdg : decode cc pc = .ok (.dstore 7, 2)) (hl : lo ls 9 (LW b ad i (some (.int u)) none none))
    (kk : ∀ ls' : Array Slot, lo ls' 9 (LW b ad i (some (.int u)) (some (.double x)) none) → W p l e R s m args below meth c H locs cells slots Q (F0 m (pc + 2) ls' rest)) : W p l e R s m args below meth c H locs cells slots Q (F0 m pc ls (.double x :: rest)) :=
  lv_dstore hx hb hdg (lo_lv hl) (by decide) rfl (fun ls' h => kk ls' ⟨h.1, h.2.1, fun a w hw => by
    match a, hw with
    | 0, hw => cases hw; exact h.2.2 (0, _) (by simp [lvOf, LW, List.range, List.range.loop, Value.category])
    | 1, hw => cases hw; exact h.2.2 (1, _) (by simp [lvOf, LW, List.range, List.range.loop, Value.category])
    | 2, hw => cases hw; exact h.2.2 (2, _) (by simp [lvOf, LW, List.range, List.range.loop, Value.category])
    | 3, hw => cases hw; exact h.2.2 (3, _) (by simp [lvOf, LW, List.range, List.range.loop, Value.category])
    | 4, hw => cases hw; exact h.2.2 (4, _) (by simp [lvOf, LW, List.range, List.range.loop, Value.category])
    | 5, hw => cases hw; exact h.2.2 (5, _) (by simp [lvOf, LW, List.range, List.range.loop, Value.category])
    | 6, hw => cases hw; exact h.2.2 (6, _) (by simp [lvOf, LW, List.range, List.range.loop, Value.category])
    | 7, hw => cases hw; exact h.2.2 _ List.mem_cons_self
    | 8, hw => cases hw
    | _ + 9, hw => cases hw⟩)
/-- script[i + q], after the reads of the script, of i and of q -/
theorem g_arg (hC : Cx p m c cc nL s args own D cy sa de B) (hS : va_S (AB B) s.heap H locs) {b L : Nat} {xs : Nat → Int32} (hX : va_X b L xs s s.heap) (hbl : b < s.heap.size) (hbA : ¬ AB B b) (hL : L ≤ 2560) {i q : Nat} (hi : i + 4 < L) (hq : q ≤ 4) {k : Fin 4} {k5 : Nat} (hl : lo ls nL vs) (h0 : vs[(k : Nat)]? = some (some (.ref b))) (h5 : vs[k5]? = some (some (.int (nI i)))) {z : Int} (hz : z = (q : Int))
    (d0 : decode cc pc = .ok (.aload_n k, 1)) (d1 : decode cc (pc + 1) = .ok (.iload k5, 2)) (d2 : decode cc (pc + 3) = .ok (.iconst z, 1)) (d3 : decode cc (pc + 4) = .ok (.iadd, 1)) (d4 : decode cc (pc + 5) = .ok (.iaload, 1))
    (kk : W p l e R s m args below meth c H locs cells slots Q (F0 m (pc + 6) ls (.int (xs (i + q)) :: rest))) : W p l e R s m args below meth c H locs cells slots Q (F0 m pc ls rest) := by
  have hx := hC.x
  have hb := hC.b
  refine o_aload_n hx hb d0 hl h0 ?_
  refine o_iload hx hb d1 hl h5 ?_
  refine lv_iconst (v := nI q) hx hb d2 (by rw [hz]; rfl) ?_
  refine lv_iadd hx hb d3 ?_
  refine bi_0 (x := nI (i + q)) (by rw [nI_add]) ?_
  refine va_sld hx hb hX hbl hbA hS (i := nI (i + q)) (vp_in_nI (by omega) (by omega)) d4 ?_
  rw [nI_clamp (by omega)]; exact kk
end LB
