/-! THE LOCALS as a list by their places: a store sets a place. -/
def lo (ls : Array Slot) (nL : Nat) (vs : List (Option Value)) : Prop := ls.size = nL ∧ lv_wf ls ∧ ∀ (i : Nat) (v : Value), vs[i]? = some (some v) → ls[i]? = some (.val v)
theorem lo_get {ls : Array Slot} {nL : Nat} {vs : List (Option Value)} (h : lo ls nL vs) {i : Nat} {v : Value} (hk : vs[i]? = some (some v)) : ls[i]? = some (.val v) := h.2.2 i v hk
def vsOf (l : List (Nat × Value)) (nL : Nat) : List (Option Value) := (List.range nL).map (fun i => (l.find? (fun q => q.1 == i)).map (fun q => q.2))
theorem lo_of {ls : Array Slot} {nL : Nat} {l : List (Nat × Value)} (h : lv_has ls nL l) : lo ls nL (vsOf l nL) := by
  refine ⟨h.1, h.2.1, fun i v hv => ?_⟩
  unfold vsOf at hv
  rw [List.getElem?_map] at hv
  cases hr : (List.range nL)[i]? with
  | none => rw [hr] at hv; cases hv
  | some j =>
    rw [hr] at hv
    have hj : j = i := by
      obtain ⟨h1, h2⟩ := List.getElem?_eq_some_iff.mp hr
      rw [List.getElem_range] at h2; exact h2.symm
    subst hj
    have hv : (l.find? (fun q => q.1 == j)).map (fun q => q.2) = some v := Option.some.inj hv
    cases hf : l.find? (fun q => q.1 == j) with
    | none => rw [hf] at hv; cases hv
    | some q =>
      rw [hf] at hv
      cases hv
      have h1 := List.mem_of_find?_eq_some hf
      have h2 := List.find?_some hf
      have h3 : q.1 = j := by simpa using h2
      rw [← h3]
      exact h.2.2 q h1
def okp (vs : List (Option Value)) (i : Nat) : Bool := match i with
  | 0 => true
  | i + 1 => match vs[i]? with
    | some (some w) => w.category == 1
    | _ => true
def lvOf (vs : List (Option Value)) : List (Nat × Value) := (List.range vs.length).filterMap (fun i => (vs[i]?.join).map (fun v => (i, v)))
theorem lvOf_mem {vs : List (Option Value)} {i : Nat} {v : Value} (h : vs[i]? = some (some v)) : (i, v) ∈ lvOf vs := by
  unfold lvOf
  refine List.mem_filterMap.mpr ⟨i, List.mem_range.mpr (List.getElem?_eq_some_iff.mp h).1, ?_⟩
  rw [h]; rfl
theorem lvOf_of {vs : List (Option Value)} {q : Nat × Value} (h : q ∈ lvOf vs) : vs[q.1]? = some (some q.2) := by
  unfold lvOf at h
  obtain ⟨i, -, hi⟩ := List.mem_filterMap.mp h
  cases hv : vs[i]? with
  | none => rw [hv] at hi; cases hi
  | some o =>
    rw [hv] at hi
    cases o with
    | none => cases hi
    | some v => cases hi; exact hv
theorem lo_lv {ls : Array Slot} {nL : Nat} {vs : List (Option Value)} (h : lo ls nL vs) : lv_has ls nL (lvOf vs) := ⟨h.1, h.2.1, fun _ hq => h.2.2 _ _ (lvOf_of hq)⟩
theorem lo_set {ls' : Array Slot} {nL i : Nat} {v : Value} {vs : List (Option Value)} (hp : okp vs i = true) (h' : lv_has ls' nL ((i, v) :: (lvOf vs).filter (fun q => !(q.1 == i) && !(q.1 + 1 == i && q.2.category == 2)))) : lo ls' nL (vs.set i (some v)) := by
  refine ⟨h'.1, h'.2.1, fun a w hw => ?_⟩
  by_cases ha : a = i
  · subst ha
    have hl : a < vs.length := by
      have h1 := (List.getElem?_eq_some_iff.mp hw).1
      rw [List.length_set] at h1; exact h1
    rw [List.getElem?_set_self hl] at hw
    cases hw
    exact h'.2.2 _ List.mem_cons_self
  · rw [List.getElem?_set_ne (Ne.symm ha)] at hw
    refine h'.2.2 (a, w) (List.mem_cons_of_mem _ (List.mem_filter.mpr ⟨lvOf_mem hw, ?_⟩))
    have h1 : (a == i) = false := by simpa using ha
    by_cases hb : a + 1 = i
    · subst hb
      have h2 : w.category = 1 := by
        unfold okp at hp
        simp only [hw] at hp
        simpa using hp
      simp [h1, h2]
    · simp [h1, hb]
theorem lo_sub {ls : Array Slot} {nL : Nat} {vs vs' : List (Option Value)} (h : lo ls nL vs) (hs : ∀ (i : Nat) (v : Value), vs'[i]? = some (some v) → vs[i]? = some (some v)) : lo ls nL vs' := ⟨h.1, h.2.1, fun i v hv => h.2.2 i v (hs i v hv)⟩
section LO
variable {p : Program} {l : Launch} {e : Env} {R : Room} {s : State} {m : MethodId} {args : Array Value} {below : List Frame} {meth : Method} {c : Code} {H : Heap} {locs : List Loc} {cells slots : Nat} {Q : State → Prop}
variable {cc : ByteArray} {pc nL : Nat} {ls : Array Slot} {rest : List Value} {vs : List (Option Value)}
theorem o_iload_n (hx : p.tables.exec = Jvm.exec) (hb : c.code = cc) {k : Fin 4} {x : Int32} (hdg : decode cc pc = .ok (.iload_n k, 1)) (hl : lo ls nL vs) (hk : vs[(k : Nat)]? = some (some (.int x)))
    (kk : W p l e R s m args below meth c H locs cells slots Q (F0 m (pc + 1) ls (.int x :: rest))) : W p l e R s m args below meth c H locs cells slots Q (F0 m pc ls rest) := lv_iload_n hx hb hdg rfl (lo_get hl hk) kk
theorem o_iload (hx : p.tables.exec = Jvm.exec) (hb : c.code = cc) {k : Nat} {x : Int32} (hdg : decode cc pc = .ok (.iload k, 2)) (hl : lo ls nL vs) (hk : vs[k]? = some (some (.int x)))
    (kk : W p l e R s m args below meth c H locs cells slots Q (F0 m (pc + 2) ls (.int x :: rest))) : W p l e R s m args below meth c H locs cells slots Q (F0 m pc ls rest) := lv_iload hx hb hdg (lo_get hl hk) kk
theorem o_lload_n (hx : p.tables.exec = Jvm.exec) (hb : c.code = cc) {k : Fin 4} {x : Int64} (hdg : decode cc pc = .ok (.lload_n k, 1)) (hl : lo ls nL vs) (hk : vs[(k : Nat)]? = some (some (.long x)))
    (kk : W p l e R s m args below meth c H locs cells slots Q (F0 m (pc + 1) ls (.long x :: rest))) : W p l e R s m args below meth c H locs cells slots Q (F0 m pc ls rest) := lv_lload_n hx hb hdg rfl (lo_get hl hk) kk
theorem o_lload (hx : p.tables.exec = Jvm.exec) (hb : c.code = cc) {k : Nat} {x : Int64} (hdg : decode cc pc = .ok (.lload k, 2)) (hl : lo ls nL vs) (hk : vs[k]? = some (some (.long x)))
    (kk : W p l e R s m args below meth c H locs cells slots Q (F0 m (pc + 2) ls (.long x :: rest))) : W p l e R s m args below meth c H locs cells slots Q (F0 m pc ls rest) := lv_lload hx hb hdg (lo_get hl hk) kk
theorem o_aload_n (hx : p.tables.exec = Jvm.exec) (hb : c.code = cc) {k : Fin 4} {x : Nat} (hdg : decode cc pc = .ok (.aload_n k, 1)) (hl : lo ls nL vs) (hk : vs[(k : Nat)]? = some (some (.ref x)))
    (kk : W p l e R s m args below meth c H locs cells slots Q (F0 m (pc + 1) ls (.ref x :: rest))) : W p l e R s m args below meth c H locs cells slots Q (F0 m pc ls rest) := lv_aload_n hx hb hdg rfl (lo_get hl hk) kk
theorem o_aload (hx : p.tables.exec = Jvm.exec) (hb : c.code = cc) {k : Nat} {x : Nat} (hdg : decode cc pc = .ok (.aload k, 2)) (hl : lo ls nL vs) (hk : vs[k]? = some (some (.ref x)))
    (kk : W p l e R s m args below meth c H locs cells slots Q (F0 m (pc + 2) ls (.ref x :: rest))) : W p l e R s m args below meth c H locs cells slots Q (F0 m pc ls rest) := lv_aload hx hb hdg (lo_get hl hk) kk
theorem o_aload_nq (hx : p.tables.exec = Jvm.exec) (hb : c.code = cc) {k : Fin 4} {x : Option Nat} (hdg : decode cc pc = .ok (.aload_n k, 1)) (hl : lo ls nL vs) (hk : vs[(k : Nat)]? = some (some (va_rf x)))
    (kk : W p l e R s m args below meth c H locs cells slots Q (F0 m (pc + 1) ls (va_rf x :: rest))) : W p l e R s m args below meth c H locs cells slots Q (F0 m pc ls rest) := by
  cases x with
  | none => exact lv_aload_nN hx hb hdg rfl (lo_get hl hk) kk
  | some a => exact lv_aload_n hx hb hdg rfl (lo_get hl hk) kk
theorem o_aloadq (hx : p.tables.exec = Jvm.exec) (hb : c.code = cc) {k : Nat} {x : Option Nat} (hdg : decode cc pc = .ok (.aload k, 2)) (hl : lo ls nL vs) (hk : vs[k]? = some (some (va_rf x)))
    (kk : W p l e R s m args below meth c H locs cells slots Q (F0 m (pc + 2) ls (va_rf x :: rest))) : W p l e R s m args below meth c H locs cells slots Q (F0 m pc ls rest) := by
  cases x with
  | none => exact lv_aloadN hx hb hdg (lo_get hl hk) kk
  | some a => exact lv_aload hx hb hdg (lo_get hl hk) kk
theorem o_istore_n (hx : p.tables.exec = Jvm.exec) (hb : c.code = cc) {k : Fin 4} {x : Int32} (hdg : decode cc pc = .ok (.istore_n k, 1)) (hl : lo ls nL vs) (hi : (k : Nat) < nL) (hp : okp vs k = true)
    (kk : ∀ ls' : Array Slot, lo ls' nL (vs.set k (some (.int x))) → W p l e R s m args below meth c H locs cells slots Q (F0 m (pc + 1) ls' rest)) : W p l e R s m args below meth c H locs cells slots Q (F0 m pc ls (.int x :: rest)) := lv_istore_n hx hb hdg rfl (lo_lv hl) hi rfl (fun ls' h => kk ls' (lo_set hp h))
theorem o_istore (hx : p.tables.exec = Jvm.exec) (hb : c.code = cc) {k : Nat} {x : Int32} (hdg : decode cc pc = .ok (.istore k, 2)) (hl : lo ls nL vs) (hi : k < nL) (hp : okp vs k = true)
    (kk : ∀ ls' : Array Slot, lo ls' nL (vs.set k (some (.int x))) → W p l e R s m args below meth c H locs cells slots Q (F0 m (pc + 2) ls' rest)) : W p l e R s m args below meth c H locs cells slots Q (F0 m pc ls (.int x :: rest)) := lv_istore hx hb hdg (lo_lv hl) hi rfl (fun ls' h => kk ls' (lo_set hp h))
theorem o_astore_n (hx : p.tables.exec = Jvm.exec) (hb : c.code = cc) {k : Fin 4} {x : Nat} (hdg : decode cc pc = .ok (.astore_n k, 1)) (hl : lo ls nL vs) (hi : (k : Nat) < nL) (hp : okp vs k = true)
    (kk : ∀ ls' : Array Slot, lo ls' nL (vs.set k (some (.ref x))) → W p l e R s m args below meth c H locs cells slots Q (F0 m (pc + 1) ls' rest)) : W p l e R s m args below meth c H locs cells slots Q (F0 m pc ls (.ref x :: rest)) := lv_astore_n hx hb hdg rfl (lo_lv hl) hi rfl (fun ls' h => kk ls' (lo_set hp h))
theorem o_astore (hx : p.tables.exec = Jvm.exec) (hb : c.code = cc) {k : Nat} {x : Nat} (hdg : decode cc pc = .ok (.astore k, 2)) (hl : lo ls nL vs) (hi : k < nL) (hp : okp vs k = true)
    (kk : ∀ ls' : Array Slot, lo ls' nL (vs.set k (some (.ref x))) → W p l e R s m args below meth c H locs cells slots Q (F0 m (pc + 2) ls' rest)) : W p l e R s m args below meth c H locs cells slots Q (F0 m pc ls (.ref x :: rest)) := lv_astore hx hb hdg (lo_lv hl) hi rfl (fun ls' h => kk ls' (lo_set hp h))
theorem o_astore_nq (hx : p.tables.exec = Jvm.exec) (hb : c.code = cc) {k : Fin 4} {x : Option Nat} (hdg : decode cc pc = .ok (.astore_n k, 1)) (hl : lo ls nL vs) (hi : (k : Nat) < nL) (hp : okp vs k = true)
    (kk : ∀ ls' : Array Slot, lo ls' nL (vs.set k (some (va_rf x))) → W p l e R s m args below meth c H locs cells slots Q (F0 m (pc + 1) ls' rest)) : W p l e R s m args below meth c H locs cells slots Q (F0 m pc ls (va_rf x :: rest)) := by
  cases x with
  | none => exact lv_astore_nN hx hb hdg rfl (lo_lv hl) hi rfl (fun ls' h => kk ls' (lo_set hp h))
  | some a => exact lv_astore_n hx hb hdg rfl (lo_lv hl) hi rfl (fun ls' h => kk ls' (lo_set hp h))
theorem o_astoreq (hx : p.tables.exec = Jvm.exec) (hb : c.code = cc) {k : Nat} {x : Option Nat} (hdg : decode cc pc = .ok (.astore k, 2)) (hl : lo ls nL vs) (hi : k < nL) (hp : okp vs k = true)
    (kk : ∀ ls' : Array Slot, lo ls' nL (vs.set k (some (va_rf x))) → W p l e R s m args below meth c H locs cells slots Q (F0 m (pc + 2) ls' rest)) : W p l e R s m args below meth c H locs cells slots Q (F0 m pc ls (va_rf x :: rest)) := by
  cases x with
  | none => exact lv_astoreN hx hb hdg (lo_lv hl) hi rfl (fun ls' h => kk ls' (lo_set hp h))
  | some a => exact lv_astore hx hb hdg (lo_lv hl) hi rfl (fun ls' h => kk ls' (lo_set hp h))
theorem o_iinc (hx : p.tables.exec = Jvm.exec) (hb : c.code = cc) {k : Nat} {n : Int} {x v : Int32} (hdg : decode cc pc = .ok (.iinc k n, 3)) (hl : lo ls nL vs) (hk : vs[k]? = some (some (.int x))) (hv : x + Int32.ofInt n = v) (hi : k < nL) (hp : okp vs k = true)
    (kk : ∀ ls' : Array Slot, lo ls' nL (vs.set k (some (.int v))) → W p l e R s m args below meth c H locs cells slots Q (F0 m (pc + 3) ls' rest)) : W p l e R s m args below meth c H locs cells slots Q (F0 m pc ls rest) := by
  obtain ⟨q, hq⟩ := List.getElem?_of_mem (lvOf_mem hk)
  exact lv_iinc hx hb hdg (lo_lv hl) hq hv hi rfl (fun ls' h => kk ls' (lo_set hp h))
theorem o_iinc1 (hx : p.tables.exec = Jvm.exec) (hb : c.code = cc) {k a : Nat} (hdg : decode cc pc = .ok (.iinc k 1, 3)) (hl : lo ls nL vs) (hk : vs[k]? = some (some (.int (nI a)))) (hi : k < nL) (hp : okp vs k = true)
    (kk : ∀ ls' : Array Slot, lo ls' nL (vs.set k (some (.int (nI (a + 1))))) → W p l e R s m args below meth c H locs cells slots Q (F0 m (pc + 3) ls' rest)) : W p l e R s m args below meth c H locs cells slots Q (F0 m pc ls rest) := o_iinc hx hb hdg hl hk (nI_1 a) hi hp kk
-- comparisons of counters
theorem n_icmp_ge (hx : p.tables.exec = Jvm.exec) (hb : c.code = cc) {x y : Int32} (a b : Nat) (ex : x = nI a) (ey : y = nI b) (ha : a < 2 ^ 31) (hb2 : b < 2 ^ 31) {off : Int} {tgt : Nat} (hdg : decode cc pc = .ok (.if_icmp .ge off, 3)) (ht : (pc : Int) + off = (tgt : Int))
    (kt : b ≤ a → W p l e R s m args below meth c H locs cells slots Q (F0 m tgt ls rest)) (kf : a < b → W p l e R s m args below meth c H locs cells slots Q (F0 m (pc + 3) ls rest)) : W p l e R s m args below meth c H locs cells slots Q (F0 m pc ls (.int y :: .int x :: rest)) := by
  subst ex; subst ey
  refine lv_icmp_ge hx hb hdg ht (fun h => kt ?_) (fun h => kf ?_)
  · exact (nI_leI hb2 ha).mp h
  · exact Nat.lt_of_not_le (fun z => h ((nI_leI hb2 ha).mpr z))
theorem n_icmp_lt (hx : p.tables.exec = Jvm.exec) (hb : c.code = cc) {x y : Int32} (a b : Nat) (ex : x = nI a) (ey : y = nI b) (ha : a < 2 ^ 31) (hb2 : b < 2 ^ 31) {off : Int} {tgt : Nat} (hdg : decode cc pc = .ok (.if_icmp .lt off, 3)) (ht : (pc : Int) + off = (tgt : Int))
    (kt : a < b → W p l e R s m args below meth c H locs cells slots Q (F0 m tgt ls rest)) (kf : b ≤ a → W p l e R s m args below meth c H locs cells slots Q (F0 m (pc + 3) ls rest)) : W p l e R s m args below meth c H locs cells slots Q (F0 m pc ls (.int y :: .int x :: rest)) := by
  subst ex; subst ey
  refine lv_icmp_lt hx hb hdg ht (fun h => kt ?_) (fun h => kf ?_)
  · exact (nI_ltI ha hb2).mp h
  · exact Nat.le_of_not_lt (fun z => h ((nI_ltI ha hb2).mpr z))
theorem q_ifnull (hx : p.tables.exec = Jvm.exec) (hb : c.code = cc) {x : Option Nat} {off : Int} {tgt : Nat} (hdg : decode cc pc = .ok (.ifnull off, 3)) (ht : (pc : Int) + off = (tgt : Int))
    (kt : x = none → W p l e R s m args below meth c H locs cells slots Q (F0 m tgt ls rest)) (kf : ∀ a, x = some a → W p l e R s m args below meth c H locs cells slots Q (F0 m (pc + 3) ls rest)) : W p l e R s m args below meth c H locs cells slots Q (F0 m pc ls (va_rf x :: rest)) := by
  cases x with
  | none => exact lv_ifnullN hx hb hdg ht (kt rfl)
  | some a => exact lv_ifnull hx hb hdg (kf a rfl)
theorem q_ifnonnull (hx : p.tables.exec = Jvm.exec) (hb : c.code = cc) {x : Option Nat} {off : Int} {tgt : Nat} (hdg : decode cc pc = .ok (.ifnonnull off, 3)) (ht : (pc : Int) + off = (tgt : Int))
    (kt : ∀ a, x = some a → W p l e R s m args below meth c H locs cells slots Q (F0 m tgt ls rest)) (kf : x = none → W p l e R s m args below meth c H locs cells slots Q (F0 m (pc + 3) ls rest)) : W p l e R s m args below meth c H locs cells slots Q (F0 m pc ls (va_rf x :: rest)) := by
  cases x with
  | none => exact lv_ifnonnullN hx hb hdg (kf rfl)
  | some a => exact lv_ifnonnull hx hb hdg ht (kt a rfl)
end LO
