/-! NEW ROWS: arrays of references, copies, class objects, the static empty array. -/
theorem nt_copy : Cond.native arraycopyName ∈ G0 := List.mem_filter.mpr ⟨List.mem_append_right _ (List.mem_of_getElem? (i := 353) (by decide +kernel)), by decide +kernel⟩
theorem nt_getC : Cond.native ⟨"java/lang/Object", "getClass", "()Ljava/lang/Class;"⟩ ∈ G0 := List.mem_filter.mpr ⟨List.mem_append_right _ (List.mem_of_getElem? (i := 341) (by decide +kernel)), by decide +kernel⟩
theorem GW.put2 {D : va_G} {B : Nat} {ad : Ad} {V : Rl} {H H1 : Heap} (h : GW D B ad V H) {t i j : Nat} {e e' : va_E} (he : V t i j = some e) (e1 : va_at D vwCl (ad t i j, e') H1) (oq : ∀ q : Nat, q < H.size → q ≠ ad t i j → H1[q]? = H[q]?) : GW D B ad (up3 V t i j (some e')) H1 := by
  refine ⟨fun a b c x hx => ?_, fun a b c x a' b' c' x' hx hx' ha => ?_⟩
  · by_cases hz : a = t ∧ b = i ∧ c = j
    · obtain ⟨rfl, rfl, rfl⟩ := hz
      rw [up3_self] at hx
      cases hx
      exact ⟨e1, h.ge he⟩
    · rw [up3_ne hz] at hx
      exact ⟨(h.at hx).kept (oq _ (h.lt hx) (fun q => hz (h.inj hx he q))), h.ge hx⟩
  · have key : ∀ {a b c : Nat} {x : va_E}, up3 V t i j (some e') a b c = some x → ∃ y, V a b c = some y := by
      intro a b c x hx
      by_cases hz : a = t ∧ b = i ∧ c = j
      · obtain ⟨rfl, rfl, rfl⟩ := hz
        exact ⟨e, he⟩
      · rw [up3_ne hz] at hx
        exact ⟨x, hx⟩
    obtain ⟨y, hy⟩ := key hx
    obtain ⟨y', hy'⟩ := key hx'
    exact h.inj hy hy' ha
/-- a row of Object holds objects of ours -/
def okEl (ad : Ad) (V : Rl) (f : Nat → Option Nat) (n : Nat) : Prop := ∀ a, a < n → ∀ y, f a = some y → ∃ (t i j : Nat) (ci : Nat) (fs : List Value) (r : vw_C), y = ad t i j ∧ V t i j = some (.inr (ci, fs)) ∧ vwCl[ci]? = some r ∧ (r.1, "java/lang/Object") ∈ castL
section AL2
variable {p : Program} {l : Launch} {e : Env} {R : Room} {s : State} {m : MethodId} {args : Array Value} {below : List Frame} {meth : Method} {c : Code} {H : Heap} {locs : List Loc} {cells slots : Nat} {Q : State → Prop}
variable {cc : ByteArray} {pc nL : Nat} {ls : Array Slot} {rest : List Value} {own : String} {D : va_G} {cy : Nat → ClassId} {sa : Nat → Nat} {de B : Nat} {ad : Ad} {V : Rl} {t i j : Nat}
theorem g_anew (hC : Cx p m c cc nL s args own D cy sa de B) (hG : GW D B ad V H) (hS : va_S (AB B) s.heap H locs) {C : String} {index : Nat} (hcl : Cond.classLink own index C ∈ G0) (hover : va_AO C s) (t0 : Nat) {cA : ClassId} (ht : (tyL cy)[t0]? = some (cA, .object C)) {n : Int32} {N' : Nat} (hn : ¬ n < 0) (hN : n.toNatClampNeg = N') (hbytes : N' * 4 ≤ 536870912) (hcells : cells + 1 ≤ R.cells) (hslots : slots + N' ≤ R.slots) (t i j : Nat) (hz : V t i j = none) (hdg : decode cc pc = .ok (.anewarray index, 3))
    (kk : ∀ (q : Nat) (H1 : Heap), GW D B (up3 ad t i j q) (up3 V t i j (some (eQ cA N' (fun _ => none)))) H1 → va_S (AB B) s.heap H1 locs → W p l e R s m args below meth c H1 locs (cells + 1) (slots + N') Q (F0 m (pc + 3) ls (.ref q :: rest))) : W p l e R s m args below meth c H locs cells slots Q (F0 m pc ls (.int n :: rest)) := by
  subst hN
  refine W.anew hC.x hC.b hC.o (hC.t _ hcl) (va_AO.use hover) rfl hdg rfl hn hbytes hcells hslots fun cA1 kA comp f1 f2 f3 f4 => ?_
  have hcA : cA1 = cA := Option.some.inj (f1.symm.trans (va_nmO (hC.K.2 t0 _ ht).2 rfl))
  generalize hH1 : H.push ({ cls := cA1, slots := Array.replicate n.toNatClampNeg .null, vm := .none } : Cell) = H1
  have z1 : H1.size = H.size + 1 := by rw [← hH1, Array.size_push]
  have e1 : H1[H.size]? = some (arrV cA1 n.toNatClampNeg (fun _ => .null)) := by rw [← hH1, Array.getElem?_push_size, ← arrV_new]
  have o1 : ∀ q : Nat, q < H.size → H1[q]? = H[q]? := fun q hq => by rw [← hH1, Array.getElem?_push, if_neg (Nat.ne_of_lt hq)]
  refine kk H.size H1 (hG.new hz (Nat.le_refl _) (Nat.le_trans hC.2.2.2 hS.1) ?_ o1) ⟨Nat.le_trans hS.1 (by omega), fun x h1 h2 => (o1 x (Nat.lt_of_lt_of_le h1 hS.1)).trans (hS.2.1 x h1 h2), hS.2.2⟩
  show H1[H.size]? = some (vp_cell _ _)
  rw [vp_cell_q, ← hcA]
  exact e1
theorem g_ast (hC : Cx p m c cc nL s args own D cy sa de B) (hG : GW D B ad V H) (hS : va_S (AB B) s.heap H locs) (t0 : Nat) {E : String} {cA : ClassId} (ht : (tyL cy)[t0]? = some (cA, .object E)) {N : Nat} {f : Nat → Option Nat} (he : V t i j = some (eQ cA N f)) {tv iv jv ci : Nat} {fs : List Value} {r : vw_C} (hv : V tv iv jv = some (.inr (ci, fs))) (hc : vwCl[ci]? = some r) (hasg : ∀ comp c0 : ClassId, s.vm.findClass E = some comp → s.vm.findClass r.1 = some c0 → s.vm.assignable c0 comp = true) {x : Int32} (a : Nat) (hx : x = nI a) (ha : a < N) (hN : N < 2 ^ 31) {V' : Rl} (hV : up3 V t i j (some (eQ cA N (va_up f a (some (ad tv iv jv))))) = V') (hdg : decode cc pc = .ok (.aastore, 1))
    (kk : ∀ (H1 : Heap) (locs1 : List Loc), GW D B ad V' H1 → va_S (AB B) s.heap H1 locs1 → W p l e R s m args below meth c H1 locs1 cells slots Q (F0 m (pc + 1) ls rest)) : W p l e R s m args below meth c H locs cells slots Q (F0 m pc ls (.ref (ad tv iv jv) :: .int x :: .ref (ad t i j) :: rest)) := by
  subst hx; subst hV
  obtain ⟨cellV, g1, g3, ⟨kC, hkC⟩, hasg⟩ := va_rAny hC.K (hG.one hv) (q0 := 0) rfl hc hasg
  obtain ⟨kA, comp, k1, k2, k3, -⟩ := (hC.K.2 t0 _ ht).2
  obtain ⟨kE, hkE, -⟩ := Vm.findClass_spec k3
  refine W.aast hC.x hC.b (hG.at he) (fun q h => by cases h) (fun h => by cases h) k1 k2 rfl hkE ⟨nI_pos (by omega), by show _ < (arrV _ _ _).slots.size; rw [arrV_size, nI_clamp (by omega)]; exact ha⟩ g1 (fun q h => by rw [h] at g3; cases g3) hkC (hasg _ k3) rfl rfl hdg fun H1 e z oq => ?_
  refine kk H1 _ (hG.put he ?_ oq) (hS.put z oq (hG.ge he))
  show H1[ad t i j]? = some (vp_cell _ _)
  rw [e, nI_clamp (by omega)]
  rw [vp_cell_q, vp_cell_q, arrV_store]
  congr 2
  funext q
  by_cases hq : q = a
  · subst hq
    simp [updV, va_up, va_rf]
  · simp [updV, va_up, hq]
/-- the elements may lie in a row of Object -/
theorem okEl.any (hC : Cx p m c cc nL s args own D cy sa de B) (hG : GW D B ad V H) {f : Nat → Option Nat} {n : Nat} (h : okEl ad V f n) : ∀ a, a < n → ∀ y, f a = some y → va_Any "java/lang/Object" s H y := by
  intro a ha y hy
  obtain ⟨t, i, j, ci, fs, r, rfl, hV, hc, hr⟩ := h a ha y hy
  exact va_rAny hC.K (hG.one hV) (q0 := 0) rfl hc (vb_asgC (hC.k.2.2.1 _ hr))
/-- System.arraycopy of the first n, from one row of Object to another, where nothing was written yet -/
theorem g_copy (hC : Cx p m c cc nL s args own D cy sa de B) (hG : GW D B ad V H) (hS : va_S (AB B) s.heap H []) (hsz : ls.size = nL) {index : Nat} (hlink : Cond.methodLink own index arraycopyName ∈ G0) {t2 i2 j2 n0 n1 n : Nat} {f g : Nat → Option Nat} (h0 : V t2 i2 j2 = some (eQ (cy 6) n0 f)) (h1 : V t i j = some (eQ (cy 6) n1 g)) (hn0 : n ≤ n0) (hn1 : n ≤ n1) (hn : n < 2 ^ 31) (hel : okEl ad V f n) (hne : ¬ (t2 = t ∧ i2 = i ∧ j2 = j)) {V' : Rl} (hV : up3 V t i j (some (eQ (cy 6) n1 (fun k => if k < n then f k else g k))) = V') (hframes : 1 ≤ R.frames) (hlocals : (rest.map fun v => v.category).sum + (nativeFrameWords "java/lang/System" "arraycopy" 5 + 11) ≤ R.locals) (hdg : decode cc pc = .ok (.invokestatic index, 3))
    (kk : ∀ (H1 : Heap) (locs1 : List Loc), GW D B ad V' H1 → va_S (AB B) s.heap H1 locs1 → W p l e R s m args below meth c H1 locs1 cells slots Q (F0 m (pc + 3) ls rest)) : W p l e R s m args below meth c H [] cells slots Q (F0 m pc ls (.int (nI n) :: .int 0 :: .ref (ad t i j) :: .int 0 :: .ref (ad t2 i2 j2) :: rest)) := by
  subst hV
  have c0 : (0 : Int32).toNatClampNeg = 0 := by decide
  have cn : (nI n).toNatClampNeg = n := nI_clamp hn
  have hna : ¬ ad t2 i2 j2 = ad t i j := fun z => hne (hG.inj h0 h1 z)
  have hP : va_P D vwCl [(ad t2 i2 j2, eQ (cy 6) n0 f), (ad t i j, eQ (cy 6) n1 g)] H := by
    intro k q hk
    match k, hk with
    | 0, hk => cases hk; exact hG.at h0
    | 1, hk => cases hk; exact hG.at h1
    | k + 2, hk => simp at hk
  have hD : va_D (fun q => q = ad t2 i2 j2 ∨ q = ad t i j) [(ad t2 i2 j2, eQ (cy 6) n0 f), (ad t i j, eQ (cy 6) n1 g)] := by
    refine ⟨fun a b x y ha hb hxy => ?_, fun k q hk => ?_⟩
    · match a, b, ha, hb with
      | 0, 0, _, _ => rfl
      | 1, 1, _, _ => rfl
      | 0, 1, ha, hb => cases ha; cases hb; exact absurd hxy hna
      | 1, 0, ha, hb => cases ha; cases hb; exact absurd hxy.symm hna
      | a + 2, _, ha, _ => simp at ha
      | _, b + 2, _, hb => simp at hb
    · match k, hk with
      | 0, hk => cases hk; exact Or.inl rfl
      | 1, hk => cases hk; exact Or.inr rfl
      | k + 2, hk => simp at hk
  have hS0 : va_S (fun q => q = ad t2 i2 j2 ∨ q = ad t i j) H H [] := va_S.rf
  refine va_copyM hC.x hC.b (hC.l.trans hsz.symm) hC.o (hC.t _ hlink) (hC.t _ nt_copy) (hC.t _ sm_J10_arraycopy) (hC.t _ in_J10) hC.K hP hD hS0 0 1 6 6 rfl rfl rfl rfl (sp := 0) (dp := 0) (n := nI n) (by decide) (by decide) (nI_pos hn) (by rw [c0, cn]; omega) (by rw [c0, cn]; omega) (fun a ha y hy => okEl.any hC hG hel a (by rw [cn] at ha; exact ha) y (by rw [c0, Nat.zero_add] at hy; exact hy)) hframes hlocals hdg (fun H1 locs1 hP1 hD1 hS1 => ?_)
  have e1 : va_at D vwCl (ad t i j, eQ (cy 6) n1 (va_cpy f g (0 : Int32).toNatClampNeg (0 : Int32).toNatClampNeg (nI n).toNatClampNeg)) H1 := hP1 1 _ rfl
  have e2 : va_at D vwCl (ad t2 i2 j2, eQ (cy 6) n0 f) H1 := hP1 0 _ rfl
  have ef : va_cpy f g (0 : Int32).toNatClampNeg (0 : Int32).toNatClampNeg (nI n).toNatClampNeg = fun k => if k < n then f k else g k := by
    funext k
    rw [c0, cn]
    unfold va_cpy
    simp
  rw [ef] at e1
  have oq : ∀ q : Nat, q < H.size → q ≠ ad t i j → H1[q]? = H[q]? := fun q hq hqn => by
    by_cases hq2 : q = ad t2 i2 j2
    · subst hq2
      have z1 : H1[ad t2 i2 j2]? = some (vp_cell (cy 6) (n0, .inr (.inr (.inr (.inr f))))) := e2
      have z2 : H[ad t2 i2 j2]? = some (vp_cell (cy 6) (n0, .inr (.inr (.inr (.inr f))))) := hG.at h0
      rw [z1, z2]
    · exact hS1.2.1 q hq (fun z => z.elim hq2 hqn)
  refine kk H1 locs1 (hG.put2 h1 e1 oq) ⟨Nat.le_trans hS.1 hS1.1, fun q g1 g2 => ?_, fun z hz => ?_⟩
  · rw [oq q (Nat.lt_of_lt_of_le g1 hS.1) (fun w => g2 (by rw [w]; exact hG.ge h1))]
    exact hS.2.1 q g1 g2
  · rcases hS1.2.2 z hz with w | w <;> show B ≤ _ <;> rw [w]
    · exact hG.ge h0
    · exact hG.ge h1
theorem g_getC (hC : Cx p m c cc nL s args own D cy sa de B) (hG : GW D B ad V H) (hsz : ls.size = nL) {index N : Nat} {f : Nat → Option Nat} (hlink : Cond.methodLink own index ⟨"java/lang/Object", "getClass", "()Ljava/lang/Class;"⟩ ∈ G0) (he : V t i j = some (eQ (cy 6) N f)) (hframes : 1 ≤ R.frames) (hlocals : (rest.map fun v => v.category).sum + 14 ≤ R.locals) (hdg : decode cc pc = .ok (.invokevirtual index, 3))
    (kk : W p l e R s m args below meth c H locs cells slots Q (F0 m (pc + 3) ls (.ref (sa 1000) :: rest))) : W p l e R s m args below meth c H locs cells slots Q (F0 m pc ls (.ref (ad t i j) :: rest)) :=
  va_getC (C := "[Ljava/lang/Object;") hC.x hC.b (hC.l.trans hsz.symm) hC.o (hC.t _ hlink) (va_Dc.use hC.k.2.2.2.2.2.2.2.2.2) (hC.t _ sl__Ljava_lang_Object__java_lang_Object_getClass) (hC.t _ im_java_lang_Object_getClass) (hC.t _ nt_getC) hC.k.2.2.2.2.2.2.2.2.1 ⟨vp_cell (cy 6) (N, .inr (.inr (.inr (.inr f)))), hG.at he, rfl, va_nmO (hC.K.2 6 _ rfl).2 rfl⟩ hframes hlocals hdg kk
theorem g_ldcM (hC : Cx p m c cc nL s args own D cy sa de B) {index : Nat} (hlink : Cond.classLink own index "[Ljava/lang/Object;" ∈ G0) (hdg : decode cc pc = .ok (.ldc index, 2))
    (kk : W p l e R s m args below meth c H locs cells slots Q (F0 m (pc + 2) ls (.ref (sa 1000) :: rest))) : W p l e R s m args below meth c H locs cells slots Q (F0 m pc ls rest) :=
  va_ldcM hC.x hC.b hC.o (hC.t _ hlink) hC.k.2.2.2.2.2.2.2.2.1 hdg kk
theorem g_getE (hC : Cx p m c cc nL s args own D cy sa de B) (hS : va_S (AB B) s.heap H locs) {index : Nat} (hlink : Cond.fieldLink own index "java/util/ArrayList" "DEFAULTCAPACITY_EMPTY_ELEMENTDATA" "[Ljava/lang/Object;" ∈ G0) (hdg : decode cc pc = .ok (.getstatic index, 3))
    (kk : W p l e R s m args below meth c H locs cells slots Q (F0 m (pc + 3) ls (.ref de :: rest))) : W p l e R s m args below meth c H locs cells slots Q (F0 m pc ls rest) :=
  va_gets hC.x hC.b hC.2.2.1.2.2.1 hS hC.o (hC.t _ hlink) (fun _ h => h) hdg kk
theorem g_lenE (hC : Cx p m c cc nL s args own D cy sa de B) (hS : va_S (AB B) s.heap H locs) (hdg : decode cc pc = .ok (.arraylength, 1))
    (kk : W p l e R s m args below meth c H locs cells slots Q (F0 m (pc + 1) ls (.int 0 :: rest))) : W p l e R s m args below meth c H locs cells slots Q (F0 m pc ls (.ref de :: rest)) := by
  obtain ⟨cell, h1, h2, h3, h4, h5, h6, h7⟩ := (hC.f hS).2.2.2
  exact W.alen (n := 0) hC.x hC.b h1 h2 h5 rfl rfl hdg kk
theorem g_deB (hC : Cx p m c cc nL s args own D cy sa de B) : ¬ AB B de := by
  obtain ⟨cell, h1, h2, h3, h4, h5, h6, h7⟩ := hC.2.2.1.2.2.2
  exact h7
end AL2
