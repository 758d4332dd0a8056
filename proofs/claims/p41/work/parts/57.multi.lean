/-! 'multianewarray' of two dimensions: the row of rows, then its rows one by one. -/
def mo_o (cA : ClassId) (N h i : Nat) : Cell := arrV cA N (fun j => va_rf (if j < i then some (h + 1 + j) else none))
theorem mo_o0 {cA : ClassId} {N h : Nat} : mo_o cA N h 0 = arrV cA N (fun _ => .null) := congrArg (arrV cA N) (funext fun j => by rw [if_neg (Nat.not_lt_zero j)]; rfl)
theorem mo_os {cA : ClassId} {N h i : Nat} : (mo_o cA N h i).setSlot i (.ref (h + 1 + i)) = mo_o cA N h (i + 1) := by
  unfold mo_o
  rw [arrV_store]
  refine congrArg (arrV cA N) (funext fun j => ?_)
  unfold updV
  by_cases hj : j = i
  · subst hj
    rw [if_pos rfl, if_pos (Nat.lt_succ_self j)]; rfl
  · rw [if_neg hj]
    dsimp only
    by_cases h2 : j < i
    · rw [if_pos h2, if_pos (by omega)]
    · rw [if_neg h2, if_neg (by omega)]
def mo_S (U : State) (cA cI : ClassId) (N M : Nat) (dv : Value) : Nat → State
  | 0 => U.pushCell (arrV cA N (fun _ => .null))
  | i + 1 => ((mo_S U cA cI N M dv i).pushCell (arrV cI M (fun _ => dv))).setCell U.heap.size (mo_o cA N U.heap.size (i + 1))
theorem mo_f (U : State) (cA cI : ClassId) (N M : Nat) (dv : Value) : ∀ i, (mo_S U cA cI N M dv i).heap.size = U.heap.size + 1 + i ∧ (mo_S U cA cI N M dv i).heap[U.heap.size]? = some (mo_o cA N U.heap.size i) ∧ (mo_S U cA cI N M dv i).vm = U.vm ∧ (mo_S U cA cI N M dv i).slotsUsed = U.slotsUsed + N + i * M
  | 0 => by
    have e : (arrV cA N (fun _ => (.null : Value))).slots.size = N := arrV_size _ _ _
    refine ⟨by simp [mo_S], by simp [mo_S, mo_o0], rfl, by simp [mo_S, e]⟩
  | i + 1 => by
    obtain ⟨a, b, d, u⟩ := mo_f U cA cI N M dv i
    have e : (arrV cI M (fun _ => dv)).slots.size = M := arrV_size _ _ _
    have hlt : U.heap.size < (mo_S U cA cI N M dv i).heap.size := by omega
    have hb : ((mo_S U cA cI N M dv i).pushCell (arrV cI M (fun _ => dv))).heap[U.heap.size]? = some (mo_o cA N U.heap.size i) := by rw [State.heap_pushCell_of_lt (h := hlt)]; exact b
    refine ⟨?_, State.heap_setCell_self hb, by simp [mo_S, d], ?_⟩
    · simp [mo_S, State.setCell, a]; omega
    · simp [mo_S, u, e, Nat.succ_mul]; omega
theorem mo_old (U : State) (cA cI : ClassId) (N M : Nat) (dv : Value) {a : Addr} (ha : a < U.heap.size) : ∀ i, (mo_S U cA cI N M dv i).heap[a]? = U.heap[a]?
  | 0 => State.heap_pushCell_of_lt _ _ ha
  | i + 1 => by
    have hlt : a < (mo_S U cA cI N M dv i).heap.size := Nat.lt_of_lt_of_le ha (by rw [(mo_f U cA cI N M dv i).1]; omega)
    show (((mo_S U cA cI N M dv i).pushCell (arrV cI M (fun _ => dv))).setCell U.heap.size _).heap[a]? = _
    rw [State.heap_setCell_other (Nat.ne_of_gt ha), State.heap_pushCell_of_lt (h := hlt)]
    exact mo_old U cA cI N M dv ha i
theorem mo_in (U : State) (cA cI : ClassId) (N M : Nat) (dv : Value) : ∀ i j, j < i → (mo_S U cA cI N M dv i).heap[U.heap.size + 1 + j]? = some (arrV cI M (fun _ => dv))
  | 0, _, h => absurd h (Nat.not_lt_zero _)
  | i + 1, j, h => by
    have f1 := (mo_f U cA cI N M dv i).1
    show (((mo_S U cA cI N M dv i).pushCell (arrV cI M (fun _ => dv))).setCell U.heap.size _).heap[U.heap.size + 1 + j]? = _
    rw [State.heap_setCell_other (show U.heap.size ≠ U.heap.size + 1 + j by omega)]
    by_cases hj : j < i
    · have hlt : U.heap.size + 1 + j < (mo_S U cA cI N M dv i).heap.size := by rw [f1]; omega
      rw [State.heap_pushCell_of_lt (h := hlt)]
      exact mo_in U cA cI N M dv i j hj
    · have hji : j = i := by omega
      subst hji
      rw [← f1]
      exact State.heap_pushCell_size _ _
theorem mo_top (U : State) (g : JFrame) (cA cI : ClassId) (N M : Nat) (dv : Value) : ∀ i, mo_S (U.setTop g) cA cI N M dv i = (mo_S U cA cI N M dv i).setTop g
  | 0 => rfl
  | i + 1 => by simp only [mo_S, mo_top U g cA cI N M dv i, State.heap_setTop, State.pushCell_setTop, State.setCell_setTop]
section MOW
variable {E : CtlPost} {e : Env} {d : Bool} {acts : List Action} {s : State}
theorem mo_fits {t : FieldType} (h : t.isReference = true) {v : Value} (hv : v = .null ∨ ∃ a, v = .ref a) : fits t v = true := by
  rcases hv with rfl | ⟨a, rfl⟩ <;> cases t <;> simp [FieldType.isReference] at h <;> rfl
theorem mo_make1 {cI cc : ClassId} {kI : Class} {ty : FieldType} {m : Int32} (hk : s.vm.classes[cI]? = some kI) (hkind : kI.kind = .array cc ty) (hm : ¬ m < 0) (hl : ¬ m.toNatClampNeg > e.platform.arrayLengthLimit) (hh : ¬ m.toNatClampNeg * componentBytes ty > e.platform.maxHeapBytes) (hdf : fits ty (defaultValue ty) = true) (h1 : s.heap.size < e.platform.maxCells) (h2 : s.slotsUsed + m.toNatClampNeg ≤ e.platform.maxSlots)
    {Q : Addr → Pre} (hq : ∀ acts', Q s.heap.size d acts' (s.pushCell (arrV cI m.toNatClampNeg (fun _ => defaultValue ty)))) : wp (multianewarray.make cI [m]) Q E e d acts s := by
  rw [multianewarray.make]
  simp only [wp_bind', W.ite, hm, if_false, wp_pure', W.theClass, hk, hkind, Option.some.injEq, exists_eq_left']
  refine W.newArray_of hk hkind hl hh h1 h2 hdf (fun acts' => ?_)
  rw [arrV_new]
  exact hq acts'
theorem mo_make2 {cA cI cc : ClassId} {kA kI : Class} {t0 ty : FieldType} {n m : Int32} (hk : s.vm.classes[cA]? = some kA) (hkind : kA.kind = .array cI t0) (href : t0.isReference = true) (hkI : s.vm.classes[cI]? = some kI) (hkindI : kI.kind = .array cc ty) (hn : ¬ n < 0) (hm : ¬ m < 0)
    (hl1 : ¬ n.toNatClampNeg > e.platform.arrayLengthLimit) (hh1 : ¬ n.toNatClampNeg * componentBytes t0 > e.platform.maxHeapBytes) (hl2 : ¬ m.toNatClampNeg > e.platform.arrayLengthLimit) (hh2 : ¬ m.toNatClampNeg * componentBytes ty > e.platform.maxHeapBytes) (hdf : fits ty (defaultValue ty) = true)
    (hc : s.heap.size + 1 + n.toNatClampNeg ≤ e.platform.maxCells) (hs : s.slotsUsed + n.toNatClampNeg + n.toNatClampNeg * m.toNatClampNeg ≤ e.platform.maxSlots)
    {Q : Addr → Pre} (hq : ∀ d' acts', Q s.heap.size d' acts' (mo_S s cA cI n.toNatClampNeg m.toNatClampNeg (defaultValue ty) n.toNatClampNeg)) : wp (multianewarray.make cA [n, m]) Q E e d acts s := by
  have hfind : ([m].find? (· < 0)) = none := by simp [hm]
  rw [multianewarray.make]
  simp only [wp_bind', W.ite, hn, if_false, wp_pure', W.theClass, hk, hkind, Option.some.injEq, exists_eq_left']
  refine W.newArray_of hk hkind hl1 hh1 (by omega) (by have := Nat.zero_le (n.toNatClampNeg * m.toNatClampNeg); omega) (mo_fits href (Or.inl rfl)) (fun acts0 => ?_)
  simp only [hfind]
  rw [arrV_new, ite_self, wp_bind', Std.Legacy.Range.forIn_eq_forIn_range']
  have hsz : ([:n.toNatClampNeg] : Std.Legacy.Range).size = n.toNatClampNeg := by simp [Std.Legacy.Range.size]
  rw [hsz]
  show wp (forIn (List.range' 0 n.toNatClampNeg 1) PUnit.unit _) _ E e d acts0 _
  refine wp_forIn_inv (fun left u => ∃ i, i ≤ n.toNatClampNeg ∧ left = List.range' i (n.toNatClampNeg - i) ∧ u = mo_S s cA cI n.toNatClampNeg m.toNatClampNeg (defaultValue ty) i) _ _ ⟨0, Nat.zero_le _, rfl, rfl⟩ ?_ ?_
  · rintro x left u d' acts' Q' ⟨i, hi, hl, rfl⟩ hnext
    have hlt : i < n.toNatClampNeg := by
      by_cases h : i < n.toNatClampNeg
      · exact h
      · rw [show n.toNatClampNeg - i = 0 from by omega] at hl
        simp at hl
    rw [show n.toNatClampNeg - i = (n.toNatClampNeg - (i + 1)) + 1 from by omega, List.range'_succ] at hl
    obtain ⟨rfl, hleft⟩ : x = i ∧ left = List.range' (i + 1) (n.toNatClampNeg - (i + 1)) := ⟨(List.cons.inj hl).1, (List.cons.inj hl).2⟩
    obtain ⟨f1, f2, f3, f4⟩ := mo_f s cA cI n.toNatClampNeg m.toNatClampNeg (defaultValue ty) x
    have hmul : x * m.toNatClampNeg + m.toNatClampNeg ≤ n.toNatClampNeg * m.toNatClampNeg := by
      have := Nat.mul_le_mul_right m.toNatClampNeg (show x + 1 ≤ n.toNatClampNeg from hlt)
      rw [Nat.succ_mul] at this; exact this
    simp only [wp_bind']
    refine mo_make1 (by rw [f3]; exact hkI) hkindI hm hl2 hh2 hdf (by rw [f1]; omega) (by rw [f4]; omega) (fun acts1 => ?_)
    have hlt0 : s.heap.size < (mo_S s cA cI n.toNatClampNeg m.toNatClampNeg (defaultValue ty) x).heap.size := by rw [f1]; omega
    simp only [wp_bind', W.writeLoc, wp_pure']
    refine ⟨mo_o cA n.toNatClampNeg s.heap.size x, by rw [State.heap_pushCell_of_lt (h := hlt0)]; exact f2, (fun q => by cases q), by show x < (arrV _ _ _).slots.size; rw [arrV_size]; exact hlt, ?_, hnext _ _ _ ⟨x + 1, hlt, hleft, ?_⟩⟩
    · show State.fitsSlot _ cA .none x (.ref _) = true
      simp [State.fitsSlot, State.slotType?, f3, hk, hkind, mo_fits href (Or.inr ⟨_, rfl⟩)]
    · rw [f1, mo_os]; rfl
  · rintro u d' acts' ⟨i, hi, hl, rfl⟩
    have hiN : i = n.toNatClampNeg := by
      by_cases h : i < n.toNatClampNeg
      · rw [show n.toNatClampNeg - i = (n.toNatClampNeg - (i + 1)) + 1 from by omega, List.range'_succ] at hl; cases hl
      · omega
    subst hiN
    simp only [wp_pure']
    exact hq _ _
end MOW
section MOX
variable {p : Program} {l : Launch} {e : Env} {R : Room} {s : State} {m : MethodId} {args : Array Value} {below : List Frame} {meth : Method} {c : Code} {T : State} {H : Heap} {locs : List Loc} {cells slots : Nat} {Q : State → Prop}
theorem mo_X (X : Stand p l e R s m args below meth c T locs cells slots) (cA cI : ClassId) (N M : Nat) (dv : Value) : ∀ i, Stand p l e R s m args below meth c (mo_S T cA cI N M dv i) locs (cells + 1 + i) (slots + N + i * M)
  | 0 => by
    have h := X.pushed (arrV cA N (fun _ => .null))
    rw [arrV_size] at h
    rw [Nat.zero_mul]
    exact h
  | i + 1 => by
    have Xi := mo_X X cA cI N M dv i
    obtain ⟨f1, f2, -, -⟩ := mo_f T cA cI N M dv i
    have hlt0 : T.heap.size < (mo_S T cA cI N M dv i).heap.size := by rw [f1]; omega
    have hcell : ((mo_S T cA cI N M dv i).pushCell (arrV cI M (fun _ => dv))).heap[T.heap.size]? = some (mo_o cA N T.heap.size i) := by rw [State.heap_pushCell_of_lt (h := hlt0)]; exact f2
    have h := (Xi.pushed (arrV cI M (fun _ => dv))).stored hcell i (.ref (T.heap.size + 1 + i))
    rw [arrV_size, mo_os] at h
    have h2 := Stand.forget h (fun y hy => by
      rw [List.mem_singleton.mp hy]
      exact X.same.2.1)
    rw [show slots + N + (i + 1) * M = slots + N + i * M + M by rw [Nat.succ_mul]; omega]
    exact h2
theorem W.mnew2 (hexec : p.tables.exec = Jvm.exec) {cc : ByteArray} (hb : c.code = cc) {own : String} {index : Nat} {ty : FieldType} (hown : s.vm.findClass own = some m.cls) (hclink : (Cond.classLink own index ("[" ++ (FieldType.array ty).toString)).before args s = true) (hover : (Cond.arrayOver (.array ty)).before args s = true) (harr : (Cond.arrayClass ty).before args s = true)
    {g : JFrame} (hg : g.method = m) (hdg : decode cc g.pc = .ok (.multianewarray index 2, 4)) {n k : Int32} {rest : List Value} (hstack : g.stack = .int k :: .int n :: rest) (hn : ¬ n < 0) (hk : ¬ k < 0) {N K : Nat} (hN : n.toNatClampNeg = N) (hK : k.toNatClampNeg = K) (hb1 : N * 4 ≤ 536870912) (hb2 : K * componentBytes ty ≤ 536870912) (hb3 : K ≤ 536870912) (hdf : fits ty (defaultValue ty) = true)
    (hcells : cells + (1 + N) ≤ R.cells) (hslots : slots + (N + N * K) ≤ R.slots)
    (kk : ∀ (cA cI : ClassId) (H1 : Heap), s.vm.findClass ("[" ++ (FieldType.array ty).toString) = some cA → s.vm.findClass (FieldType.array ty).toString = some cI → H1.size = H.size + 1 + N → H1[H.size]? = some (mo_o cA N H.size N) → (∀ j, j < N → H1[H.size + 1 + j]? = some (arrV cI K (fun _ => defaultValue ty))) → (∀ q, q < H.size → H1[q]? = H[q]?) →
      W p l e R s m args below meth c H1 locs (cells + 1 + N) (slots + N + N * K) Q { g with pc := g.pc + 4, stack := .ref H.size :: rest }) : W p l e R s m args below meth c H locs cells slots Q g := by
  subst hN; subst hK; subst hb
  intro T hT X
  subst hT
  subst hg
  have hpl : e.platform.magicAccessors = ({} : Platform).magicAccessors := by rw [X.admits.platform]
  obtain ⟨cI, cA, kA, hcI, -, hkA, hkindA, hnameA⟩ := arrayOverA_spec hover
  obtain ⟨cI', kI, cc, hcI', hkI, hkindI⟩ := Cond.arrayClass_spec harr
  obtain rfl : cI' = cI := Option.some.inj (hcI'.symm.trans hcI)
  obtain ⟨c0, hfc0, hcl⟩ := Cond.classLink_spec hown hclink e.platform hpl
  obtain rfl : cA = c0 := Option.some.inj (hnameA.symm.trans hfc0)
  obtain ⟨hg₁, hwarm₁, hready₁⟩ := State.classEntry (e := e) X.warmed hcl
  generalize T.vm.noted g.method.cls index (.cls cA) = vm₁ at hg₁ hwarm₁ hready₁
  have hal : s.vm.Alike vm₁ := hwarm₁.alike
  obtain ⟨kA₁, hkA₁, heA⟩ := hal.2.2 _ _ hkA
  obtain ⟨kI₁, hkI₁, heI⟩ := hal.2.2 _ _ hkI
  have hkindA₁ : kA₁.kind = .array cI' (.array ty) := by rw [heA]; exact hkindA
  have hkindI₁ : kI₁.kind = .array cc ty := by rw [heI]; exact hkindI
  have X₁ := X.noted hwarm₁
  obtain ⟨hr1, hr2⟩ := X.roomAbove hcells hslots
  have XF := mo_X X₁ cA cI' n.toNatClampNeg k.toNatClampNeg (defaultValue ty) n.toNatClampNeg
  obtain ⟨f1, f2, -, -⟩ := mo_f (T.setVm vm₁) cA cI' n.toNatClampNeg k.toNatClampNeg (defaultValue ty) n.toNatClampNeg
  obtain ⟨t, a1, b1⟩ := kk cA cI' (mo_S (T.setVm vm₁) cA cI' n.toNatClampNeg k.toNatClampNeg (defaultValue ty) n.toNatClampNeg).heap hnameA hcI f1 f2 (fun j hj => mo_in (T.setVm vm₁) cA cI' _ _ _ _ j hj) (fun q hq => mo_old (T.setVm vm₁) cA cI' _ _ _ hq _) _ rfl XF
  refine ⟨t, ?_, b1⟩
  have hl1 : ¬ n.toNatClampNeg > e.platform.arrayLengthLimit := by rw [Launch.admits_arrayLengthLimit X.admits]; omega
  have hh1 : ¬ n.toNatClampNeg * componentBytes (.array ty) > e.platform.maxHeapBytes := by
    rw [Launch.admits_maxHeapBytes X.admits]; show ¬ n.toNatClampNeg * 4 > 536870912; omega
  have hl2 : ¬ k.toNatClampNeg > e.platform.arrayLengthLimit := by rw [Launch.admits_arrayLengthLimit X.admits]; omega
  have hh2 : ¬ k.toNatClampNeg * componentBytes ty > e.platform.maxHeapBytes := by rw [Launch.admits_maxHeapBytes X.admits]; omega
  jvm_step X.here [hexec, hdg]
  simp only [multianewarray.sem, wp_bind', W.resolveClassAt_links (State.method?_setTop g X.here.top) hg₁]
  rw [W.popN, if_neg (by decide)]
  refine ⟨g, State.topJava?_setTop' (s := T.setVm vm₁) g X.here.top, [.int n, .int k], rest, rfl, hstack, ?_⟩
  simp only [List.mapM_cons, List.mapM_nil, wp_bind', wp_pure']
  refine mo_make2 (kA := kA₁) (kI := kI₁) (cI := cI') (cc := cc) (t0 := .array ty) (ty := ty) hkA₁ hkindA₁ rfl hkI₁ hkindI₁ hn hk hl1 hh1 hl2 hh2 hdf (by show T.heap.size + 1 + _ ≤ _; omega) (by show T.slotsUsed + _ + _ ≤ _; omega) (fun d' acts' => ?_)
  have eS : ((T.setTop g).setVm vm₁).setTop { g with stack := rest } = (T.setVm vm₁).setTop { g with stack := rest } := by
    show ((T.setVm vm₁).setTop g).setTop _ = _
    rw [State.setTop_setTop]
  rw [eS, mo_top]
  simp only [wp_bind', W.mark, W.pushRef, State.topJava?_setTop' _ XF.here.top, Option.some.injEq, exists_eq_left', State.setTop_setTop, State.heap_setTop]
  intro acts
  simp [jvm, XF.here.top]
  exact a1
end MOX
