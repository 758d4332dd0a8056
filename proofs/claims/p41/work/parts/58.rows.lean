/-! ROWS OF ROWS of the law: int[3][5] takes the roles (20, j, 0) and (21, j, ..). -/
def va_AR (ty : FieldType) (U : State) : Prop := (Cond.arrayOver (.array ty)).before #[] U = true
theorem va_AR.of {ty : FieldType} {A : Array Value} {U : State} (h : (Cond.arrayOver (.array ty)).before A U = true) : va_AR ty U := h
theorem va_AR.use {ty : FieldType} {A : Array Value} {U : State} (h : va_AR ty U) : (Cond.arrayOver (.array ty)).before A U = true := h
theorem va_AR.moved {ty : FieldType} {u U : State} (hvm : u.vm.Alike U.vm) (h : va_AR ty u) : va_AR ty U := by
  obtain ⟨comp, c, k, h1, h2, h3, h4, h5⟩ := arrayOverA_spec h
  obtain ⟨k', hk', he⟩ := hvm.2.2 _ _ h3
  have hi := (hvm.findIdx?_eq _ (fun _ => rfl)).trans h2
  have hkind : k'.kind = .array comp (.array ty) := by rw [he]; exact h4
  have f1 : U.vm.findClass (FieldType.array ty).toString = some comp := by rw [hvm.findClass]; exact h1
  have f2 : U.vm.findClass ("[" ++ (FieldType.array ty).toString) = some c := by rw [hvm.findClass]; exact h5
  unfold va_AR Cond.before Cond.holds
  simp only [Cond.value]
  rw [f1, Option.bind_some]
  refine (congrArg (fun o : Option Nat => (o.bind (fun c => (U.vm.classes[c]?).map fun (k : Class) => match k.kind with | .array _ t => decide (t = FieldType.array ty) && decide (U.vm.findClass ("[" ++ (FieldType.array ty).toString) = some c) | _ => false) == some true)) hi).trans ?_
  simp [hk', hkind, f2]
/-- a row of rows, with its rows, takes the roles (20, j, 0) and (21, j, ..) -/
def adR (ad : Ad) (j h : Nat) : Ad := fun t i c => if t = 20 ∧ i = j ∧ c = 0 then h else if t = 21 ∧ i = j then h + 1 + c else ad t i c
def VR (V : Rl) (j N : Nat) (e r : va_E) : Rl := fun t i c => if t = 20 ∧ i = j ∧ c = 0 then some e else if t = 21 ∧ i = j ∧ c < N then some r else V t i c
theorem GW.rows {D : va_G} {B : Nat} {ad : Ad} {V : Rl} {H H1 : Heap} {j N : Nat} {e r : va_E} (h : GW D B ad V H) (hB : B ≤ H.size) (h20 : V 20 j 0 = none) (h21 : ∀ x, V 21 j x = none) (he : va_at D vwCl (H.size, e) H1) (hr : ∀ c, c < N → va_at D vwCl (H.size + 1 + c, r) H1) (ho : ∀ q, q < H.size → H1[q]? = H[q]?) : GW D B (adR ad j H.size) (VR V j N e r) H1 := by
  have key : ∀ (t i c : Nat) (x : va_E), VR V j N e r t i c = some x → (t = 20 ∧ i = j ∧ c = 0 ∧ x = e ∧ adR ad j H.size t i c = H.size) ∨ (t = 21 ∧ i = j ∧ c < N ∧ x = r ∧ adR ad j H.size t i c = H.size + 1 + c) ∨ (V t i c = some x ∧ adR ad j H.size t i c = ad t i c ∧ ad t i c < H.size) := by
    intro t i c x hx
    unfold VR at hx
    unfold adR
    by_cases z1 : t = 20 ∧ i = j ∧ c = 0
    · rw [if_pos z1] at hx ⊢
      exact Or.inl ⟨z1.1, z1.2.1, z1.2.2, (Option.some.inj hx).symm, rfl⟩
    · rw [if_neg z1] at hx ⊢
      by_cases z2 : t = 21 ∧ i = j ∧ c < N
      · rw [if_pos z2] at hx
        rw [if_pos ⟨z2.1, z2.2.1⟩]
        exact Or.inr (Or.inl ⟨z2.1, z2.2.1, z2.2.2, (Option.some.inj hx).symm, rfl⟩)
      · rw [if_neg z2] at hx
        have z3 : ¬ (t = 21 ∧ i = j) := by
          rintro ⟨rfl, rfl⟩
          rw [h21] at hx; cases hx
        rw [if_neg z3]
        exact Or.inr (Or.inr ⟨hx, rfl, h.lt hx⟩)
  refine ⟨fun t i c x hx => ?_, fun t i c x t' i' c' x' hx hx' ha => ?_⟩
  · rcases key t i c x hx with ⟨-, -, -, rfl, h5⟩ | ⟨-, -, h3, rfl, h5⟩ | ⟨h1, h2, -⟩
    · rw [h5]; exact ⟨he, hB⟩
    · rw [h5]; exact ⟨hr c h3, by omega⟩
    · rw [h2]; exact ⟨(h.at h1).kept (ho _ (h.lt h1)), h.ge h1⟩
  · rcases key t i c x hx with ⟨a1, a2, a3, -, a5⟩ | ⟨a1, a2, a3, -, a5⟩ | ⟨a1, a2, a3⟩ <;> rcases key t' i' c' x' hx' with ⟨b1, b2, b3, -, b5⟩ | ⟨b1, b2, b3, -, b5⟩ | ⟨b1, b2, b3⟩
    · exact ⟨a1.trans b1.symm, a2.trans b2.symm, a3.trans b3.symm⟩
    · rw [a5, b5] at ha; omega
    · rw [a5, b2] at ha; omega
    · rw [a5, b5] at ha; omega
    · rw [a5, b5] at ha; exact ⟨a1.trans b1.symm, a2.trans b2.symm, by omega⟩
    · rw [a5, b2] at ha; omega
    · rw [a2, b5] at ha; omega
    · rw [a2, b5] at ha; omega
    · rw [a2, b2] at ha; exact h.inj a1 b1 ha
section MM2
variable {p : Program} {l : Launch} {e : Env} {R : Room} {s : State} {m : MethodId} {args : Array Value} {below : List Frame} {meth : Method} {c : Code} {H : Heap} {locs : List Loc} {cells slots : Nat} {Q : State → Prop}
variable {cc : ByteArray} {pc nL : Nat} {ls : Array Slot} {rest : List Value} {own : String} {D : va_G} {cy : Nat → ClassId} {sa : Nat → Nat} {de B : Nat} {ad : Ad} {V : Rl}
/-- int[N][K], both new -/
theorem g_mnew {j : Nat} (hC : Cx p m c cc nL s args own D cy sa de B) (hG : GW D B ad V H) (hS : va_S (AB B) s.heap H locs) {index : Nat} (hcl : Cond.classLink own index ("[" ++ (FieldType.array .int).toString) ∈ G0) (hover : va_AR .int s) (warr : Cond.arrayClass .int ∈ G0) {n k : Int32} {N K : Nat} (hn : ¬ n < 0) (hk : ¬ k < 0) (hN : n.toNatClampNeg = N) (hK : k.toNatClampNeg = K) (hb1 : N * 4 ≤ 536870912) (hb2 : K * componentBytes .int ≤ 536870912) (hb3 : K ≤ 536870912)
    (hcells : cells + (1 + N) ≤ R.cells) (hslots : slots + (N + N * K) ≤ R.slots) (h20 : V 20 j 0 = none) (h21 : ∀ x, V 21 j x = none) (hdg : decode cc pc = .ok (.multianewarray index 2, 4))
    (kk : ∀ (q : Nat) (H1 : Heap), q = adR ad j q 20 j 0 → GW D B (adR ad j q) (VR V j N (eQ (cy 7) N (fun x => some (adR ad j q 21 j x))) (eI (cy 0) K (fun _ => 0))) H1 → va_S (AB B) s.heap H1 locs → W p l e R s m args below meth c H1 locs (cells + 1 + N) (slots + N + N * K) Q (F0 m (pc + 4) ls (.ref q :: rest))) : W p l e R s m args below meth c H locs cells slots Q (F0 m pc ls (.int k :: .int n :: rest)) := by
  refine W.mnew2 (ty := .int) hC.x hC.b hC.o (hC.t _ hcl) (va_AR.use hover) (hC.t _ warr) rfl hdg rfl hn hk hN hK hb1 hb2 hb3 rfl hcells hslots fun cA cI H1 f1 f2 z1 e1 i1 o1 => ?_
  have hRA0 : va_RA s (cy 7) (.array .int) := (hC.K.2 7 _ rfl).2
  have hRA1 : va_RA s (cy 0) .int := (hC.K.2 0 _ rfl).2
  have hcA : cA = cy 7 := Option.some.inj (f1.symm.trans hRA0)
  have hcI : cI = cy 0 := Option.some.inj (f2.symm.trans hRA1)
  have hBH : B ≤ H.size := Nat.le_trans hC.2.2.2 hS.1
  have g1 : va_at D vwCl (H.size, eQ (cy 7) N (fun x => some (adR ad j H.size 21 j x))) H1 := by
    show H1[H.size]? = some (vp_cell _ _)
    rw [vp_cell_q, e1, hcA]
    unfold mo_o
    refine congrArg some (arrV_congr (fun x hx => ?_))
    rw [if_pos hx]
    show va_rf (some (H.size + 1 + x)) = va_rf (some (adR ad j H.size 21 j x))
    unfold adR
    rw [if_neg (by omega), if_pos ⟨rfl, rfl⟩]
  have g3 : ∀ x, x < N → va_at D vwCl (H.size + 1 + x, eI (cy 0) K (fun _ => 0)) H1 := fun x hx => by
    show H1[H.size + 1 + x]? = some (vp_cell _ _)
    rw [vp_cell_i, i1 x hx, hcI]
    rfl
  have hG1 := hG.rows hBH h20 h21 g1 g3 o1
  refine kk H.size H1 ?_ hG1 ⟨Nat.le_trans hS.1 (by omega), fun x h1 h2 => (o1 x (Nat.lt_of_lt_of_le h1 hS.1)).trans (hS.2.1 x h1 h2), hS.2.2⟩
  unfold adR
  rw [if_pos ⟨rfl, rfl, rfl⟩]
end MM2
