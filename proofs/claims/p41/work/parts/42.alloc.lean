/-! NEW CELLS: they get loose roles (t from 16 on). -/
theorem elT_lt (i : Nat) : elT i < 16 := by
  unfold elT
  by_cases h0 : i = 0
  · rw [if_pos h0]; decide
  · rw [if_neg h0]
    by_cases h1 : i = 1
    · rw [if_pos h1]; decide
    · rw [if_neg h1]
      by_cases h2 : i = 2
      · rw [if_pos h2]; decide
      · rw [if_neg h2]; decide
theorem kro_ad {ad ad' : Ad} (h : ∀ t, t < 16 → ad' t = ad t) {x : Int32} : kro ad' x = kro ad x := by unfold kro; rw [h 7 (by decide)]
theorem fData_ad {ad ad' : Ad} (h : ∀ t, t < 16 → ad' t = ad t) {n : Nat → Nat} {i : Nat} : fData ad' n i = fData ad n i := by unfold fData; rw [h (elT i) (elT_lt i)]
theorem fEnt_ad {ad ad' : Ad} (h : ∀ t, t < 16 → ad' t = ad t) {S : St} {i : Nat} : fEnt ad' S i = fEnt ad S i := by unfold fEnt; rw [h 11 (by decide)]
theorem VC_ad {cy : Nat → ClassId} {de : Nat} {ad ad' : Ad} {S : St} {n : Nat → Nat} (h : ∀ t, t < 16 → ad' t = ad t) : ∀ t i j, VC cy de ad' S n t i j = VC cy de ad S n t i j
  | 0, i, j => by simp only [VC, eGames, h 1 (by decide), h 12 (by decide)]
  | 1, i, j => by simp only [VC, eList, h 2 (by decide)]
  | 2, i, j => by simp only [VC, fData_ad h]
  | 3, i, j => by simp only [VC, eAth, h 4 (by decide), kro_ad h]
  | 4, i, j => by simp only [VC, h 5 (by decide)]
  | 5, i, j => rfl
  | 6, i, j => rfl
  | 7, i, j => rfl
  | 8, i, j => by simp only [VC, eEvent, h 9 (by decide), h 10 (by decide)]
  | 9, i, j => rfl
  | 10, i, j => by simp only [VC, fEnt_ad h]
  | 11, i, j => by simp only [VC, eEnt, h 3 (by decide), kro_ad h]
  | 12, i, j => rfl
  | _ + 13, _, _ => rfl
theorem VA_ad {cy : Nat → ClassId} {ad ad' : Ad} {T : St} (h : ∀ t, t < 16 → ad' t = ad t) (f : Nat) : VA cy ad' T f = VA cy ad T f := rfl
theorem Vw_ad {cy : Nat → ClassId} {de : Nat} {ad ad' : Ad} {S : St} {n : Nat → Nat} {T : St} {k : Nat → Nat} {th : Int32} {X : Rl} (h : ∀ t, t < 16 → ad' t = ad t) : Vw cy de ad' S n T k th X = Vw cy de ad S n T k th X := by
  have hM : eModel ad' T k th = eModel ad T k th := rfl
  funext t i j
  unfold Vw
  rw [VC_ad h, VA_ad h, hM]
theorem up3_row {α : Type} {f : Nat → Nat → Nat → α} {a b c x : Nat} {v : α} (h : x ≠ a) : up3 f a b c v x = f x := up3_c h
theorem Vw_loose {cy : Nat → ClassId} {de : Nat} {ad : Ad} {S : St} {n : Nat → Nat} {T : St} {k : Nat → Nat} {th : Int32} {X : Rl} {t i j q : Nat} {e : Option va_E} (ht : 16 ≤ t) : up3 (Vw cy de ad S n T k th X) t i j e = Vw cy de (up3 ad t i j q) S n T k th (up3 X t i j e) := by
  rw [Vw_ad (fun x hx => up3_c (by omega))]
  funext a b c
  by_cases h : a = t ∧ b = i ∧ c = j
  · obtain ⟨rfl, rfl, rfl⟩ := h
    rw [up3_self, V_X ht, up3_self]
  · rw [up3_ne h]
    by_cases ha : a < 16
    · have e1 : up3 X t i j e a = X a := up3_c (by omega)
      unfold Vw
      rw [e1]
    · rw [V_X (by omega), V_X (by omega), up3_ne h]
/-- the roles get other names -/
theorem GW.ren {D : va_G} {B : Nat} {ad ad' : Ad} {V V' : Rl} {H : Heap} (h : GW D B ad V H) (ρ : Nat → Nat → Nat → Nat × Nat × Nat) (h1 : ∀ t i j e, V' t i j = some e → V (ρ t i j).1 (ρ t i j).2.1 (ρ t i j).2.2 = some e ∧ ad' t i j = ad (ρ t i j).1 (ρ t i j).2.1 (ρ t i j).2.2)
    (h2 : ∀ t i j e t' i' j' e', V' t i j = some e → V' t' i' j' = some e' → ρ t i j = ρ t' i' j' → t = t' ∧ i = i' ∧ j = j') : GW D B ad' V' H := by
  refine ⟨fun t i j e he => ?_, fun t i j e t' i' j' e' he he' ha => ?_⟩
  · obtain ⟨g1, g2⟩ := h1 t i j e he
    rw [g2]
    exact ⟨h.at g1, h.ge g1⟩
  · obtain ⟨g1, g2⟩ := h1 t i j e he
    obtain ⟨g1', g2'⟩ := h1 t' i' j' e' he'
    rw [g2, g2'] at ha
    obtain ⟨a, b, c⟩ := h.inj g1 g1' ha
    exact h2 t i j e t' i' j' e' he he' (Prod.ext a (Prod.ext b c))
section AL
variable {p : Program} {l : Launch} {e : Env} {R : Room} {s : State} {m : MethodId} {args : Array Value} {below : List Frame} {meth : Method} {c : Code} {H : Heap} {locs : List Loc} {cells slots : Nat} {Q : State → Prop}
variable {cc : ByteArray} {pc nL : Nat} {ls : Array Slot} {rest : List Value} {own : String} {D : va_G} {cy : Nat → ClassId} {sa : Nat → Nat} {de B : Nat} {ad : Ad} {V : Rl}
theorem g_new (hC : Cx p m c cc nL s args own D cy sa de B) (hG : GW D B ad V H) (hS : va_S (AB B) s.heap H locs) {ci : Nat} {C : String} {T : u_T} {N index : Nat} (hus : ∀ w ∈ u_ws C T N, w ∈ G0) {ty : Nat → FieldType} (hty : ∀ k, k < N → parseFieldDescriptor (T k).2.2.1 = some (ty k)) (wcl : Cond.classLink own index C ∈ G0) (wins : Cond.instantiable C N ∈ G0) (wini : Cond.initialized C ∈ G0) (hc : vwCl[ci]? = some (C, T, N)) {fs : List Value} (hfs : ∀ j, j < N → defaultValue (ty j) = vp_V fs j) (hcells : cells + 1 ≤ R.cells) (hslots : slots + N ≤ R.slots) (t i j : Nat) (hn : V t i j = none) (hdg : decode cc pc = .ok (.new index, 3))
    (kk : ∀ (q : Nat) (H1 : Heap), GW D B (up3 ad t i j q) (up3 V t i j (some (.inr (ci, fs)))) H1 → va_S (AB B) s.heap H1 locs → W p l e R s m args below meth c H1 locs (cells + 1) (slots + N) Q (F0 m (pc + 3) ls (.ref q :: rest))) : W p l e R s m args below meth c H locs cells slots Q (F0 m pc ls rest) := by
  have hKn := hC.K.1 ci _ hc
  refine W.newcK hC.x hC.b hC.o (hC.t _ wcl) (hC.t _ wins) (hC.t _ wini) rfl hdg hcells hslots hKn.2.1 rfl fun H1 kC hkC e1 z1 o1 => ?_
  exact kk H.size H1 (hG.new hn (Nat.le_refl _) (Nat.le_trans hC.2.2.2 hS.1) ⟨_, hc, (u_born ty hC.t hus hKn hkC e1 hty).to hfs⟩ o1) ⟨Nat.le_trans hS.1 (by omega), fun x h1 h2 => (o1 x (Nat.lt_of_lt_of_le h1 hS.1)).trans (hS.2.1 x h1 h2), hS.2.2⟩
theorem g_newa (hC : Cx p m c cc nL s args own D cy sa de B) (hG : GW D B ad V H) (hS : va_S (AB B) s.heap H locs) {atype : ArrayType} {ty : FieldType} (hty : newarray.typeOf atype = ty) {cA : ClassId} (hnm : s.vm.findClass ("[" ++ ty.toString) = some cA) (warr : Cond.arrayClass ty ∈ G0) {n : Int32} {N : Nat} {a0 : vp_A} (ha : vp_cell cA a0 = arrV cA N (fun _ => defaultValue ty)) (hn : ¬ n < 0) (hN : n.toNatClampNeg = N) (hbytes : N * componentBytes ty ≤ 536870912) (hcells : cells + 1 ≤ R.cells) (hslots : slots + N ≤ R.slots) (t i j : Nat) (hz : V t i j = none) (hdg : decode cc pc = .ok (.newarray atype, 2))
    (kk : ∀ (q : Nat) (H1 : Heap), GW D B (up3 ad t i j q) (up3 V t i j (some (.inl (cA, a0)))) H1 → va_S (AB B) s.heap H1 locs → W p l e R s m args below meth c H1 locs (cells + 1) (slots + N) Q (F0 m (pc + 2) ls (.ref q :: rest))) : W p l e R s m args below meth c H locs cells slots Q (F0 m pc ls (.int n :: rest)) := by
  subst hty
  refine va_newaK hC.x hC.b (hC.t _ warr) rfl hdg rfl hn hN hbytes hcells hslots rfl fun H1 cA1 e1 z1 o1 hAr hNm => ?_
  have hcA : cA1 = cA := Option.some.inj (hNm.symm.trans hnm)
  subst hcA
  refine kk H.size H1 (hG.new hz (Nat.le_refl _) (Nat.le_trans hC.2.2.2 hS.1) ?_ o1) ⟨Nat.le_trans hS.1 (by omega), fun x h1 h2 => (o1 x (Nat.lt_of_lt_of_le h1 hS.1)).trans (hS.2.1 x h1 h2), hS.2.2⟩
  show H1[H.size]? = some (vp_cell _ _)
  rw [ha]
  exact e1
end AL
