/-! THE REFERENCE'S CONSTRUCTOR: its world, array by array. -/
def va_AR (ty : FieldType) (U : State) : Prop := (Cond.arrayOver (.array ty)).before #[] U = true
theorem va_AR.of {ty : FieldType} {A : Array Value} {U : State} (h : (Cond.arrayOver (.array ty)).before A U = true) : va_AR ty U := h
theorem va_AR.use {ty : FieldType} {A : Array Value} {U : State} (h : va_AR ty U) : (Cond.arrayOver (.array ty)).before A U = true := h
theorem va_AR.moved {ty : FieldType} {u U : State} (hvm : u.vm.Alike U.vm) (h : va_AR ty u) : va_AR ty U := by
  obtain ⟨comp, c, k, h1, h2, h3, h4, h5⟩ := arrayOverA_spec h
  obtain ⟨k', hk', he⟩ := hvm.2.2 _ _ h3
  have hi := (hvm.findIdx?_eq _ (fun _ => rfl)).trans h2
  have hkind : k'.kind = .array comp (.array ty) := by rw [he]; exact h4
  have f1 : U.vm.findClass (FieldType.array ty).toString = some comp := by rw [hvm.findClass]; exact h1
  have f2 : U.vm.findClass ("[" ++ (FieldType.array ty).toString) = some c := by rw [hvm.findClass]; exact h5
  unfold va_AR Cond.before Cond.holds
  simp only [Cond.value]
  rw [f1, Option.bind_some]
  refine (congrArg (fun o : Option Nat => (o.bind (fun c => (U.vm.classes[c]?).map fun (k : Class) => match k.kind with | .array _ t => decide (t = FieldType.array ty) && decide (U.vm.findClass ("[" ++ (FieldType.array ty).toString) = some c) | _ => false) == some true)) hi).trans ?_
  simp [hk', hkind, f2]
/-- a row of rows, with its rows, takes the roles (14, j, 0) and (15, j, ..) -/
def adR (ad : Ad) (j h : Nat) : Ad := fun t i c => if t = 14 ∧ i = j ∧ c = 0 then h else if t = 15 ∧ i = j then h + 1 + c else ad t i c
def VR (V : Rl) (j N : Nat) (e r : va_E) : Rl := fun t i c => if t = 14 ∧ i = j ∧ c = 0 then some e else if t = 15 ∧ i = j ∧ c < N then some r else V t i c
theorem GW.rows {D : va_G} {B : Nat} {ad : Ad} {V : Rl} {H H1 : Heap} {j N : Nat} {e r : va_E} (h : GW D B ad V H) (hB : B ≤ H.size) (h14 : V 14 j 0 = none) (h15 : ∀ x, V 15 j x = none) (he : va_at D vwCl (H.size, e) H1) (hr : ∀ c, c < N → va_at D vwCl (H.size + 1 + c, r) H1) (ho : ∀ q, q < H.size → H1[q]? = H[q]?) : GW D B (adR ad j H.size) (VR V j N e r) H1 := by
  have key : ∀ (t i c : Nat) (x : va_E), VR V j N e r t i c = some x → (t = 14 ∧ i = j ∧ c = 0 ∧ x = e ∧ adR ad j H.size t i c = H.size) ∨ (t = 15 ∧ i = j ∧ c < N ∧ x = r ∧ adR ad j H.size t i c = H.size + 1 + c) ∨ (V t i c = some x ∧ adR ad j H.size t i c = ad t i c ∧ ad t i c < H.size) := by
    intro t i c x hx
    unfold VR at hx
    unfold adR
    by_cases z1 : t = 14 ∧ i = j ∧ c = 0
    · rw [if_pos z1] at hx ⊢
      exact Or.inl ⟨z1.1, z1.2.1, z1.2.2, (Option.some.inj hx).symm, rfl⟩
    · rw [if_neg z1] at hx ⊢
      by_cases z2 : t = 15 ∧ i = j ∧ c < N
      · rw [if_pos z2] at hx
        rw [if_pos ⟨z2.1, z2.2.1⟩]
        exact Or.inr (Or.inl ⟨z2.1, z2.2.1, z2.2.2, (Option.some.inj hx).symm, rfl⟩)
      · rw [if_neg z2] at hx
        have z3 : ¬ (t = 15 ∧ i = j) := by
          rintro ⟨rfl, rfl⟩
          rw [h15] at hx; cases hx
        rw [if_neg z3]
        exact Or.inr (Or.inr ⟨hx, rfl, h.lt hx⟩)
  refine ⟨fun t i c x hx => ?_, fun t i c x t' i' c' x' hx hx' ha => ?_⟩
  · rcases key t i c x hx with ⟨-, -, -, rfl, h5⟩ | ⟨-, -, h3, rfl, h5⟩ | ⟨h1, h2, -⟩
    · rw [h5]; exact ⟨he, hB⟩
    · rw [h5]; exact ⟨hr c h3, by omega⟩
    · rw [h2]; exact ⟨(h.at h1).kept (ho _ (h.lt h1)), h.ge h1⟩
  · rcases key t i c x hx with ⟨a1, a2, a3, -, a5⟩ | ⟨a1, a2, a3, -, a5⟩ | ⟨a1, a2, a3⟩ <;> rcases key t' i' c' x' hx' with ⟨b1, b2, b3, -, b5⟩ | ⟨b1, b2, b3, -, b5⟩ | ⟨b1, b2, b3⟩
    · exact ⟨a1.trans b1.symm, a2.trans b2.symm, a3.trans b3.symm⟩
    · rw [a5, b5] at ha; omega
    · rw [a5, b2] at ha; omega
    · rw [a5, b5] at ha; omega
    · rw [a5, b5] at ha; exact ⟨a1.trans b1.symm, a2.trans b2.symm, by omega⟩
    · rw [a5, b2] at ha; omega
    · rw [a2, b5] at ha; omega
    · rw [a2, b5] at ha; omega
    · rw [a2, b2] at ha; exact h.inj a1 b1 ha
/-- the reference as it is made: its money, nothing else -/
def Z0 : St := fun c _ _ => if c = 15 then 1000 else 0
def mF (ad : Ad) (j f : Nat) : Value := cond (Nat.blt f j) (.ref (ad 14 f 0)) .null
def mO (ad : Ad) (j : Nat) : va_E := .inr (8, [mF ad j 0, mF ad j 1, mF ad j 2, mF ad j 3, mF ad j 4, mF ad j 5, mF ad j 6, mF ad j 7, mF ad j 8, mF ad j 9, mF ad j 10, mF ad j 11, mF ad j 12, mF ad j 13, mF ad j 14, mF ad j 15, mF ad j 16, mF ad j 17, mF ad j 18, mF ad j 19, .int 0, .int 0, .int 0, .int 0, .int 0, .int 0])
theorem mO_ad {ad ad2 : Ad} {j : Nat} (h : ∀ f, f < j → ad2 14 f 0 = ad 14 f 0) : mO ad2 j = mO ad j := by
  have e : ∀ f, mF ad2 j f = mF ad j f := fun f => by
    unfold mF
    cases hb : Nat.blt f j with
    | false => rfl
    | true =>
      have hf : f < j := Nat.le_of_ble_eq_true hb
      show Value.ref _ = Value.ref _
      rw [h f hf]
  unfold mO
  rw [e 0, e 1, e 2, e 3, e 4, e 5, e 6, e 7, e 8, e 9, e 10, e 11, e 12, e 13, e 14, e 15, e 16, e 17, e 18, e 19]
def mW (cy : Nat → ClassId) (ad : Ad) (Y : Rl) (o : va_E) (j : Nat) : Rl := fun t i c => if t = 13 ∧ i = 0 ∧ c = 0 then some o else if t = 14 ∧ i < j ∧ c = 0 then VA cy ad Z0 i else if t = 15 ∧ i < j then VB cy Z0 i c else Y t i c
section MW
variable {cy : Nat → ClassId} {ad ad2 : Ad} {Y : Rl} {o o2 : va_E} {j : Nat}
theorem mW_0 : up3 Y 13 0 0 (some o) = mW cy ad Y o 0 := by
  funext t i c
  unfold up3 mW
  by_cases z : t = 13 ∧ i = 0 ∧ c = 0
  · rw [if_pos z, if_pos z]
  · rw [if_neg z, if_neg z, if_neg (by omega), if_neg (by omega)]
theorem mW_13 : mW cy ad Y o j 13 0 0 = some o := rfl
theorem mW_put : up3 (mW cy ad Y o j) 13 0 0 (some o2) = mW cy ad Y o2 j := by
  funext t i c
  unfold up3 mW
  by_cases z : t = 13 ∧ i = 0 ∧ c = 0
  · rw [if_pos z, if_pos z]
  · rw [if_neg z, if_neg z, if_neg z]
theorem mW_14 (h : Y 14 j 0 = none) : mW cy ad Y o j 14 j 0 = none := by
  unfold mW
  rw [if_neg (by omega), if_neg (by omega), if_neg (by omega), h]
theorem mW_15 (h : ∀ x, Y 15 j x = none) (x : Nat) : mW cy ad Y o j 15 j x = none := by
  unfold mW
  rw [if_neg (by omega), if_neg (by omega), if_neg (by omega), h]
theorem VA_15 {T : St} (h : ∀ f, ad2 15 f = ad 15 f) : ∀ f, VA cy ad2 T f = VA cy ad T f
  | 0 => rfl | 1 => by simp only [VA, h] | 2 => by simp only [VA, h] | 3 => by simp only [VA, h] | 4 => rfl | 5 => rfl | 6 => rfl | 7 => rfl | 8 => rfl | 9 => rfl | 10 => by simp only [VA, h] | 11 => rfl | 12 => rfl | 13 => rfl | 14 => by simp only [VA, h] | 15 => rfl | 16 => rfl | 17 => by simp only [VA, h] | 18 => by simp only [VA, h] | 19 => by simp only [VA, h] | _ + 20 => rfl
theorem VA_15f {T : St} : ∀ {f : Nat}, ad2 15 f = ad 15 f → VA cy ad2 T f = VA cy ad T f
  | 0, _ => rfl | 1, h => by simp only [VA, h] | 2, h => by simp only [VA, h] | 3, h => by simp only [VA, h] | 4, _ => rfl | 5, _ => rfl | 6, _ => rfl | 7, _ => rfl | 8, _ => rfl | 9, _ => rfl | 10, h => by simp only [VA, h] | 11, _ => rfl | 12, _ => rfl | 13, _ => rfl | 14, h => by simp only [VA, h] | 15, _ => rfl | 16, _ => rfl | 17, h => by simp only [VA, h] | 18, h => by simp only [VA, h] | 19, h => by simp only [VA, h] | _ + 20, _ => rfl
/-- one more array -/
theorem mW_new {q : Nat} {e : va_E} (hA : VA cy ad Z0 j = some e) (hB : ∀ x, VB cy Z0 j x = none) (hY : ∀ x, Y 15 j x = none) : up3 (mW cy ad Y o j) 14 j 0 (some e) = mW cy (up3 ad 14 j 0 q) Y o (j + 1) := by
  funext t i c
  have hVA : ∀ f, VA cy (up3 ad 14 j 0 q) Z0 f = VA cy ad Z0 f := VA_15 (fun f => by rw [up3_c (by decide)])
  unfold up3 mW
  by_cases z : t = 14 ∧ i = j ∧ c = 0
  · obtain ⟨rfl, rfl, rfl⟩ := z
    rw [if_pos ⟨rfl, rfl, rfl⟩, if_neg (by omega), if_pos ⟨rfl, by omega, rfl⟩]
    exact ((hVA i).trans hA).symm
  · rw [if_neg z]
    by_cases z1 : t = 13 ∧ i = 0 ∧ c = 0
    · rw [if_pos z1, if_pos z1]
    · rw [if_neg z1, if_neg z1]
      by_cases z2 : t = 14 ∧ i < j ∧ c = 0
      · rw [if_pos z2, if_pos (by omega)]
        exact (hVA i).symm
      · rw [if_neg z2, if_neg (show ¬ (t = 14 ∧ i < j + 1 ∧ c = 0) by omega)]
        by_cases z3 : t = 15 ∧ i < j
        · rw [if_pos z3, if_pos (by omega)]
        · rw [if_neg z3]
          by_cases z4 : t = 15 ∧ i < j + 1
          · rw [if_pos z4]
            have hij : i = j := by omega
            rw [z4.1, hij, hB, hY]
          · rw [if_neg z4]
/-- one more row of rows -/
theorem mW_rows {N h : Nat} {e r : va_E} (hA : VA cy (adR ad j h) Z0 j = some e) (hB : ∀ x, VB cy Z0 j x = if x < N then some r else none) (hY : ∀ x, Y 15 j x = none) : VR (mW cy ad Y o j) j N e r = mW cy (adR ad j h) Y o (j + 1) := by
  funext t i c
  have hVA : ∀ f, f < j → VA cy (adR ad j h) Z0 f = VA cy ad Z0 f := fun f hf => VA_15f (funext fun c => by unfold adR; rw [if_neg (by omega), if_neg (by omega)])
  unfold VR mW
  by_cases z : t = 14 ∧ i = j ∧ c = 0
  · rw [if_pos z, if_neg (by omega), if_pos (by omega), z.2.1]
    exact hA.symm
  · rw [if_neg z]
    by_cases z0 : t = 15 ∧ i = j ∧ c < N
    · rw [if_pos z0, if_neg (by omega), if_neg (by omega), if_pos (by omega), z0.2.1, hB, if_pos z0.2.2]
    · rw [if_neg z0]
      by_cases z1 : t = 13 ∧ i = 0 ∧ c = 0
      · rw [if_pos z1, if_pos z1]
      · rw [if_neg z1, if_neg z1]
        by_cases z2 : t = 14 ∧ i < j ∧ c = 0
        · rw [if_pos z2, if_pos (by omega)]
          exact (hVA i z2.2.1).symm
        · rw [if_neg z2, if_neg (show ¬ (t = 14 ∧ i < j + 1 ∧ c = 0) by omega)]
          by_cases z3 : t = 15 ∧ i < j
          · rw [if_pos z3, if_pos (by omega)]
          · rw [if_neg z3]
            by_cases z4 : t = 15 ∧ i < j + 1
            · rw [if_pos z4]
              have hij : i = j := by omega
              rw [z4.1, hij, hB, if_neg (by omega), hY]
            · rw [if_neg z4]
end MW
/-- ahead of the reference: the class's part, and the loose cells -/
def Yw (cy : Nat → ClassId) (de : Nat) (ad : Ad) (S : St) (n : Nat → Nat) (X : Rl) : Rl := fun t i c => if t < 13 then VC cy de ad S n t i c else if t < 16 then none else X t i c
theorem VC_13 {cy : Nat → ClassId} {de : Nat} {ad ad2 : Ad} {S : St} {n : Nat → Nat} (h : ∀ t, t < 13 → ad2 t = ad t) : ∀ t i j, VC cy de ad2 S n t i j = VC cy de ad S n t i j
  | 0, i, j => by simp only [VC, eGames, h 1 (by decide), h 12 (by decide)]
  | 1, i, j => by simp only [VC, eList, h 2 (by decide)]
  | 2, i, j => by
    have e : fData ad2 n i = fData ad n i := by
      unfold fData
      rw [h (elT i) (by unfold elT; split <;> (try split) <;> (try split) <;> decide)]
    simp only [VC, e]
  | 3, i, j => by
    have e : ∀ x, kro ad2 x = kro ad x := fun x => by unfold kro; rw [h 7 (by decide)]
    simp only [VC, eAth, h 4 (by decide), e]
  | 4, i, j => by simp only [VC, h 5 (by decide)]
  | 5, i, j => by simp only [VC]
  | 6, i, j => by simp only [VC]
  | 7, i, j => by simp only [VC]
  | 8, i, j => by simp only [VC, eEvent, h 9 (by decide), h 10 (by decide)]
  | 9, i, j => by simp only [VC]
  | 10, i, j => by
    have e : fEnt ad2 S i = fEnt ad S i := by unfold fEnt; rw [h 11 (by decide)]
    simp only [VC, e]
  | 11, i, j => by
    have e : ∀ x, kro ad2 x = kro ad x := fun x => by unfold kro; rw [h 7 (by decide)]
    simp only [VC, eEnt, h 3 (by decide), e]
  | 12, i, j => by simp only [VC]
  | _ + 13, _, _ => by simp only [VC]
theorem mW_end {D : va_G} {B : Nat} {cy : Nat → ClassId} {de : Nat} {ad ad2 : Ad} {S : St} {n : Nat → Nat} {X : Rl} {H : Heap} (ha : ∀ t, t < 13 → ad2 t = ad t) (h : GW D B ad2 (mW cy ad2 (Yw cy de ad S n X) (mO ad2 20) 20) H) : GW D B ad2 (Vw cy de ad2 S n Z0 (fun _ => 0) 0 X) H := by
  refine h.ext (fun t i c => ?_) (fun _ _ _ _ _ => rfl)
  unfold Vw mW Yw
  by_cases h13 : t < 13
  · rw [if_pos h13, if_neg (by omega), if_neg (by omega), if_neg (by omega), if_pos h13, VC_13 ha]
  · rw [if_neg h13]
    by_cases e13 : t = 13
    · rw [if_pos e13]
      by_cases z : i = 0 ∧ c = 0
      · rw [if_pos z, if_pos ⟨e13, z⟩]; rfl
      · rw [if_neg z, if_neg (show ¬ (t = 13 ∧ i = 0 ∧ c = 0) from fun w => z w.2), if_neg (show ¬ (t = 14 ∧ i < 20 ∧ c = 0) by omega), if_neg (show ¬ (t = 15 ∧ i < 20) by omega), if_neg h13, if_pos (show t < 16 by omega)]
    · rw [if_neg e13, if_neg (show ¬ (t = 13 ∧ i = 0 ∧ c = 0) from fun w => e13 w.1)]
      by_cases e14 : t = 14
      · rw [if_pos e14]
        by_cases z : c = 0
        · rw [if_pos z]
          by_cases hi : i < 20
          · rw [if_pos ⟨e14, hi, z⟩]
          · rw [if_neg (show ¬ (t = 14 ∧ i < 20 ∧ c = 0) by omega), if_neg (show ¬ (t = 15 ∧ i < 20) by omega), if_neg h13, if_pos (show t < 16 by omega)]
            obtain ⟨u, rfl⟩ : ∃ u, i = u + 20 := ⟨i - 20, by omega⟩
            rfl
        · rw [if_neg z, if_neg (show ¬ (t = 14 ∧ i < 20 ∧ c = 0) by omega), if_neg (show ¬ (t = 15 ∧ i < 20) by omega), if_neg h13, if_pos (show t < 16 by omega)]
      · rw [if_neg e14, if_neg (show ¬ (t = 14 ∧ i < 20 ∧ c = 0) from fun w => e14 w.1)]
        by_cases e15 : t = 15
        · rw [if_pos e15]
          by_cases hi : i < 20
          · rw [if_pos ⟨e15, hi⟩]
          · rw [if_neg (show ¬ (t = 15 ∧ i < 20) by omega), if_neg h13, if_pos (show t < 16 by omega)]
            obtain ⟨u, rfl⟩ : ∃ u, i = u + 20 := ⟨i - 20, by omega⟩
            rfl
        · rw [if_neg e15, if_neg (show ¬ (t = 15 ∧ i < 20) from fun w => e15 w.1), if_neg h13, if_neg (by omega)]
/-- the loops' numbers -/
def mA (T : St) (e : Nat) : Nat → St
  | 0 => T
  | a + 1 => up3 (up3 (mA T e a) 20 e a (-1)) 22 e a (-1)
def mK (T : St) (e : Nat) : Nat → St
  | 0 => T
  | q + 1 => up3 (mK T e q) 17 e q 100
def mE : Nat → St
  | 0 => Z0
  | e + 1 => mK (mA (mE e) e 16) e 8
def mR : Nat → St
  | 0 => mE 8
  | q + 1 => up3 (mR q) 14 q 0 (-1)
section MM2
variable {p : Program} {l : Launch} {e : Env} {R : Room} {s : State} {m : MethodId} {args : Array Value} {below : List Frame} {meth : Method} {c : Code} {H : Heap} {locs : List Loc} {cells slots : Nat} {Q : State → Prop}
variable {cc : ByteArray} {pc nL : Nat} {ls : Array Slot} {rest : List Value} {own : String} {D : va_G} {cy : Nat → ClassId} {sa : Nat → Nat} {de B : Nat} {ad : Ad} {Y : Rl} {o : va_E}
theorem g_mnew {j : Nat} (hC : Cx p m c cc nL s args own D cy sa de B) (hG : GW D B ad (mW cy ad Y o j) H) (hS : va_S (AB B) s.heap H locs) {index : Nat} {ty : FieldType} (hcl : Cond.classLink own index ("[" ++ (FieldType.array ty).toString) ∈ G0) (hover : va_AR ty s) (warr : Cond.arrayClass ty ∈ G0) (t0 t1 : Nat) (ht0 : (tyL cy)[t0]? = some (cy t0, .array ty)) (ht1 : (tyL cy)[t1]? = some (cy t1, ty)) (hnob : ∀ C, ty ≠ .object C) {n k : Int32} {N K : Nat} (hn : ¬ n < 0) (hk : ¬ k < 0) (hN : n.toNatClampNeg = N) (hK : k.toNatClampNeg = K) (hb1 : N * 4 ≤ 536870912) (hb2 : K * componentBytes ty ≤ 536870912) (hb3 : K ≤ 536870912) (hdf : fits ty (defaultValue ty) = true) (hdv : defaultValue ty = .int 0)
    (hcells : cells + (1 + N) ≤ R.cells) (hslots : slots + (N + N * K) ≤ R.slots) (hA : ∀ ad2, VA cy ad2 Z0 j = some (eQ (cy t0) N (fun x => some (ad2 15 j x)))) (hB : ∀ x, VB cy Z0 j x = if x < N then some (eI (cy t1) K (fun _ => 0)) else none) (hY : ∀ x, Y 15 j x = none) (hY2 : Y 14 j 0 = none) (hdg : decode cc pc = .ok (.multianewarray index 2, 4))
    (kk : ∀ (q : Nat) (H1 : Heap), q = adR ad j q 14 j 0 → GW D B (adR ad j q) (mW cy (adR ad j q) Y o (j + 1)) H1 → va_S (AB B) s.heap H1 locs → W p l e R s m args below meth c H1 locs (cells + 1 + N) (slots + N + N * K) Q (F0 m (pc + 4) ls (.ref q :: rest))) : W p l e R s m args below meth c H locs cells slots Q (F0 m pc ls (.int k :: .int n :: rest)) := by
  refine W.mnew2 hC.x hC.b hC.o (hC.t _ hcl) (va_AR.use hover) (hC.t _ warr) rfl hdg rfl hn hk hN hK hb1 hb2 hb3 hdf hcells hslots fun cA cI H1 f1 f2 z1 e1 i1 o1 => ?_
  have hRA0 : va_RA s (cy t0) (.array ty) := (hC.K.2 t0 _ ht0).2
  have hRA1 : va_RA s (cy t1) ty := (hC.K.2 t1 _ ht1).2
  have hcA : cA = cy t0 := Option.some.inj (f1.symm.trans hRA0)
  have hcI : cI = cy t1 := Option.some.inj (f2.symm.trans (show s.vm.findClass ("[" ++ ty.toString) = some (cy t1) from by cases ty <;> first | exact hRA1 | exact absurd rfl (hnob _)))
  have hBH : B ≤ H.size := Nat.le_trans hC.2.2.2 hS.1
  have g1 : va_at D vwCl (H.size, eQ (cy t0) N (fun x => some (adR ad j H.size 15 j x))) H1 := by
    show H1[H.size]? = some (vp_cell _ _)
    rw [vp_cell_q, e1, hcA]
    unfold mo_o
    refine congrArg some (arrV_congr (fun x hx => ?_))
    rw [if_pos hx]
    show va_rf (some (H.size + 1 + x)) = va_rf (some (adR ad j H.size 15 j x))
    unfold adR
    rw [if_neg (by omega), if_pos ⟨rfl, rfl⟩]
  have g2 : ∀ x, x < N → va_at D vwCl (H.size + 1 + x, eI (cy t1) K (fun _ => 0)) H1 := fun x hx => by
    show H1[H.size + 1 + x]? = some (vp_cell _ _)
    rw [vp_cell_i, i1 x hx, hcI, hdv]
  have hG1 := hG.rows hBH (mW_14 hY2) (mW_15 hY) g1 g2 o1
  rw [mW_rows (hA _) hB hY] at hG1
  refine kk H.size H1 ?_ hG1 ⟨Nat.le_trans hS.1 (by omega), fun x h1 h2 => (o1 x (Nat.lt_of_lt_of_le h1 hS.1)).trans (hS.2.1 x h1 h2), hS.2.2⟩
  unfold adR
  rw [if_pos ⟨rfl, rfl, rfl⟩]
end MM2
theorem E_met2 {l : Launch} {y : MethodName} {cc : ByteArray} {maxL : Nat} {ret : Option FieldType} {own : String} {rm : Room} {As : List Value} {Qc : Array Value → State → Outcome → State → Prop} {mc ms : Nat} {free : Addr → Prop} {D : va_G} {cy : Nat → ClassId} {sa : Nat → Nat} {de B : Nat} {ad : Ad} {V : Rl} {P0 : Prop}
    (hy : plainName y.cls = true) (ho : y.cls = own) (hlen : (lg_sl As).length ≤ maxL)
    (body : ∀ (p : Program) (e : Env) (s : State) (m : MethodId) (below : List Frame) (meth : Method) (c : Code), Cx p m c cc maxL s As.toArray own D cy sa de B → meth.sig.returnType = ret → meth.locks = false → meth.name = y.name → GW D B ad V s.heap → P0 → va_AR .int s → va_AR .boolean s → ∀ ls : Array Slot, lv_has ls maxL (lv_args 0 As) →
      W p l e rm s m As.toArray below meth c s.heap [] 0 0 (MQ below Qc As.toArray s mc ms free) (F0 m 0 ls [])) : Met l y (Cond.code y cc maxL ret :: G0) rm (va_Pc As (fun U => PW D cy sa de B ad V P0 U ∧ va_AR .int U ∧ va_AR .boolean U)) Qc mc ms free := by
  refine Met.ofW (cc := cc) (maxL := maxL) (ret := ret) hy rfl ?_
  intro p e s m args below meth c s₁ Bd hml hv
  obtain ⟨rfl, ⟨⟨hk, hf, hb, hg⟩, h0⟩, hr1, hr2⟩ := hv
  have hts := atoms_spec (ws := Cond.code y cc maxL ret :: G0) Bd.pre
  have hown : s.vm.findClass own = some m.cls := by rw [← ho]; exact findClass_of_methodNamed Bd.named
  rw [lg_entry_eq]
  exact body p e s m below meth c ⟨⟨Bd.exec, Bd.bytes, hml, hown, fun w hw => hts w (List.mem_cons_of_mem _ hw)⟩, hk, hf, hb⟩ Bd.returns Bd.notSynchronized (name_of_methodNamed Bd.named Bd.method).1 hg h0 hr1 hr2 _ (lv_entry As hlen)
theorem blind2 {D : va_G} {cy : Nat → ClassId} {sa : Nat → Nat} {de B : Nat} {ad : Ad} {V : Rl} {P0 : Prop} {As : List Value} : FrameBlind (va_Pc As (fun U => PW D cy sa de B ad V P0 U ∧ va_AR .int U ∧ va_AR .boolean U)) := fun a U g mk h => ⟨h.1, ⟨Wd.blind rfl rfl h.2.1.1, h.2.1.2⟩, va_AR.moved (u := U) (U := U.calling g mk a) (Vm.Alike.refl U.vm) h.2.2.1, va_AR.moved (u := U) (U := U.calling g mk a) (Vm.Alike.refl U.vm) h.2.2.2⟩
