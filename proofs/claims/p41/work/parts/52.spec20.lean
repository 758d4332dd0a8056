/-! NEW OBJECTS take the next free roles: what the other roles hold stays. -/
/-- which roles are referred to -/
def Lv (S : St) (n : Nat → Nat) (t i j : Nat) : Prop := (t = 3 → i < n 4) ∧ (t = 4 → i < n 4) ∧ (t = 5 → i < n 4) ∧ (t = 6 → i < n 5) ∧ (t = 7 → i < n 6) ∧ (t = 8 → i < n 7) ∧ (t = 9 → i < n 7) ∧ (t = 10 → i < n 7) ∧ (t = 11 → neg (S 20 i j) = false)
theorem Lv_o {S : St} {n : Nat → Nat} {t i j : Nat} (h : t < 3 ∨ t = 12) : Lv S n t i j := ⟨by omega, by omega, by omega, by omega, by omega, by omega, by omega, by omega, by omega⟩
theorem Lv_3 {S : St} {n : Nat → Nat} {t i j : Nat} (h : 3 ≤ t ∧ t ≤ 5) (hi : i < n 4) : Lv S n t i j := ⟨fun _ => hi, fun _ => hi, fun _ => hi, by omega, by omega, by omega, by omega, by omega, by omega⟩
theorem Lv_6 {S : St} {n : Nat → Nat} {i j : Nat} (hi : i < n 5) : Lv S n 6 i j := ⟨by omega, by omega, by omega, fun _ => hi, by omega, by omega, by omega, by omega, by omega⟩
theorem Lv_7 {S : St} {n : Nat → Nat} {i j : Nat} (hi : i < n 6) : Lv S n 7 i j := ⟨by omega, by omega, by omega, by omega, fun _ => hi, by omega, by omega, by omega, by omega⟩
theorem Lv_8 {S : St} {n : Nat → Nat} {t i j : Nat} (h : 8 ≤ t ∧ t ≤ 10) (hi : i < n 7) : Lv S n t i j := ⟨by omega, by omega, by omega, by omega, by omega, fun _ => hi, fun _ => hi, fun _ => hi, by omega⟩
theorem Lv_11 {S : St} {n : Nat → Nat} {i j : Nat} (hi : neg (S 20 i j) = false) : Lv S n 11 i j := ⟨by omega, by omega, by omega, by omega, by omega, by omega, by omega, by omega, fun _ => hi⟩
theorem kro_lv {ad ad2 : Ad} {x : Int32} {m : Nat} (hx : x = -1 ∨ ∃ q, q < m ∧ x = nI q) (hm : m ≤ 8) (h : ∀ q, q < m → ad2 7 q 0 = ad 7 q 0) : kro ad2 x = kro ad x := by
  rcases hx with rfl | ⟨q, hq, rfl⟩
  · rfl
  · rw [kro_some rfl (by omega), kro_some rfl (by omega), h q hq]
theorem elT_ok {n : Nat → Nat} {S : St} (hW : WF S n) {i k : Nat} (hi : i < 4) (hk : k < n i) : Lv S n (elT i) k 0 := by
  obtain ⟨-, -, -, -, h4, h5, h6, h7, -⟩ := hW
  have : i = 0 ∨ i = 1 ∨ i = 2 ∨ i = 3 := by omega
  rcases this with rfl | rfl | rfl | rfl
  · exact Lv_3 (by decide) (by omega)
  · exact Lv_6 (by omega)
  · exact Lv_7 (by omega)
  · exact Lv_8 (by decide) (by omega)
theorem VC_a {cy : Nat → ClassId} {de : Nat} {ad ad2 : Ad} {S : St} {n : Nat → Nat} (hW : WF S n) (h : ∀ t i j, t < 13 → t ≠ 2 → Lv S n t i j → ad2 t i j = ad t i j) : ∀ {t i j : Nat}, (t = 1 → 0 < n i → ad2 2 i 0 = ad 2 i 0) → VC cy de ad2 S n t i j = VC cy de ad S n t i j := by
  obtain ⟨hB0, hB1, hB2, hB3, hB4, hB5, hB6, hB7, hKI, hEI, hKY⟩ := hW
  have hW : WF S n := ⟨hB0, hB1, hB2, hB3, hB4, hB5, hB6, hB7, hKI, hEI, hKY⟩
  have h7 : ∀ q, q < n 2 → ad2 7 q 0 = ad 7 q 0 := fun q hq => h 7 q 0 (by decide) (by decide) (Lv_7 (by omega))
  intro t i j h2
  match t, h2 with
  | 0, _ => simp only [VC, eGames, h 1 0 0 (by decide) (by decide) (Lv_o (by decide)), h 1 1 0 (by decide) (by decide) (Lv_o (by decide)), h 1 2 0 (by decide) (by decide) (Lv_o (by decide)), h 1 3 0 (by decide) (by decide) (Lv_o (by decide)), h 12 0 0 (by decide) (by decide) (Lv_o (by decide))]
  | 1, h2 =>
    have e : eList de ad2 S n i = eList de ad S n i := by
      unfold eList
      by_cases hz : n i = 0
      · rw [if_pos hz, if_pos hz]
      · rw [if_neg hz, if_neg hz, h2 rfl (by omega)]
    simp only [VC, e]
  | 2, _ =>
    show (if i < 4 ∧ j = 0 ∧ 0 < n i then some (eQ (cy 6) (capL (n i)) (fData ad2 n i)) else none) = (if i < 4 ∧ j = 0 ∧ 0 < n i then some (eQ (cy 6) (capL (n i)) (fData ad n i)) else none)
    by_cases hz : i < 4 ∧ j = 0 ∧ 0 < n i
    · rw [if_pos hz, if_pos hz]
      have e : fData ad2 n i = fData ad n i := by
        funext k
        unfold fData
        by_cases hk : k < n i
        · have he : elT i < 13 ∧ elT i ≠ 2 := (by decide : ∀ i, i < 4 → elT i < 13 ∧ elT i ≠ 2) i hz.1
          rw [if_pos hk, if_pos hk, h (elT i) k 0 he.1 he.2 (elT_ok hW hz.1 hk)]
        · rw [if_neg hk, if_neg hk]
      rw [e]
    · rw [if_neg hz, if_neg hz]
  | 3, _ =>
    show (if i < n 4 ∧ j = 0 then some (eAth ad2 S i) else none) = (if i < n 4 ∧ j = 0 then some (eAth ad S i) else none)
    by_cases hz : i < n 4 ∧ j = 0
    · rw [if_pos hz, if_pos hz]
      unfold eAth
      rw [h 4 i 0 (by decide) (by decide) (Lv_3 (by decide) hz.1), h 4 i 1 (by decide) (by decide) (Lv_3 (by decide) hz.1), h 4 i 2 (by decide) (by decide) (Lv_3 (by decide) hz.1), kro_lv (hKI i (by omega)) hB2 h7]
    · rw [if_neg hz, if_neg hz]
  | 4, _ =>
    show (if i < n 4 ∧ j < 3 then some ((.inr (6, [.ref (ad2 5 i j)]) : va_E)) else none) = (if i < n 4 ∧ j < 3 then some ((.inr (6, [.ref (ad 5 i j)]) : va_E)) else none)
    by_cases hz : i < n 4 ∧ j < 3
    · rw [if_pos hz, if_pos hz, h 5 i j (by decide) (by decide) (Lv_3 (by decide) hz.1)]
    · rw [if_neg hz, if_neg hz]
  | 5, _ => simp only [VC]
  | 6, _ => simp only [VC]
  | 7, _ => simp only [VC]
  | 8, _ =>
    show (if i < n 7 ∧ j = 0 then some (eEvent ad2 S i) else none) = (if i < n 7 ∧ j = 0 then some (eEvent ad S i) else none)
    by_cases hz : i < n 7 ∧ j = 0
    · rw [if_pos hz, if_pos hz]
      unfold eEvent
      rw [h 9 i 0 (by decide) (by decide) (Lv_8 (by decide) hz.1), h 10 i 0 (by decide) (by decide) (Lv_8 (by decide) hz.1)]
    · rw [if_neg hz, if_neg hz]
  | 9, _ => simp only [VC]
  | 10, _ =>
    have e : fEnt ad2 S i = fEnt ad S i := by
      funext a
      unfold fEnt
      by_cases hn : neg (S 20 i a) = true
      · rw [if_pos hn, if_pos hn]
      · rw [if_neg hn, if_neg hn, h 11 i a (by decide) (by decide) (Lv_11 (by simpa using hn))]
    simp only [VC, e]
  | 11, _ =>
    show (if i < n 7 ∧ j < 16 ∧ neg (S 20 i j) = false then some (eEnt ad2 S i j) else none) = (if i < n 7 ∧ j < 16 ∧ neg (S 20 i j) = false then some (eEnt ad S i j) else none)
    by_cases hz : i < n 7 ∧ j < 16 ∧ neg (S 20 i j) = false
    · rw [if_pos hz, if_pos hz]
      unfold eEnt
      have hE := hEI i j
      have hne : ¬ S 20 i j = -1 := fun z => by rw [z] at hz; exact absurd hz.2.2 (by decide)
      have hj : j < n 4 := by
        rcases hE with z | ⟨-, z, -⟩
        · exact absurd z hne
        · omega
      rw [h 3 j 0 (by decide) (by decide) (Lv_3 (by decide) hj), kro_lv (hE.elim Or.inl (fun z => Or.inr z.2.2)) hB2 h7]
    · rw [if_neg hz, if_neg hz]
  | 12, _ => simp only [VC]
  | _ + 13, _ => simp only [VC]
theorem VC_i {cy : Nat → ClassId} {de : Nat} {ad : Ad} {S S2 : St} {n : Nat → Nat} : ∀ {t i j : Nat}, t ≠ 0 → t ≠ 12 → (∀ c ∈ rc t, ∀ y, S2 c i y = S c i y) → VC cy de ad S2 n t i j = VC cy de ad S n t i j
  | 0, _, _, h, _, _ => absurd rfl h
  | 1, i, j, _, _, e => by simp only [VC, eList, e 0 (by simp [rc])]
  | 2, i, j, _, _, _ => by simp only [VC]
  | 3, i, j, _, _, e => by simp only [VC, eAth, e 5 (by simp [rc]), e 8 (by simp [rc]), e 9 (by simp [rc]), e 10 (by simp [rc]), e 2 (by simp [rc]), e 11 (by simp [rc])]
  | 4, i, j, _, _, _ => by simp only [VC]
  | 5, i, j, _, _, e => by
    have e' : fMea S2 i j = fMea S i j := by
      funext x
      unfold fMea
      rw [e 6 (by simp [rc]), e 7 (by simp [rc]), e 1 (by simp [rc])]
    simp only [VC, e']
  | 6, i, j, _, _, e => by simp only [VC, e 12 (by simp [rc])]
  | 7, i, j, _, _, e => by simp only [VC, eKind, e 13 (by simp [rc]), e 14 (by simp [rc])]
  | 8, i, j, _, _, e => by simp only [VC, eEvent, e 16 (by simp [rc]), e 18 (by simp [rc]), e 19 (by simp [rc])]
  | 9, i, j, _, _, e => by simp only [VC, e 17 (by simp [rc])]
  | 10, i, j, _, _, e => by
    have e' : fEnt ad S2 i = fEnt ad S i := by
      funext x
      unfold fEnt
      rw [e 20 (by simp [rc])]
    simp only [VC, e']
  | 11, i, j, _, _, e => by simp only [VC, eEnt, e 20 (by simp [rc]), e 21 (by simp [rc]), e 22 (by simp [rc])]
  | 12, _, _, _, h, _ => absurd rfl h
  | _ + 13, _, _, _, _, _ => by simp only [VC]
/-- how many there are decides of these roles alone -/
theorem VC_nn {cy : Nat → ClassId} {de : Nat} {ad : Ad} {S : St} {n n2 : Nat → Nat} : ∀ {t i j : Nat}, (t = 1 ∨ t = 2 → n2 i = n i) → (3 ≤ t ∧ t ≤ 5 → (i < n2 4 ↔ i < n 4)) → (t = 6 → (i < n2 5 ↔ i < n 5)) → (t = 7 → (i < n2 6 ↔ i < n 6)) → (8 ≤ t ∧ t ≤ 11 → (i < n2 7 ↔ i < n 7)) → VC cy de ad S n2 t i j = VC cy de ad S n t i j
  | 0, _, _, _, _, _, _, _ => by simp only [VC]
  | 1, i, j, e, _, _, _, _ => by simp only [VC, eList, e (Or.inl rfl)]
  | 2, i, j, e, _, _, _, _ => by
    have e' : fData ad n2 i = fData ad n i := by
      funext x
      unfold fData
      rw [e (Or.inr rfl)]
    simp only [VC, e', e (Or.inr rfl)]
  | 3, i, j, _, e, _, _, _ => by simp only [VC, e (by decide)]
  | 4, i, j, _, e, _, _, _ => by simp only [VC, e (by decide)]
  | 5, i, j, _, e, _, _, _ => by simp only [VC, e (by decide)]
  | 6, i, j, _, _, e, _, _ => by simp only [VC, e rfl]
  | 7, i, j, _, _, _, e, _ => by simp only [VC, e rfl]
  | 8, i, j, _, _, _, _, e => by simp only [VC, e (by decide)]
  | 9, i, j, _, _, _, _, e => by simp only [VC, e (by decide)]
  | 10, i, j, _, _, _, _, e => by simp only [VC, e (by decide)]
  | 11, i, j, _, _, _, _, e => by simp only [VC, e (by decide)]
  | 12, _, _, _, _, _, _, _ => by simp only [VC]
  | _ + 13, _, _, _, _, _, _, _ => by simp only [VC]
/-- the class's part of a world is another: the rest stays where it is -/
theorem GW.cls {D : va_G} {B : Nat} {cy : Nat → ClassId} {de : Nat} {ad ad2 : Ad} {S S2 : St} {n n2 : Nat → Nat} {T : St} {k : Nat → Nat} {th : Int32} {X : Rl} {V : Rl} {H : Heap} (h : GW D B ad2 V H) (hC : ∀ t i j, t < 13 → VC cy de ad2 S2 n2 t i j = V t i j) (hM : ∀ t i j, 13 ≤ t → V t i j = Vw cy de ad S n T k th X t i j) (ha : ∀ t, 13 ≤ t → ad2 t = ad t) : GW D B ad2 (Vw cy de ad2 S2 n2 T k th X) H := by
  refine h.ext (fun t i j => ?_) (fun _ _ _ _ _ => rfl)
  by_cases ht : t < 13
  · rw [← hC t i j ht]
    unfold Vw
    rw [if_pos ht]
  · rw [hM t i j (by omega)]
    have e : eModel ad2 T k th = eModel ad T k th := rfl
    have eA : ∀ f, VA cy ad2 T f = VA cy ad T f := fun f => rfl
    unfold Vw
    rw [if_neg ht, if_neg ht, e, eA]
