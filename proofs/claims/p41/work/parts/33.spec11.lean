/-! WORDS FOR THE NUMBERS, 11: counts that reach farther than there is anything. -/
theorem cnt_ext {P : Nat → Prop} {m : Nat} (h : ∀ a, m ≤ a → ¬ P a) : ∀ d, cnt P (m + d) = cnt P m
  | 0 => rfl
  | d + 1 => by rw [← Nat.add_assoc, cnt_f (h (m + d) (by omega)), cnt_ext h d]
theorem cnt_16 {P : Nat → Prop} {m : Nat} (hm : m ≤ 16) (h : ∀ a, m ≤ a → ¬ P a) : cnt P 16 = cnt P m := by
  have := cnt_ext h (16 - m)
  rwa [show m + (16 - m) = 16 by omega] at this
theorem cnt_congr {P Q : Nat → Prop} : ∀ (c : Nat), (∀ a, a < c → (P a ↔ Q a)) → cnt P c = cnt Q c
  | 0, _ => rfl
  | c + 1, h => by
    have h1 := cnt_congr c (fun a ha => h a (by omega))
    by_cases hp : P c
    · rw [cnt_t hp, cnt_t ((h c (by omega)).mp hp), h1]
    · rw [cnt_f hp, cnt_f (fun z => hp ((h c (by omega)).mpr z)), h1]
theorem lnd_ext {T : St} {e m : Nat} (h : ∀ a, m ≤ a → ¬ stP T e a) : ∀ d, lnd T e (m + d) = lnd T e m
  | 0 => rfl
  | d + 1 => by rw [← Nat.add_assoc, lnd_f (h (m + d) (by omega)), lnd_ext h d]
theorem lnd_16 {T : St} {e m : Nat} (hm : m ≤ 16) (h : ∀ a, m ≤ a → ¬ stP T e a) : lnd T e 16 = lnd T e m := by
  have := lnd_ext h (16 - m)
  rwa [show m + (16 - m) = 16 by omega] at this
theorem ent_lt {T : St} {k : Nat → Nat} (hW : WF T k) {e a : Nat} (h : ¬ T 20 e a = -1) : e < k 3 ∧ a < k 0 ∧ ∃ q, q < k 2 ∧ T 20 e a = nI q := by
  rcases hW.2.2.2.2.2.2.2.2.2.1 e a with z | z
  · exact absurd z h
  · exact z
theorem time_lt {T : St} {k : Nat → Nat} (hW : WF T k) (hN : NE T) {e a : Nat} (h : timeP T e a) : e < k 3 ∧ a < k 0 := by
  have := ent_lt hW (e := e) (a := a) (fun z => h (hN e a z).1)
  exact ⟨this.1, this.2.1⟩
theorem st_16 {T : St} {k : Nat → Nat} (hW : WF T k) {e : Nat} : cnt (stP T e) 16 = cnt (stP T e) (k 0) := cnt_16 hW.1 (fun a ha z => absurd (ent_lt hW z.1).2.1 (by omega))
theorem ti_16 {T : St} {k : Nat → Nat} (hW : WF T k) (hN : NE T) {e : Nat} : cnt (timeP T e) 16 = cnt (timeP T e) (k 0) := cnt_16 hW.1 (fun a ha z => absurd (time_lt hW hN z).2 (by omega))
theorem la_16 {T : St} {k : Nat → Nat} (hW : WF T k) {e : Nat} : lnd T e 16 = lnd T e (k 0) := lnd_16 hW.1 (fun a ha z => absurd (ent_lt hW z.1).2.1 (by omega))
theorem fas_ao {T : St} {k : Nat → Nat} (hW : WF T k) (hN : NE T) {e a : Nat} : cnt (fasP T e a) 16 = cnt (aoP T e a 0) (k 0) := by
  rw [cnt_16 hW.1 (fun b hb z => absurd (time_lt hW hN z.1).2 (by omega))]
  refine cnt_congr _ (fun b _ => ⟨fun z => ⟨z.1, Or.inl z.2⟩, fun z => ⟨z.1, z.2.elim id (fun y => absurd y.1 (by decide))⟩⟩)
