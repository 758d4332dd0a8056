theorem bcS_9 {A : St} {a m : Nat} {kk st : Int32} : bcS A a kk st m 9 a 0 = bcT kk st := by
  unfold bcS
  rw [up3_ne (by omega), up3_ne (by omega), up3_self]
theorem m1_iff {v : Int32} : (-1 ≤ v ∧ v ≤ 100) ↔ (v = -1 ∨ (0 ≤ v ∧ v ≤ 100)) := by
  have e1 : (-1 : Int32).toInt = -1 := by decide
  have e0 : (0 : Int32).toInt = 0 := by decide
  rw [Int32.le_iff_toInt_le, Int32.le_iff_toInt_le, Int32.le_iff_toInt_le, ← Int32.toInt_inj, e1, e0]
  have e100 : (100 : Int32).toInt = 100 := by decide
  rw [e100]
  omega
/-- whether one has a result in the first c events -/
noncomputable def rsF (T : St) (a : Nat) : Nat → Int32
  | 0 => 0
  | c + 1 => rsF T a c ||| cif (timeP T c a) 1 0
theorem rsF_01 {T : St} {a : Nat} : ∀ c, (rsF T a c = 1 ∧ resP T a c) ∨ (rsF T a c = 0 ∧ ¬ resP T a c)
  | 0 => Or.inr ⟨rfl, fun ⟨_, h, _⟩ => absurd h (Nat.not_lt_zero _)⟩
  | c + 1 => by
    show (rsF T a c ||| cif (timeP T c a) 1 0 = 1 ∧ _) ∨ (rsF T a c ||| cif (timeP T c a) 1 0 = 0 ∧ _)
    by_cases hz : timeP T c a
    · rw [cif_t hz]
      refine Or.inl ⟨?_, c, by omega, hz⟩
      rcases rsF_01 (T := T) (a := a) c with ⟨h, -⟩ | ⟨h, -⟩ <;> rw [h] <;> rfl
    · rw [cif_f hz]
      rcases rsF_01 (T := T) (a := a) c with ⟨h, y, hy, h2⟩ | ⟨h, h2⟩
      · exact Or.inl ⟨by rw [h]; rfl, y, by omega, h2⟩
      · refine Or.inr ⟨by rw [h]; rfl, fun ⟨y, hy, h3⟩ => ?_⟩
        by_cases hyc : y = c
        · subst hyc; exact hz h3
        · exact h2 ⟨y, by omega, h3⟩
theorem year_ne {x : Int32} (h : 0 ≤ x ∧ x ≤ 40) : ¬ x + 1 = -1 := by
  obtain ⟨p, hp, rfl⟩ := nI_of2 (M := 40) (n := 40) (by decide) (Int32.not_lt.mpr h.1) h.2
  rw [nI_1]; exact nI_ne_m1 (by omega)
theorem year_lt {x : Int32} (h : 0 ≤ x ∧ x ≤ 40) (hn : ¬ x = 40) : x < 40 := by
  obtain ⟨p, hp, rfl⟩ := nI_of2 (M := 40) (n := 40) (by decide) (Int32.not_lt.mpr h.1) h.2
  have hne : ¬ p = 40 := fun z => hn (by rw [z]; rfl)
  exact nI_lt (b := 40) (by omega) (by decide)
