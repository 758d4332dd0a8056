/-! WHAT HOLDS OF THE NUMBERS BETWEEN CALLS, 1: what is kept when one athlete's row and entries change. -/
theorem z_t {P : Prop} {a b : Nat} (hb : ¬ b = 0) (h : cif P a b = 0) : P ∧ a = 0 := by
  by_cases hp : P
  · rw [cif_t hp] at h; exact ⟨hp, h⟩
  · rw [cif_f hp] at h; exact absurd h hb
theorem z_f {P : Prop} {a b : Nat} (ha : ¬ a = 0) (h : cif P a b = 0) : ¬ P ∧ b = 0 := by
  by_cases hp : P
  · rw [cif_t hp] at h; exact absurd h ha
  · rw [cif_f hp] at h; exact ⟨hp, h⟩
theorem ix_c {x : Int32} {N : Nat} (hN : N < 2 ^ 20) (h : ix x N) : ci x < N ∧ x = nI (ci x) := by
  obtain ⟨a, ha, rfl⟩ := h
  have e : ci (nI a) = a := nI_clamp (by omega)
  rw [e]; exact ⟨ha, rfl⟩
/-- one athlete's row -/
def IA (S : St) (n : Nat → Nat) (i : Nat) : Prop :=
  (S 8 i 0 = 0 ∨ S 8 i 0 = 1) ∧ (S 11 i 0 = 0 ∨ S 11 i 0 = 1) ∧ chP (S 9 i 0) ∧ (S 10 i 0 = -1 ∨ ∃ q, q < n 2 ∧ S 10 i 0 = nI q) ∧
  (¬ S 8 i 0 = 0 → ∀ y, y < 5 → S 1 i y = S 30 i y) ∧ (¬ S 10 i 0 = -1 → ¬ S 8 i 0 = 0 ∧ mayP S i) ∧ (mayP S i → ¬ S 10 i 0 = -1) ∧
  (waitP S i → S 2 i 0 = S 31 i 0 ∧ ¬ S 31 i 0 = -1) ∧ (¬ waitP S i → S 31 i 0 = -1) ∧ (¬ S 11 i 0 = 0 → ¬ S 10 i 0 = -1) ∧
  (S 9 i 0 = 99 → ∃ q, q < n 2 ∧ S 10 i 0 = nI q ∧ holdsP S q (fMea S i 2)) ∧ (∀ y, y < 5 → ¬ S 8 i 0 = 0 → 0 ≤ S 30 i y ∧ S 30 i y ≤ 100)
theorem holds_S {S S2 : St} {q : Nat} {f g : Nat → Int32} (h : S2 13 = S 13) (hf : f = g) : holdsP S q f → holdsP S2 q g := by
  subst hf
  unfold holdsP
  rw [h]; exact id
theorem fMea2 {S S2 : St} {i : Nat} (h : ∀ y, S2 1 i y = S 1 i y) : fMea S i 2 = fMea S2 i 2 := funext fun y => (h y).symm
theorem inv_mv {S S2 : St} {n : Nat → Nat} {i : Nat} (hI : Inv S n) (hi : i < n 0)
    (ha : ∀ x, x ≠ 0 → x ≠ 1 → x ≠ 2 → x ≠ 8 → x ≠ 9 → x ≠ 10 → x ≠ 11 → x ≠ 15 → x ≠ 21 → x ≠ 22 → x ≠ 30 → x ≠ 31 → S2 x = S x)
    (hb : ∀ x, x ≠ 0 → x ≠ 15 → x ≠ 21 → x ≠ 22 → ∀ y z, y ≠ i → S2 x y z = S x y z)
    (hc : ∀ e a, (S2 21 e a = S 21 e a ∧ S2 22 e a = S 22 e a) ∨ (¬ S 20 e a = -1 ∧ S2 21 e a = 1 ∧ S2 22 e a = -1))
    (hd : ∀ e, S 19 e 0 = 0 → ¬ S 20 e i = -1 → S2 21 e i = 0 → S2 10 i 0 = S 20 e i) (hA : IA S2 n i) : Inv S2 n := by
  obtain ⟨⟨⟨w0, w1, w2, w3, w4, w5, w6, w7, hKI, hEI, hKY⟩, hNE, hCH, hBL⟩, hD0, hD1, hD2, hB01, hF30, hK8, hMK, hU1, hU2, hS10, hEO, hCF, hFT, hME, hYR, hEK, hLA⟩ := hI
  obtain ⟨a8, a11, aCH, aKI, aF, aK8, aMK, aU1, aU2, aS10, aCF, aME⟩ := hA
  have e5 : S2 5 = S 5 := ha 5 (by decide) (by decide) (by decide) (by decide) (by decide) (by decide) (by decide) (by decide) (by decide) (by decide) (by decide) (by decide)
  have e6 : S2 6 = S 6 := ha 6 (by decide) (by decide) (by decide) (by decide) (by decide) (by decide) (by decide) (by decide) (by decide) (by decide) (by decide) (by decide)
  have e7 : S2 7 = S 7 := ha 7 (by decide) (by decide) (by decide) (by decide) (by decide) (by decide) (by decide) (by decide) (by decide) (by decide) (by decide) (by decide)
  have e13 : S2 13 = S 13 := ha 13 (by decide) (by decide) (by decide) (by decide) (by decide) (by decide) (by decide) (by decide) (by decide) (by decide) (by decide) (by decide)
  have e14 : S2 14 = S 14 := ha 14 (by decide) (by decide) (by decide) (by decide) (by decide) (by decide) (by decide) (by decide) (by decide) (by decide) (by decide) (by decide)
  have e16 : S2 16 = S 16 := ha 16 (by decide) (by decide) (by decide) (by decide) (by decide) (by decide) (by decide) (by decide) (by decide) (by decide) (by decide) (by decide)
  have e17 : S2 17 = S 17 := ha 17 (by decide) (by decide) (by decide) (by decide) (by decide) (by decide) (by decide) (by decide) (by decide) (by decide) (by decide) (by decide)
  have e18 : S2 18 = S 18 := ha 18 (by decide) (by decide) (by decide) (by decide) (by decide) (by decide) (by decide) (by decide) (by decide) (by decide) (by decide) (by decide)
  have e19 : S2 19 = S 19 := ha 19 (by decide) (by decide) (by decide) (by decide) (by decide) (by decide) (by decide) (by decide) (by decide) (by decide) (by decide) (by decide)
  have e20 : S2 20 = S 20 := ha 20 (by decide) (by decide) (by decide) (by decide) (by decide) (by decide) (by decide) (by decide) (by decide) (by decide) (by decide) (by decide)
  have e23 : S2 23 = S 23 := ha 23 (by decide) (by decide) (by decide) (by decide) (by decide) (by decide) (by decide) (by decide) (by decide) (by decide) (by decide) (by decide)
  have b1 := hb 1 (by decide) (by decide) (by decide) (by decide)
  have b2 := hb 2 (by decide) (by decide) (by decide) (by decide)
  have b8 := hb 8 (by decide) (by decide) (by decide) (by decide)
  have b9 := hb 9 (by decide) (by decide) (by decide) (by decide)
  have b10 := hb 10 (by decide) (by decide) (by decide) (by decide)
  have b11 := hb 11 (by decide) (by decide) (by decide) (by decide)
  have b30 := hb 30 (by decide) (by decide) (by decide) (by decide)
  have b31 := hb 31 (by decide) (by decide) (by decide) (by decide)
  have hm : ∀ a, a ≠ i → (mayP S2 a ↔ mayP S a) := fun a h => by unfold mayP; rw [b9 a 0 h]
  have hw : ∀ a, a ≠ i → (waitP S2 a ↔ waitP S a) := fun a h => by unfold waitP; rw [b9 a 0 h]
  refine ⟨⟨⟨w0, w1, w2, w3, w4, w5, w6, w7, ?_, ?_, ?_⟩, ?_, ?_, ?_⟩, ?_, ?_, ?_, ?_, ?_, ?_, ?_, ?_, ?_, ?_, ?_, ?_, ?_, ?_, ?_, ?_, ?_⟩
  · intro a h
    by_cases hz : a = i
    · subst hz; exact aKI
    · rw [b10 a 0 hz]; exact hKI a h
  · intro e a; rw [e20]; exact hEI e a
  · intro q h; rw [e13]; exact hKY q h
  · intro e a h
    rw [e20] at h
    rcases hc e a with z | z
    · rw [z.1, z.2]; exact hNE e a h
    · exact absurd h z.1
  · intro a
    by_cases hz : a = i
    · subst hz; exact aCH
    · rw [b9 a 0 hz]; exact hCH a
  · intro e a
    rcases hc e a with z | z
    · rw [z.1]; exact hBL e a
    · exact Or.inr z.2.1
  · intro a h
    rw [b8 a 0 (by omega), b11 a 0 (by omega)]; exact hD0 a h
  · intro q h; rw [e14]; exact hD1 q h
  · intro e h; rw [e18, e19, e17]; exact hD2 e h
  · intro a
    rw [e18, e19]
    by_cases hz : a = i
    · subst hz; exact ⟨a8, a11, (hB01 a).2.2⟩
    · rw [b8 a 0 hz, b11 a 0 hz]; exact hB01 a
  · intro a h
    by_cases hz : a = i
    · subst hz; exact aF
    · rw [b8 a 0 hz]; intro h8 y hy; rw [b1 a y hz, b30 a y hz]; exact hF30 a h h8 y hy
  · intro a h
    by_cases hz : a = i
    · subst hz; exact aK8
    · rw [b10 a 0 hz, b8 a 0 hz, hm a hz]; exact hK8 a h
  · intro a h
    by_cases hz : a = i
    · subst hz; exact aMK
    · rw [b10 a 0 hz, hm a hz]; exact hMK a h
  · intro a h
    by_cases hz : a = i
    · subst hz; exact aU1
    · rw [b2 a 0 hz, b31 a 0 hz, hw a hz]; exact hU1 a h
  · intro a h
    by_cases hz : a = i
    · subst hz; exact aU2
    · rw [b31 a 0 hz, hw a hz]; exact hU2 a h
  · intro a h
    by_cases hz : a = i
    · subst hz; exact aS10
    · rw [b11 a 0 hz, b10 a 0 hz]; exact hS10 a h
  · intro e a h20 h19 h21
    rw [e20] at h20 ⊢
    rw [e19] at h19
    by_cases hz : a = i
    · subst hz; exact hd e h19 h20 h21
    · rw [b10 a 0 hz]
      rcases hc e a with z | z
      · exact hEO e a h20 h19 (z.1.symm.trans h21)
      · rw [z.2.1] at h21; exact absurd h21 (by decide)
  · intro a h
    by_cases hz : a = i
    · subst hz; exact aCF
    · rw [b9 a 0 hz, b10 a 0 hz]
      intro h9
      obtain ⟨q, h1, h2, h3⟩ := hCF a h h9
      exact ⟨q, h1, h2, holds_S e13 (fMea2 (fun y => b1 a y hz)) h3⟩
  · intro e a h21
    rcases hc e a with z | z
    · rw [z.2]; exact hFT e a (fun w => h21 (z.1.trans w))
    · exact z.2.2
  · intro a y h hy
    rw [e6, e7]
    refine ⟨(hME a y h hy).1, (hME a y h hy).2.1, ?_⟩
    by_cases hz : a = i
    · subst hz; exact aME y hy
    · rw [b8 a 0 hz, b30 a y hz]; exact (hME a y h hy).2.2
  · rw [e23]; exact hYR
  · intro e q h1 h2; rw [e16]; exact hEK e q h1 h2
  · intro a h; rw [e5]; exact hLA a h
-- what falls when a class is lost
theorem drop_at {S : St} {i : Nat} : ∀ c e a, (dropS S i c 21 e a = S 21 e a ∧ dropS S i c 22 e a = S 22 e a ∧ ¬ (a = i ∧ e < c ∧ ¬ S 20 e a = -1 ∧ S 19 e 0 = 0)) ∨ (a = i ∧ e < c ∧ ¬ S 20 e a = -1 ∧ S 19 e 0 = 0 ∧ dropS S i c 21 e a = 1 ∧ dropS S i c 22 e a = -1)
  | 0, e, a => Or.inl ⟨rfl, rfl, fun z => absurd z.2.1 (Nat.not_lt_zero _)⟩
  | c + 1, e, a => by
    by_cases hz : ¬ S 20 c i = -1 ∧ S 19 c 0 = 0
    · rw [dropS_t hz]
      unfold fallS
      by_cases hea : e = c ∧ a = i
      · obtain ⟨rfl, rfl⟩ := hea
        exact Or.inr ⟨rfl, by omega, hz.1, hz.2, by rw [up3_ne (by omega), up3_self], by rw [up3_self]⟩
      · rw [up3_ne (by omega), up3_ne (fun z => hea ⟨z.2.1, z.2.2⟩), up3_ne (fun z => hea ⟨z.2.1, z.2.2⟩), up3_ne (by omega)]
        rcases drop_at c e a with z | z
        · exact Or.inl ⟨z.1, z.2.1, fun w => z.2.2 ⟨w.1, Nat.lt_of_le_of_ne (by omega) (fun q => hea ⟨q, w.1⟩), w.2.2⟩⟩
        · exact Or.inr ⟨z.1, by omega, z.2.2⟩
    · rw [dropS_f hz]
      rcases drop_at c e a with z | z
      · refine Or.inl ⟨z.1, z.2.1, fun w => ?_⟩
        by_cases hec : e = c
        · subst hec; obtain ⟨rfl, -, w2, w3⟩ := w; exact hz ⟨w2, w3⟩
        · exact z.2.2 ⟨w.1, by omega, w.2.2⟩
      · exact Or.inr ⟨z.1, by omega, z.2.2⟩
theorem stl_2 {S : St} {i m : Nat} {kk st : Int32} : stlS S i kk st m 2 i 0 = S 23 0 0 + 2 := by
  unfold stlS setl
  by_cases h : kk = -1
  · rw [if_pos h, up3_ne (by omega), up3_self]
  · rw [if_neg h, up3_self]
theorem stl_11a {S : St} {i m : Nat} {st : Int32} : stlS S i (-1) st m 11 i 0 = 0 := by
  unfold stlS
  rw [if_pos rfl, up3_self]
theorem stl_11b {S : St} {i m : Nat} {kk st : Int32} (h : ¬ kk = -1) : stlS S i kk st m 11 i 0 = S 11 i 0 := by
  unfold stlS setl
  rw [if_neg h, up3_ne (by omega), up3_ne (by omega), up3_ne (by omega)]
  by_cases h2 : S 10 i 0 = kk
  · rw [if_pos h2]
  · rw [if_neg h2, dropS_o _ (by decide) (by decide)]
theorem stl_e {S : St} {i m : Nat} {kk st : Int32} {x : Nat} (hx : x = 21 ∨ x = 22) : stlS S i kk st m x = (if S 10 i 0 = kk then S else dropS S i m) x := by
  unfold stlS setl
  rcases hx with rfl | rfl <;> (by_cases h : kk = -1
                                · rw [if_pos h, up3_c (by decide), up3_c (by decide), up3_c (by decide), up3_c (by decide)]
                                · rw [if_neg h, up3_c (by decide), up3_c (by decide), up3_c (by decide)])
theorem stl_cc {S : St} {i m : Nat} {kk st : Int32} (e a : Nat) : (stlS S i kk st m 21 e a = S 21 e a ∧ stlS S i kk st m 22 e a = S 22 e a) ∨ (¬ S 20 e a = -1 ∧ stlS S i kk st m 21 e a = 1 ∧ stlS S i kk st m 22 e a = -1) := by
  rw [stl_e (Or.inl rfl), stl_e (Or.inr rfl)]
  by_cases h : S 10 i 0 = kk
  · rw [if_pos h]; exact Or.inl ⟨rfl, rfl⟩
  · rw [if_neg h]
    rcases drop_at (S := S) (i := i) m e a with z | z
    · exact Or.inl ⟨z.1, z.2.1⟩
    · exact Or.inr ⟨z.2.2.1, z.2.2.2.2⟩
theorem stl_d {S : St} {i m : Nat} {kk st : Int32} (h1 : ∀ e, ¬ S 20 e i = -1 → e < m) (h2 : ∀ e, ¬ S 20 e i = -1 → S 19 e 0 = 0 → S 21 e i = 0 → S 10 i 0 = S 20 e i) (e : Nat) (h19 : S 19 e 0 = 0) (h20 : ¬ S 20 e i = -1) (h21 : stlS S i kk st m 21 e i = 0) : kk = S 20 e i := by
  rw [stl_e (Or.inl rfl)] at h21
  by_cases h : S 10 i 0 = kk
  · rw [if_pos h] at h21; rw [← h]; exact h2 e h20 h19 h21
  · rw [if_neg h] at h21
    rcases drop_at (S := S) (i := i) m e i with z | z
    · exact absurd ⟨rfl, h1 e h20, h20, h19⟩ z.2.2
    · rw [z.2.2.2.2.1] at h21; exact absurd h21 (by decide)
