/-! WORDS FOR THE NUMBERS, 8: what the reference writes is what the joint numbers say. -/
/-- alike but for what only one side has -/
def Eqm (A B : St) : Prop := ∀ c, c ≠ 0 → c ≠ 1 → c ≠ 2 → c ≠ 30 → c ≠ 31 → A c = B c
theorem Eqm.up {A B : St} (h : Eqm A B) (x y z : Nat) (v : Int32) : Eqm (up3 A x y z v) (up3 B x y z v) := fun c h0 h1 h2 h3 h4 => up3_congr (h c h0 h1 h2 h3 h4)
theorem Eqm.l {A B : St} (h : Eqm A B) {x : Nat} (hx : x = 0 ∨ x = 1 ∨ x = 2 ∨ x = 30 ∨ x = 31) {y z : Nat} {v : Int32} : Eqm (up3 A x y z v) B := fun c h0 h1 h2 h3 h4 => (up3_c (by omega)).trans (h c h0 h1 h2 h3 h4)
theorem Eqm.symm {A B : St} (h : Eqm A B) : Eqm B A := fun c h0 h1 h2 h3 h4 => (h c h0 h1 h2 h3 h4).symm
theorem Eqm.trans {A B C : St} (h : Eqm A B) (g : Eqm B C) : Eqm A C := fun c h0 h1 h2 h3 h4 => (h c h0 h1 h2 h3 h4).trans (g c h0 h1 h2 h3 h4)
theorem Eqm.drop {A B : St} (h : Eqm A B) (i : Nat) : ∀ c, Eqm (dropS A i c) (dropS B i c)
  | 0 => h
  | c + 1 => by
    have e20 : A 20 = B 20 := h 20 (by decide) (by decide) (by decide) (by decide) (by decide)
    have e19 : A 19 = B 19 := h 19 (by decide) (by decide) (by decide) (by decide) (by decide)
    by_cases hz : ¬ A 20 c i = -1 ∧ A 19 c 0 = 0
    · rw [dropS_t hz, dropS_t (by rw [← e20, ← e19]; exact hz)]
      exact ((Eqm.drop h i c).up _ _ _ _).up _ _ _ _
    · rw [dropS_f hz, dropS_f (by rw [← e20, ← e19]; exact hz)]
      exact Eqm.drop h i c
theorem Eqm.stl {A B : St} (h : Eqm A B) {i m : Nat} {kk st : Int32} : Eqm (stlS A i kk st m) (stlS B i kk st m) := by
  have e10 : A 10 = B 10 := h 10 (by decide) (by decide) (by decide) (by decide) (by decide)
  have e23 : A 23 = B 23 := h 23 (by decide) (by decide) (by decide) (by decide) (by decide)
  have e1 : Eqm (if A 10 i 0 = kk then A else dropS A i m) (if B 10 i 0 = kk then B else dropS B i m) := by
    rw [e10]
    by_cases hz : B 10 i 0 = kk
    · rw [if_pos hz, if_pos hz]; exact h
    · rw [if_neg hz, if_neg hz]; exact h.drop i m
  unfold stlS setl
  rw [e23]
  by_cases hz : kk = -1
  · rw [if_pos hz, if_pos hz]
    exact (((e1.up _ _ _ _).up _ _ _ _).up _ _ _ _).up _ _ _ _
  · rw [if_neg hz, if_neg hz]
    exact ((e1.up _ _ _ _).up _ _ _ _).up _ _ _ _
theorem bcD_if {A : St} {a m : Nat} {kk : Int32} : bcD A a kk m = (if A 10 a 0 = kk then A else dropS A a m) := by
  unfold bcD
  by_cases h : A 10 a 0 = kk
  · rw [cif_t h, if_pos h]
  · rw [cif_f h, if_neg h]
theorem and_one {x : Int32} (h : x = 0 ∨ x = 1) : x &&& 1 = x := by rcases h with rfl | rfl <;> decide
theorem and_nul {x : Int32} (h : x = 0 ∨ x = 1) : x &&& 0 = 0 := by rcases h with rfl | rfl <;> decide
/-- the reference's 'becomes' and the class's 'settle' -/
theorem bc_stl {A : St} {a m : Nat} {kk st : Int32} (hB : A 11 a 0 = 0 ∨ A 11 a 0 = 1) : ∀ c, c ≠ 0 → c ≠ 1 → c ≠ 2 → bcS A a kk st m c = up3 (stlS A a kk (bcT kk st) m) 31 a 0 (-1) c := by
  intro c h0 h1 h2
  have e11 : bcD A a kk m 11 a 0 = A 11 a 0 := by rw [bcD_c (by decide) (by decide)]
  unfold bcS stlS setl
  rw [← bcD_if]
  generalize hD : bcD A a kk m = D at e11
  by_cases hz : kk = -1
  · rw [if_pos hz, cif_t hz, e11, and_nul hB]
    by_cases h31 : c = 31
    · subst h31
      rw [up3_c (by decide)]
      exact up3_congr (by rw [up3_c (by decide), up3_c (by decide), up3_c (by decide), up3_c (by decide), up3_c (by decide), up3_c (by decide)])
    · rw [up3_c h31]
      refine up3_congr ?_
      rw [up3_c h31, up3_c h2]
  · rw [if_neg hz, cif_f hz, e11, and_one hB]
    rw [up3_same (by rw [up3_ne (by omega), up3_ne (by omega), up3_ne (by omega), e11])]
    refine up3_congr ?_
    rw [up3_c h2]
theorem kbel_S {S S2 : St} {n : Nat → Nat} {f : Nat → Int32} (h : S2 13 = S 13) : kbel S2 n f = kbel S n f :=
  fK_congr _ _ (fun q _ _ => by unfold holdsP; rw [h])
theorem bcT_sb {kk st : Int32} (h1 : ¬ st = 120) (h2 : ¬ st = 45) : bcT kk st = cif (kk = -1) 101 st := by
  unfold bcT
  by_cases hz : kk = -1
  · rw [cif_t ⟨hz, h1, h2⟩, cif_t hz]
  · rw [cif_f (fun z => hz z.1), cif_f hz]
theorem bcT_x {kk : Int32} : bcT kk 120 = 120 := cif_f (fun z => z.2.1 rfl)
theorem bcT_m {kk : Int32} : bcT kk 45 = 45 := cif_f (fun z => z.2.2 rfl)
theorem fm_congr {A B : St} {i : Nat} {g : Nat → Int32} {x : Nat} (h : A x = B x) : ∀ c, fm A i g c x = fm B i g c x
  | 0 => h
  | c + 1 => up3_congr (fm_congr h c)
theorem Eqm.fmf {T : St} {i : Nat} {g : Nat → Int32} (c d : Nat) : Eqm (fm T i g c) (fndS T i g d) := fun x _ h1 _ h3 _ => (fm_c h3 c).trans (fndS_c h1 d).symm
theorem stlS_30 {A : St} {i m : Nat} {kk st : Int32} : stlS A i kk st m 30 = A 30 := stlS_c (by decide) (by decide) (by decide) (by decide) (by decide) (by decide)
theorem stlS_31 {A : St} {i m : Nat} {kk st : Int32} : stlS A i kk st m 31 = A 31 := stlS_c (by decide) (by decide) (by decide) (by decide) (by decide) (by decide)
/-- a row g is found of one (reference: M; class: C), and settled: the joint numbers -/
theorem find_joint {M C : St} {a m : Nat} {g : Nat → Int32} {kk st v : Int32} {T : St} (hE : Eqm M C) (h30 : M 30 = fm T a g 5 30) (hC30 : C 30 = T 30) (hM31 : M 31 = T 31) (hC31 : C 31 = T 31) (hB : M 11 a 0 = 0 ∨ M 11 a 0 = 1) :
    ∀ c, c ≠ 0 → c ≠ 1 → c ≠ 2 → up3 (bcS M a kk st m) 31 a 0 v c = up3 (fm (stlS C a kk (bcT kk st) m) a g 5) 31 a 0 v c := by
  intro c h0 h1 h2
  by_cases h31 : c = 31
  · subst h31
    have e := bc_stl (m := m) (kk := kk) (st := st) hB 31 (by decide) (by decide) (by decide)
    funext y z
    by_cases hy : y = a ∧ z = 0
    · obtain ⟨rfl, rfl⟩ := hy
      rw [up3_self, up3_self]
    · rw [up3_ne (fun q => hy ⟨q.2.1, q.2.2⟩), up3_ne (fun q => hy ⟨q.2.1, q.2.2⟩), e, up3_ne (fun q => hy ⟨q.2.1, q.2.2⟩), stlS_31, hM31, fm_c (by decide), stlS_31, hC31]
  · rw [up3_c h31, up3_c h31]
    rw [bc_stl hB c h0 h1 h2, up3_c h31]
    by_cases h3 : c = 30
    · subst h3
      rw [stlS_30, h30]
      exact fm_congr (by rw [stlS_30, hC30]) 5
    · rw [fm_c h3]
      exact hE.stl c h0 h1 h2 h3 h31
