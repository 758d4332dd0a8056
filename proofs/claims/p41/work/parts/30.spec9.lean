/-! WORDS FOR THE NUMBERS, 9: finding, ending, drawing anew: the reference's numbers are the joint ones. -/
theorem bcS_31 {A : St} {a m : Nat} {kk st : Int32} : bcS A a kk st m 31 a 0 = -1 := by
  unfold bcS
  rw [up3_ne (by omega), up3_self]
theorem te_joint {T : St} {k : Nat → Nat} {a : Nat} (hKY : KYm T k) (hB : T 11 a 0 = 0 ∨ T 11 a 0 = 1) : ∀ c, c ≠ 0 → c ≠ 1 → c ≠ 2 →
    bcS (up3 (fm T a (shv T a) 5) 8 a 0 1) a (kbel (up3 (fm T a (shv T a) 5) 8 a 0 1) k (up3 (fm T a (shv T a) 5) 8 a 0 1 30 a)) 110 (k 3) c = teS T k a c := by
  have e13 : up3 (fm T a (shv T a) 5) 8 a 0 1 13 = T 13 := (up3_c (by decide)).trans (fm_c (by decide) 5)
  have c13 : fsS T a 13 = T 13 := (up3_c (by decide)).trans (fndS_c (by decide) 5)
  have hk : kbel (up3 (fm T a (shv T a) 5) 8 a 0 1) k (up3 (fm T a (shv T a) 5) 8 a 0 1 30 a) = kbel (fsS T a) k (fMea (fsS T a) a 2) := by
    rw [kbel_S e13, kbel_S c13]
    refine kbel_congr hKY (fun y hy => ?_)
    rw [up3_c (show (30 : Nat) ≠ 8 by decide), fm_i 5 hy]
    show _ = fsS T a 1 a y
    unfold fsS
    rw [up3_c (show (1 : Nat) ≠ 8 by decide), fndS_i 5 hy]
  rw [hk]
  intro c h0 h1 h2
  have e := find_joint (M := up3 (fm T a (shv T a) 5) 8 a 0 1) (C := fsS T a) (a := a) (m := k 3) (g := shv T a) (kk := kbel (fsS T a) k (fMea (fsS T a) a 2)) (st := 110) (v := -1) (T := T)
    ((Eqm.fmf 5 5).up _ _ _ _) (up3_c (by decide)) ((up3_c (by decide)).trans (fndS_c (by decide) 5)) ((up3_c (by decide)).trans (fm_c (by decide) 5)) ((up3_c (by decide)).trans (fndS_c (by decide) 5)) (by rw [up3_ne (by omega), fm_c (by decide)]; exact hB) c h0 h1 h2
  rw [up3_same bcS_31, bcT_sb (by decide) (by decide)] at e
  exact e
theorem gain : ∀ p, p < 101 → ∀ q, q < 101 → (nI q + 20 < nI p ↔ 20 < nI p - nI q) := by decide +kernel
theorem gain_iff {u v : Int32} (hu : 0 ≤ u ∧ u ≤ 100) (hv : 0 ≤ v ∧ v ≤ 100) : v + 20 < u ↔ 20 < u - v := by
  obtain ⟨p, hp, rfl⟩ := nI_of2 (M := 100) (n := 100) (by decide) (Int32.not_lt.mpr hu.1) hu.2
  obtain ⟨q, hq, rfl⟩ := nI_of2 (M := 100) (n := 100) (by decide) (Int32.not_lt.mpr hv.1) hv.2
  exact gain p (by omega) q (by omega)
theorem fi_joint {T : St} {k : Nat → Nat} {a : Nat} (hKY : KYm T k) (hB : T 11 a 0 = 0 ∨ T 11 a 0 = 1) (h8 : T 8 a 0 = 1) (hF : ∀ y, y < 5 → T 1 a y = T 30 a y)
    (hR : ∀ y, y < 5 → (0 ≤ T 6 a y ∧ T 6 a y ≤ 100) ∧ (0 ≤ T 30 a y ∧ T 30 a y ≤ 100)) : ∀ c, c ≠ 0 → c ≠ 1 → c ≠ 2 → fiM T k a c = exJ T k a c := by
  have hid : hidM T a 5 ↔ hidP T a := by
    constructor
    · rintro ⟨y, hy, h⟩
      refine ⟨y, hy, ?_⟩
      show 20 < T 6 a y - T 1 a y
      rw [hF y hy]; exact (gain_iff (hR y hy).1 (hR y hy).2).mp h
    · rintro ⟨y, hy, h⟩
      have h : 20 < T 6 a y - T 1 a y := h
      rw [hF y hy] at h
      exact ⟨y, hy, (gain_iff (hR y hy).1 (hR y hy).2).mpr h⟩
  have hE : Eqm (fm T a (T 6 a) 5) (fiS T a) := by
    intro x h0 h1 h2 h3 h4
    unfold fiS
    by_cases h : x = 8
    · subst h
      rw [fm_c (by decide)]
      have e : up3 (fndS T a (T 6 a) 5) 8 a 0 1 = fndS T a (T 6 a) 5 := up3_same (by rw [fndS_c (by decide)]; exact h8)
      rw [e, fndS_c (by decide)]
    · rw [up3_c h, fm_c h3, fndS_c h1]
  have c30 : fiS T a 30 = T 30 := fiS_c (by decide) (by decide)
  have c31 : fiS T a 31 = T 31 := fiS_c (by decide) (by decide)
  have c13 : fiS T a 13 = T 13 := fiS_c (by decide) (by decide)
  have hBM : fm T a (T 6 a) 5 11 a 0 = 0 ∨ fm T a (T 6 a) 5 11 a 0 = 1 := by rw [fm_c (by decide)]; exact hB
  have hk : kbel (fm T a (T 6 a) 5) k (fm T a (T 6 a) 5 30 a) = kbel (fiS T a) k (fMea (fiS T a) a 2) := by
    rw [kbel_S (fm_c (by decide) 5), kbel_S c13]
    refine kbel_congr hKY (fun y hy => ?_)
    rw [fm_i 5 hy]
    show _ = fiS T a 1 a y
    unfold fiS
    rw [up3_c (show (1 : Nat) ≠ 8 by decide), fndS_i 5 hy]
  intro c h0 h1 h2
  unfold fiM exJ exS
  by_cases hz : hidM T a 5
  · rw [cif_t hz, cif_t (hid.mp hz), cif_t (hid.mp hz)]
    have e := find_joint (M := fm T a (T 6 a) 5) (C := fiS T a) (a := a) (m := k 3) (g := T 6 a) (kk := -1) (st := 120) (v := T 23 0 0 + 2) (T := T) hE rfl c30 (fm_c (by decide) 5) c31 hBM c h0 h1 h2
    rw [bcT_x] at e
    rw [bcS_c (x := 23) (by decide) (by decide) (by decide) (by decide) (by decide) (by decide), fm_c (by decide)]
    exact e
  · have hz2 : ¬ hidP T a := fun z => hz (hid.mpr z)
    rw [cif_f hz, cif_f hz2, cif_f hz2, hk]
    have e := find_joint (M := fm T a (T 6 a) 5) (C := fiS T a) (a := a) (m := k 3) (g := T 6 a) (kk := kbel (fiS T a) k (fMea (fiS T a) a 2)) (st := 99) (v := -1) (T := T) hE rfl c30 (fm_c (by decide) 5) c31 hBM c h0 h1 h2
    rw [bcT_sb (by decide) (by decide)] at e
    exact e
/-- a ban or a review ends -/
theorem ew_ban {P : St} {k : Nat → Nat} {c0 : Nat} (hB : P 11 c0 0 = 0 ∨ P 11 c0 0 = 1) (h : P 9 c0 0 = 120) : ∀ c, c ≠ 0 → c ≠ 1 → c ≠ 2 → bcS P c0 (-1) 45 (k 3) c = up3 (ewS P k c0) 31 c0 0 (-1) c := by
  intro c h0 h1 h2
  rw [bc_stl hB c h0 h1 h2, bcT_m, show ewS P k c0 = _ from cif_t h]
theorem ew_review {P : St} {k : Nat → Nat} {c0 : Nat} (hKY : KYm P k) (hB : P 11 c0 0 = 0 ∨ P 11 c0 0 = 1) (h : ¬ P 9 c0 0 = 120) (hF : ∀ y, y < 5 → P 1 c0 y = P 30 c0 y) : ∀ c, c ≠ 0 → c ≠ 1 → c ≠ 2 → bcS P c0 (kbel P k (P 30 c0)) 99 (k 3) c = up3 (ewS P k c0) 31 c0 0 (-1) c := by
  intro c h0 h1 h2
  have hk : kbel P k (P 30 c0) = kbel P k (fMea P c0 2) := kbel_congr hKY (fun y hy => (hF y hy).symm)
  rw [bc_stl hB c h0 h1 h2, bcT_sb (by decide) (by decide), show ewS P k c0 = _ from cif_f h, hk]
  rfl
theorem bo_joint {P : St} {q c0 m : Nat} {v : Int32} (h : P 10 c0 0 = nI q) (hq : q < 2 ^ 31) : ∀ c, c ≠ 0 → c ≠ 1 → c ≠ 2 → up3 (up3 P 9 c0 0 114) 31 c0 0 v c = up3 (stlS P c0 (nI q) 114 m) 31 c0 0 v c := by
  intro c h0 h1 h2
  refine up3_congr ?_
  rw [stlS_3 (nI_ne_m1 hq) h]
  unfold setl
  rw [up3_c h2]
  exact up3_congr (by rw [up3_same h])
theorem stlS_oo {S : St} {i m : Nat} {kk st : Int32} {x y z : Nat} (hy : y ≠ i) (h21 : x ≠ 21) (h22 : x ≠ 22) : stlS S i kk st m x y z = S x y z := stlS_o hy h21 h22
theorem boS_o {S : St} {m q : Nat} : ∀ (c : Nat) {x y z : Nat}, c ≤ y → x ≠ 21 → x ≠ 22 → boS S m q c x y z = S x y z
  | 0, _, _, _, _, _, _ => rfl
  | c + 1, x, y, z, h, h1, h2 => by
    by_cases hz : boP (boS S m q c) q c
    · rw [boS_t hz, up3_ne (fun t => absurd t.2.1 (by omega)), stlS_o (by omega) h1 h2, boS_o c (by omega) h1 h2]
    · rw [boS_f hz, boS_o c (by omega) h1 h2]
theorem boS_c {S : St} {m q : Nat} : ∀ (c : Nat) {x : Nat}, x ≠ 2 → x ≠ 9 → x ≠ 10 → x ≠ 11 → x ≠ 21 → x ≠ 22 → x ≠ 31 → boS S m q c x = S x
  | 0, _, _, _, _, _, _, _, _ => rfl
  | c + 1, x, h2, h9, h10, h11, h21, h22, h31 => by
    by_cases hz : boP (boS S m q c) q c
    · rw [boS_t hz, up3_c h31, stlS_c h2 h9 h10 h11 h21 h22, boS_c c h2 h9 h10 h11 h21 h22 h31]
    · rw [boS_f hz, boS_c c h2 h9 h10 h11 h21 h22 h31]
theorem ewS_o {S : St} {n : Nat → Nat} {i : Nat} {x y z : Nat} (hy : y ≠ i) (h21 : x ≠ 21) (h22 : x ≠ 22) : ewS S n i x y z = S x y z := by
  unfold ewS
  by_cases h : S 9 i 0 = 120
  · rw [cif_t h, stlS_o hy h21 h22]
  · rw [cif_f h]; unfold sbfS; rw [stlS_o hy h21 h22]
theorem ewS_c {S : St} {n : Nat → Nat} {i x : Nat} (h2 : x ≠ 2) (h9 : x ≠ 9) (h10 : x ≠ 10) (h11 : x ≠ 11) (h21 : x ≠ 21) (h22 : x ≠ 22) : ewS S n i x = S x := by
  unfold ewS
  by_cases h : S 9 i 0 = 120
  · rw [cif_t h, stlS_c h2 h9 h10 h11 h21 h22]
  · rw [cif_f h]; unfold sbfS; rw [stlS_c h2 h9 h10 h11 h21 h22]
theorem neS_o {S : St} {n : Nat → Nat} : ∀ (c : Nat) {x y z : Nat}, c ≤ y → x ≠ 21 → x ≠ 22 → neS S n c x y z = S x y z
  | 0, _, _, _, _, _, _ => rfl
  | c + 1, x, y, z, h, h1, h2 => by
    by_cases hz : neP (neS S n c) c
    · rw [neS_t hz, up3_ne (fun t => absurd t.2.1 (by omega)), ewS_o (by omega) h1 h2, neS_o c (by omega) h1 h2]
    · rw [neS_f hz, neS_o c (by omega) h1 h2]
theorem neS_c {S : St} {n : Nat → Nat} : ∀ (c : Nat) {x : Nat}, x ≠ 2 → x ≠ 9 → x ≠ 10 → x ≠ 11 → x ≠ 21 → x ≠ 22 → x ≠ 31 → neS S n c x = S x
  | 0, _, _, _, _, _, _, _, _ => rfl
  | c + 1, x, h2, h9, h10, h11, h21, h22, h31 => by
    by_cases hz : neP (neS S n c) c
    · rw [neS_t hz, up3_c h31, ewS_c h2 h9 h10 h11 h21 h22, neS_c c h2 h9 h10 h11 h21 h22 h31]
    · rw [neS_f hz, neS_c c h2 h9 h10 h11 h21 h22 h31]
