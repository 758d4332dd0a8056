/-! .. 2: settling, watching, protests, the next year. -/
theorem yr_ne {x : Int32} (h : 0 ≤ x ∧ x ≤ 40) : ¬ x + 2 = -1 := by
  obtain ⟨a, ha, rfl⟩ := nI_of2 (M := 40) (n := 40) (by decide) (Int32.not_lt.mpr h.1) h.2
  rw [show (2 : Int32) = nI 2 from rfl, nI_add]; exact nI_ne_m1 (by omega)
theorem fm_y {S : St} {i : Nat} {g : Nat → Int32} {y z : Nat} (h : y ≠ i) : ∀ c, fm S i g c 30 y z = S 30 y z
  | 0 => rfl
  | c + 1 => (up3_ne (fun q => h q.2.1)).trans (fm_y h c)
theorem inv_stl {S T S2 : St} {n : Nat → Nat} {i : Nat} {kk st : Int32} (hI : Inv S n) (hi : i < n 0) (hT : ∀ x, x ≠ 1 → x ≠ 8 → T x = S x) (hT2 : ∀ x y z, y ≠ i → T x y z = S x y z)
    (hc2 : ∀ x, x ≠ 15 → x ≠ 30 → x ≠ 31 → S2 x = stlS T i kk st (n 3) x) (h30 : ∀ y z, y ≠ i → S2 30 y z = S 30 y z) (h31 : ∀ y z, y ≠ i → S2 31 y z = S 31 y z) (hA : IA S2 n i) : Inv S2 n := by
  have c20 : T 20 = S 20 := hT 20 (by decide) (by decide)
  have c21 : T 21 = S 21 := hT 21 (by decide) (by decide)
  have c22 : T 22 = S 22 := hT 22 (by decide) (by decide)
  have c19 : T 19 = S 19 := hT 19 (by decide) (by decide)
  have c10 : T 10 = S 10 := hT 10 (by decide) (by decide)
  have s21 := hc2 21 (by decide) (by decide) (by decide)
  have s22 := hc2 22 (by decide) (by decide) (by decide)
  have s10 := hc2 10 (by decide) (by decide) (by decide)
  refine inv_mv hI hi (fun x x0 x1 x2 x8 x9 x10 x11 x15 x21 x22 x30 x31 => ?_) (fun x x0 x15 x21 x22 y z hy => ?_) (fun e a => ?_) (fun e z19 z20 z21 => ?_) hA
  · rw [hc2 x x15 x30 x31, stlS_c x2 x9 x10 x11 x21 x22, hT x x1 x8]
  · by_cases y30 : x = 30
    · subst y30; exact h30 y z hy
    · by_cases y31 : x = 31
      · subst y31; exact h31 y z hy
      · rw [hc2 x x15 y30 y31, stlS_o hy x21 x22, hT2 x y z hy]
  · rw [s21, s22, ← c20, ← c21, ← c22]; exact stl_cc e a
  · rw [s21] at z21
    rw [s10, stlS_10, ← c20]
    refine stl_d (fun e' h => ?_) (fun e' h1 h2 h3 => ?_) e (by rw [c19]; exact z19) (by rw [c20]; exact z20) z21
    · rw [c20] at h; exact (ent_lt hI.1.1 h).1
    · rw [c20] at h1; rw [c19] at h2; rw [c21] at h3; rw [c20, c10]
      exact hI.2.2.2.2.2.2.2.2.2.2.2.1 e' i h1 h2 h3
theorem IA_no {T S2 : St} {n : Nat → Nat} {i m : Nat} {st : Int32} (h8 : T 8 i 0 = 0 ∨ T 8 i 0 = 1) (hst : (st = 120 ∧ S2 31 i 0 = T 23 0 0 + 2 ∧ ¬ T 23 0 0 + 2 = -1) ∨ ((st = 45 ∨ st = 101) ∧ S2 31 i 0 = -1))
    (hc : ∀ x, x ≠ 15 → x ≠ 30 → x ≠ 31 → S2 x = stlS T i (-1) st m x) (h30 : ¬ T 8 i 0 = 0 → ∀ y, y < 5 → S2 30 i y = T 1 i y) (hme : ¬ T 8 i 0 = 0 → ∀ y, y < 5 → 0 ≤ T 1 i y ∧ T 1 i y ≤ 100) : IA S2 n i := by
  have s8 : S2 8 = T 8 := (hc 8 (by decide) (by decide) (by decide)).trans (stlS_c (by decide) (by decide) (by decide) (by decide) (by decide) (by decide))
  have s1 : S2 1 = T 1 := (hc 1 (by decide) (by decide) (by decide)).trans (stlS_c (by decide) (by decide) (by decide) (by decide) (by decide) (by decide))
  have s11 : S2 11 i 0 = 0 := by rw [hc 11 (by decide) (by decide) (by decide)]; exact stl_11a
  have s9 : S2 9 i 0 = st := by rw [hc 9 (by decide) (by decide) (by decide)]; exact stlS_9
  have s10 : S2 10 i 0 = -1 := by rw [hc 10 (by decide) (by decide) (by decide)]; exact stlS_10
  have s2 : S2 2 i 0 = T 23 0 0 + 2 := by rw [hc 2 (by decide) (by decide) (by decide)]; exact stl_2
  refine ⟨by rw [s8]; exact h8, Or.inl s11, ?_, Or.inl s10, ?_, fun h => absurd s10 h, ?_, ?_, ?_, fun h => absurd s11 h, ?_, ?_⟩
  · rw [s9]; rcases hst with ⟨rfl, -⟩ | ⟨rfl | rfl, -⟩ <;> exact ⟨rfl, rfl⟩
  · intro h y hy; rw [s8] at h; rw [s1, h30 h y hy]
  · intro h
    unfold mayP at h
    rw [s9] at h
    rcases hst with ⟨rfl, -⟩ | ⟨rfl | rfl, -⟩ <;> exact absurd h (by decide)
  · intro h
    unfold waitP at h
    rw [s9] at h
    rcases hst with ⟨rfl, h1, h2⟩ | ⟨rfl | rfl, -⟩
    · rw [s2, h1]; exact ⟨rfl, h2⟩
    · exact absurd h (by decide)
    · exact absurd h (by decide)
  · intro h
    unfold waitP at h
    rw [s9] at h
    rcases hst with ⟨rfl, h1, h2⟩ | ⟨-, h1⟩
    · exact absurd (Or.inl rfl) h
    · exact h1
  · intro h
    rw [s9] at h
    rcases hst with ⟨rfl, -⟩ | ⟨rfl | rfl, -⟩ <;> exact absurd h (by decide)
  · intro y hy h; rw [s8] at h; rw [h30 h y hy]; exact hme h y hy
theorem IA_sbf {T S2 : St} {n : Nat → Nat} {i : Nat} {st : Int32} (w2 : n 2 ≤ 8) (hst : st = 110 ∨ st = 99) (h8 : T 8 i 0 = 1) (h11 : T 11 i 0 = 0 ∨ T 11 i 0 = 1)
    (hc : ∀ x, x ≠ 15 → x ≠ 30 → x ≠ 31 → S2 x = sbfS T n i st x) (h30 : ∀ y, y < 5 → S2 30 i y = T 1 i y) (hme : ∀ y, y < 5 → 0 ≤ T 1 i y ∧ T 1 i y ≤ 100) (h31 : S2 31 i 0 = -1) : IA S2 n i := by
  rcases fK_cases (P := fun q => holdsP T q (fMea T i 2)) (n 2) 0 with h | ⟨q, -, h2, h3, h4⟩
  · exact IA_no (T := T) (m := n 3) (st := 101) (Or.inr h8) (Or.inr ⟨Or.inr rfl, h31⟩) (fun x a b c => by rw [hc x a b c, sbfS_n h]) (fun _ => h30) (fun _ => hme)
  · have h4 : kbel T n (fMea T i 2) = nI q := h4
    have hq : ¬ nI q = -1 := nI_ne_m1 (by omega)
    have hc' : ∀ x, x ≠ 15 → x ≠ 30 → x ≠ 31 → S2 x = stlS T i (nI q) st (n 3) x := fun x a b c => by rw [hc x a b c, sbfS_q (by omega) h4]
    have s8 : S2 8 = T 8 := (hc' 8 (by decide) (by decide) (by decide)).trans (stlS_c (by decide) (by decide) (by decide) (by decide) (by decide) (by decide))
    have s1 : S2 1 = T 1 := (hc' 1 (by decide) (by decide) (by decide)).trans (stlS_c (by decide) (by decide) (by decide) (by decide) (by decide) (by decide))
    have s13 : S2 13 = T 13 := (hc' 13 (by decide) (by decide) (by decide)).trans (stlS_c (by decide) (by decide) (by decide) (by decide) (by decide) (by decide))
    have s11 : S2 11 i 0 = T 11 i 0 := by rw [hc' 11 (by decide) (by decide) (by decide)]; exact stl_11b hq
    have s9 : S2 9 i 0 = st := by rw [hc' 9 (by decide) (by decide) (by decide)]; exact stlS_9
    have s10 : S2 10 i 0 = nI q := by rw [hc' 10 (by decide) (by decide) (by decide)]; exact stlS_10
    have h80 : ¬ S2 8 i 0 = 0 := by rw [s8, h8]; decide
    have hm : mayP S2 i := by unfold mayP; rw [s9]; rcases hst with rfl | rfl <;> decide
    have hw : ¬ waitP S2 i := by unfold waitP; rw [s9]; rcases hst with rfl | rfl <;> decide
    refine ⟨by rw [s8]; exact Or.inr h8, by rw [s11]; exact h11, ?_, Or.inr ⟨q, by omega, s10⟩, ?_, fun _ => ⟨h80, hm⟩, fun _ => by rw [s10]; exact hq, fun h => absurd h hw, fun _ => h31, fun _ => by rw [s10]; exact hq, fun _ => ⟨q, by omega, s10, ?_⟩, ?_⟩
    · rw [s9]; rcases hst with rfl | rfl <;> exact ⟨rfl, rfl⟩
    · intro _ y hy; rw [s1, h30 y hy]
    · exact holds_S s13 (fMea2 (fun y => by rw [s1])) h3
    · intro y hy _; rw [h30 y hy]; exact hme y hy
theorem shv_b {S : St} {n : Nat → Nat} (hI : Inv S n) {i y : Nat} (hi : i < n 0) (hy : y < 5) : 0 ≤ shv S i y ∧ shv S i y ≤ 100 := by
  obtain ⟨-, -, -, -, -, -, -, -, -, -, -, -, -, -, hME, -⟩ := hI
  unfold shv
  by_cases h : S 7 i y = -1
  · rw [if_pos h]; exact (hME i y hi hy).1
  · rw [if_neg h]; exact (m1_iff.mp (hME i y hi hy).2.1).resolve_left h
theorem fsS_o {S : St} {i x y z : Nat} (hy : y ≠ i) : fsS S i x y z = S x y z := by
  unfold fsS
  rw [up3_ne (fun q => hy q.2.1), fndS_o 5 (fun q => hy q.2.1)]
theorem fiS_o {S : St} {i x y z : Nat} (hy : y ≠ i) : fiS S i x y z = S x y z := by
  unfold fiS
  rw [up3_ne (fun q => hy q.2.1), fndS_o 5 (fun q => hy q.2.1)]
theorem fsS_c {S : St} {i x : Nat} (h1 : x ≠ 1) (h8 : x ≠ 8) : fsS S i x = S x := (up3_c h8).trans (fndS_c h1 5)
theorem fsS_1 {S : St} {i y : Nat} (hy : y < 5) : fsS S i 1 i y = shv S i y := (up3_ne (by omega)).trans (fndS_i 5 hy)
theorem fiS_1 {S : St} {i y : Nat} (hy : y < 5) : fiS S i 1 i y = S 6 i y := (up3_ne (by omega)).trans (fndS_i 5 hy)
theorem inv_te {S : St} {n : Nat → Nat} {i : Nat} (hI : Inv S n) (hi : i < n 0) : Inv (teS S n i) n := by
  have hI' := hI
  obtain ⟨⟨⟨w0, w1, w2, w3, w4, w5, w6, w7, hKI, hEI, hKY⟩, hNE, hCH, hBL⟩, hD0, hD1, hD2, hB01, hF30, hK8, hMK, hU1, hU2, hS10, hEO, hCF, hFT, hME, hYR, hEK, hLA⟩ := hI'
  have hc : ∀ x, x ≠ 15 → x ≠ 30 → x ≠ 31 → teS S n i x = sbfS (fsS S i) n i 110 x := fun x _ h1 h2 => teS_c x h1 h2
  have h30 : ∀ y, y < 5 → teS S n i 30 i y = shv S i y := fun y hy => by
    unfold teS
    rw [up3_c (by decide), fm_i 5 hy]
  refine inv_stl hI hi (T := fsS S i) (fun x h1 h8 => fsS_c h1 h8) (fun x y z hy => fsS_o hy) (fun x a b c => hc x a b c) (fun y z hy => ?_) (fun y z hy => ?_) (IA_sbf (T := fsS S i) w2 (Or.inl rfl) (up3_self) (by rw [fsS_c (by decide) (by decide)]; exact (hB01 i).2.1) hc (fun y hy => by rw [h30 y hy, fsS_1 hy]) (fun y hy => by rw [fsS_1 hy]; exact shv_b hI hi hy) up3_self)
  · unfold teS
    rw [up3_c (by decide), fm_y hy]
    unfold sbfS
    rw [stlS_30, fsS_c (by decide) (by decide)]
  · unfold teS
    rw [up3_ne (fun q => hy q.2.1), fm_c (by decide)]
    unfold sbfS
    rw [stlS_31, fsS_c (by decide) (by decide)]
/-- what an examination leaves, whatever becomes of money -/
theorem inv_ex {S S2 : St} {n : Nat → Nat} {i : Nat} (hI : Inv S n) (hi : i < n 0) (he : ∀ x, x ≠ 15 → S2 x = exJ S n i x) : Inv S2 n := by
  have hI' := hI
  obtain ⟨⟨⟨w0, w1, w2, w3, w4, w5, w6, w7, hKI, hEI, hKY⟩, hNE, hCH, hBL⟩, hD0, hD1, hD2, hB01, hF30, hK8, hMK, hU1, hU2, hS10, hEO, hCF, hFT, hME, hYR, hEK, hLA⟩ := hI'
  have h30 : ∀ y, y < 5 → S2 30 i y = S 6 i y := fun y hy => by
    rw [he 30 (by decide)]
    unfold exJ
    rw [up3_c (by decide), fm_i 5 hy]
  have o30 : ∀ y z, y ≠ i → S2 30 y z = exS S n i 30 y z := fun y z hy => by
    rw [he 30 (by decide)]
    unfold exJ
    rw [up3_c (by decide), fm_y hy]
  have o31 : ∀ y z, y ≠ i → S2 31 y z = exS S n i 31 y z := fun y z hy => by
    rw [he 31 (by decide)]
    unfold exJ
    rw [up3_ne (fun q => hy q.2.1), fm_c (by decide)]
  have e30 : exS S n i 30 = S 30 := exS_c (by decide) (by decide) (by decide) (by decide) (by decide) (by decide) (by decide) (by decide)
  have e31 : exS S n i 31 = S 31 := exS_c (by decide) (by decide) (by decide) (by decide) (by decide) (by decide) (by decide) (by decide)
  have h31 : S2 31 i 0 = cif (hidP S i) (S 23 0 0 + 2) (-1) := by
    rw [he 31 (by decide)]
    unfold exJ
    rw [up3_self]
  have f23 : fiS S i 23 = S 23 := fiS_c (by decide) (by decide)
  have hme : ∀ y, y < 5 → 0 ≤ fiS S i 1 i y ∧ fiS S i 1 i y ≤ 100 := fun y hy => by rw [fiS_1 hy]; exact (hME i y hi hy).1
  by_cases hz : hidP S i
  · have ee : exS S n i = stlS (fiS S i) i (-1) 120 (n 3) := by unfold exS; rw [cif_t hz]
    have hc : ∀ x, x ≠ 15 → x ≠ 30 → x ≠ 31 → S2 x = stlS (fiS S i) i (-1) 120 (n 3) x := fun x a b c => by rw [he x a, exJ_c x b c, ee]
    rw [cif_t hz] at h31
    exact inv_stl hI hi (T := fiS S i) (fun x h1 h8 => fiS_c h1 h8) (fun x y z hy => fiS_o hy) hc (fun y z hy => by rw [o30 y z hy, e30]) (fun y z hy => by rw [o31 y z hy, e31])
      (IA_no (T := fiS S i) (Or.inr up3_self) (Or.inl ⟨rfl, by rw [f23]; exact h31, by rw [f23]; exact yr_ne hYR⟩) hc (fun _ y hy => by rw [h30 y hy, fiS_1 hy]) (fun _ => hme))
  · have ee : exS S n i = sbfS (fiS S i) n i 99 := by unfold exS; rw [cif_f hz]
    have hc : ∀ x, x ≠ 15 → x ≠ 30 → x ≠ 31 → S2 x = sbfS (fiS S i) n i 99 x := fun x a b c => by rw [he x a, exJ_c x b c, ee]
    rw [cif_f hz] at h31
    exact inv_stl hI hi (T := fiS S i) (fun x h1 h8 => fiS_c h1 h8) (fun x y z hy => fiS_o hy) hc (fun y z hy => by rw [o30 y z hy, e30]) (fun y z hy => by rw [o31 y z hy, e31])
      (IA_sbf (T := fiS S i) w2 (Or.inr rfl) up3_self (by rw [fiS_c (by decide) (by decide)]; exact (hB01 i).2.1) hc (fun y hy => by rw [h30 y hy, fiS_1 hy]) hme h31)
theorem inv_test {S : St} {n : Nat → Nat} {x y z : Int32} (hI : Inv S n) (h0 : cd_test S n x y z = 0) : Inv (teS S n (ci x)) n := by
  have w0 := hI.1.1.1
  exact inv_te hI (ix_c (by omega) (z_t (by decide) h0).1.1).1
theorem inv_watch {S : St} {n : Nat → Nat} {x : Int32} (hI : Inv S n) (h0 : cd_watch S n x = 0) : Inv (exJ S n (ci x)) n := by
  have w0 := hI.1.1.1
  exact inv_ex hI (ix_c (by omega) (z_t (by decide) h0).1).1 (fun _ _ => rfl)
theorem inv_protest {S : St} {n : Nat → Nat} {x y : Int32} (hI : Inv S n) (h0 : cd_protest S n x y = 0) : Inv (prS S n (ci x) (ci y)) n := by
  have w0 := hI.1.1.1
  refine inv_ex hI (ix_c (by omega) (z_t (by decide) h0).1.2).1 (fun c hc => ?_)
  unfold prS
  by_cases h : exS S n (ci y) 10 (ci y) 0 = S 10 (ci y) 0
  · rw [cif_t h, up3_c hc]
  · rw [cif_f h]
-- the next year
theorem inv_yr {S : St} {n : Nat → Nat} (hI : Inv S n) (h : S 23 0 0 < 40) : Inv (up3 S 23 0 0 (S 23 0 0 + 1)) n := by
  obtain ⟨⟨⟨w0, w1, w2, w3, w4, w5, w6, w7, hKI, hEI, hKY⟩, hNE, hCH, hBL⟩, hD0, hD1, hD2, hB01, hF30, hK8, hMK, hU1, hU2, hS10, hEO, hCF, hFT, hME, hYR, hEK, hLA⟩ := hI
  refine ⟨⟨⟨w0, w1, w2, w3, w4, w5, w6, w7, hKI, hEI, hKY⟩, hNE, hCH, hBL⟩, hD0, hD1, hD2, hB01, hF30, hK8, hMK, hU1, hU2, hS10, hEO, hCF, hFT, hME, ?_, hEK, hLA⟩
  rw [up3_self]
  obtain ⟨a, ha, e⟩ := nI_of2 (M := 40) (n := 40) (by decide) (Int32.not_lt.mpr hYR.1) hYR.2
  rw [e] at h ⊢
  have : a < 40 := (nI_ltI (by omega) (by decide)).mp (show nI a < nI 40 from h)
  rw [nI_1]
  exact ⟨nI_pos' (by omega), (nI_leI (a := a + 1) (b := 40) (by omega) (by decide)).mpr (by omega)⟩
theorem inv_ew {S : St} {n : Nat → Nat} {i : Nat} (hI : Inv S n) (hi : i < n 0) (hw : waitP S i) : Inv (up3 (ewS S n i) 31 i 0 (-1)) n := by
  have hI' := hI
  obtain ⟨⟨⟨w0, w1, w2, w3, w4, w5, w6, w7, hKI, hEI, hKY⟩, hNE, hCH, hBL⟩, hD0, hD1, hD2, hB01, hF30, hK8, hMK, hU1, hU2, hS10, hEO, hCF, hFT, hME, hYR, hEK, hLA⟩ := hI'
  have e30 : ewS S n i 30 = S 30 := ewS_c (by decide) (by decide) (by decide) (by decide) (by decide) (by decide)
  have e31 : ewS S n i 31 = S 31 := ewS_c (by decide) (by decide) (by decide) (by decide) (by decide) (by decide)
  have o30 : ∀ y z, y ≠ i → up3 (ewS S n i) 31 i 0 (-1) 30 y z = S 30 y z := fun y z _ => by rw [up3_c (by decide), e30]
  have o31 : ∀ y z, y ≠ i → up3 (ewS S n i) 31 i 0 (-1) 31 y z = S 31 y z := fun y z hy => by rw [up3_ne (fun q => hy q.2.1), e31]
  have h30 : ¬ S 8 i 0 = 0 → ∀ y, y < 5 → up3 (ewS S n i) 31 i 0 (-1) 30 i y = S 1 i y := fun h y hy => by rw [up3_c (by decide), e30, hF30 i hi h y hy]
  have hme : ¬ S 8 i 0 = 0 → ∀ y, y < 5 → 0 ≤ S 1 i y ∧ S 1 i y ≤ 100 := fun h y hy => by rw [hF30 i hi h y hy]; exact (hME i y hi hy).2.2 h
  by_cases hz : S 9 i 0 = 120
  · have hc : ∀ x, x ≠ 15 → x ≠ 30 → x ≠ 31 → up3 (ewS S n i) 31 i 0 (-1) x = stlS S i (-1) 45 (n 3) x := fun x _ _ c => by
      rw [up3_c c]; unfold ewS; rw [cif_t hz]
    exact inv_stl hI hi (T := S) (fun _ _ _ => rfl) (fun _ _ _ _ => rfl) hc o30 o31 (IA_no (hB01 i).1 (Or.inr ⟨Or.inl rfl, up3_self⟩) hc h30 hme)
  · have hc : ∀ x, x ≠ 15 → x ≠ 30 → x ≠ 31 → up3 (ewS S n i) 31 i 0 (-1) x = sbfS S n i 99 x := fun x _ _ c => by
      rw [up3_c c]; unfold ewS; rw [cif_f hz]
    have h8 := (hK8 i hi (hMK i hi (Or.inr (Or.inr (hw.resolve_left hz))))).1
    exact inv_stl hI hi (T := S) (fun _ _ _ => rfl) (fun _ _ _ _ => rfl) hc o30 o31 (IA_sbf w2 (Or.inr rfl) ((hB01 i).1.resolve_left h8) (hB01 i).2.1 hc (h30 h8) (hme h8) up3_self)
theorem inv_ne {S : St} {n : Nat → Nat} (hI : Inv S n) : ∀ c, c ≤ n 0 → Inv (neS S n c) n
  | 0, _ => hI
  | c + 1, hc => by
    have ih := inv_ne hI c (by omega)
    by_cases h : neP (neS S n c) c
    · rw [neS_t h]; exact inv_ew ih hc h.1
    · rw [neS_f h]; exact ih
theorem inv_next {S : St} {n : Nat → Nat} (hI : Inv S n) (h0 : cd_next S = 0) : Inv (nxtS S n) n := inv_ne (inv_yr hI (z_t (by decide) h0).1) (n 0) (Nat.le_refl _)
