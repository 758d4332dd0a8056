/-! .. 3: the other methods. -/
theorem bel_bit {x : Int32} {j q : Nat} (hj : j < 32) (h : belowP x (nI j)) (hq : q < 32) (hb : bitP x (nI q)) : q < j := by
  rw [bit_iff hq] at hb
  by_cases hqj : q < j
  · exact hqj
  · exfalso
    have h1 := b_ushr j hj x (q - j)
    unfold belowP ushr at h
    rw [h, b_0, show j + (q - j) = q by omega, hb] at h1
    cases h1
section AT
variable (S : St) (i : Nat) (x : Int32)
theorem at_o {c y z : Nat} (hc : ¬ c = 0) (hy : y ≠ i) : atS S i x c y z = S c y z := by
  unfold atS nwA
  rw [up3_ne (fun q => hc q.1), up3_ne (fun q => hy q.2.1), fndS_o 5 (fun q => hy q.2.1), up3_ne (fun q => hy q.2.1), up3_ne (fun q => hy q.2.1), up3_ne (fun q => hy q.2.1), nwL_o hy, up3_ne (fun q => hy q.2.1)]
theorem at_c {c : Nat} (a0 : ¬ c = 0) (a1 : ¬ c = 1) (a2 : ¬ c = 2) (a5 : ¬ c = 5) (a6 : ¬ c = 6) (a7 : ¬ c = 7) (a9 : ¬ c = 9) (a10 : ¬ c = 10) (a31 : ¬ c = 31) : atS S i x c = S c := by
  unfold atS nwA
  rw [up3_c a0, up3_c a2, fndS_c a1, up3_c a31, up3_c a10, up3_c a9, nwL_c a6 a7, up3_c a5]
theorem at_nw {c y z : Nat} (a0 : ¬ c = 0) (a1 : ¬ c = 1) (a2 : ¬ c = 2) : atS S i x c y z = nwA S i x c y z := by
  unfold atS
  rw [up3_c a0, up3_c a2, fndS_c a1]
theorem at_9 : atS S i x 9 i 0 = 45 := by
  rw [at_nw S i x (by decide) (by decide) (by decide)]
  unfold nwA
  rw [up3_ne (by omega), up3_ne (by omega), up3_self]
theorem at_10 : atS S i x 10 i 0 = -1 := by
  rw [at_nw S i x (by decide) (by decide) (by decide)]
  unfold nwA
  rw [up3_ne (by omega), up3_self]
theorem at_31 : atS S i x 31 i 0 = -1 := by
  rw [at_nw S i x (by decide) (by decide) (by decide)]
  unfold nwA
  rw [up3_self]
theorem at_5 : atS S i x 5 i 0 = x := by
  rw [at_nw S i x (by decide) (by decide) (by decide)]
  unfold nwA
  rw [up3_ne (by omega), up3_ne (by omega), up3_ne (by omega), nwL_c (by decide) (by decide), up3_self]
theorem at_6 {y : Nat} (hy : y < 5) : atS S i x 6 i y = 100 := by
  rw [at_nw S i x (by decide) (by decide) (by decide)]
  unfold nwA
  rw [up3_ne (by omega), up3_ne (by omega), up3_ne (by omega), nwL_6 5 y hy]
theorem at_7 {y : Nat} (hy : y < 5) : atS S i x 7 i y = -1 := by
  rw [at_nw S i x (by decide) (by decide) (by decide)]
  unfold nwA
  rw [up3_ne (by omega), up3_ne (by omega), up3_ne (by omega), nwL_7 5 y hy]
end AT
theorem inv_body {S : St} {n : Nat → Nat} {x y z : Int32} (hI : Inv S n) (h0 : cd_body n x y z = 0) : Inv (up_body S x y z) n := by
  have hI' := hI
  obtain ⟨⟨⟨w0, w1, w2, w3, w4, w5, w6, w7, hKI, hEI, hKY⟩, hNE, hCH, hBL⟩, hD0, hD1, hD2, hB01, hF30, hK8, hMK, hU1, hU2, hS10, hEO, hCF, hFT, hME, hYR, hEK, hLA⟩ := hI'
  obtain ⟨h1, h0⟩ := z_t (by decide) h0
  obtain ⟨⟨h2, h3⟩, -⟩ := z_t (by decide) h0
  refine ⟨⟨⟨w0, w1, w2, w3, w4, w5, w6, w7, hKI, hEI, hKY⟩, hNE, hCH, hBL⟩, hD0, hD1, hD2, hB01, hF30, hK8, hMK, hU1, hU2, hS10, hEO, hCF, hFT, ?_, hYR, hEK, hLA⟩
  · intro i c hi hc
    refine ⟨?_, (hME i c hi hc).2⟩
    show 0 ≤ up3 S 6 (ci x) (ci y) z 6 i c ∧ up3 S 6 (ci x) (ci y) z 6 i c ≤ 100
    by_cases hz : i = ci x ∧ c = ci y
    · obtain ⟨rfl, rfl⟩ := hz; rw [up3_self]; exact h3
    · rw [up3_ne (fun q => hz q.2)]; exact (hME i c hi hc).1
theorem inv_show {S : St} {n : Nat → Nat} {x y z : Int32} (hI : Inv S n) (h0 : cd_show n x y z = 0) : Inv (up_show S x y z) n := by
  have hI' := hI
  obtain ⟨⟨⟨w0, w1, w2, w3, w4, w5, w6, w7, hKI, hEI, hKY⟩, hNE, hCH, hBL⟩, hD0, hD1, hD2, hB01, hF30, hK8, hMK, hU1, hU2, hS10, hEO, hCF, hFT, hME, hYR, hEK, hLA⟩ := hI'
  obtain ⟨h1, h0⟩ := z_t (by decide) h0
  obtain ⟨⟨h2, h3⟩, -⟩ := z_t (by decide) h0
  refine ⟨⟨⟨w0, w1, w2, w3, w4, w5, w6, w7, hKI, hEI, hKY⟩, hNE, hCH, hBL⟩, hD0, hD1, hD2, hB01, hF30, hK8, hMK, hU1, hU2, hS10, hEO, hCF, hFT, ?_, hYR, hEK, hLA⟩
  · intro i c hi hc
    refine ⟨(hME i c hi hc).1, ?_, (hME i c hi hc).2.2⟩
    show -1 ≤ up3 S 7 (ci x) (ci y) z 7 i c ∧ up3 S 7 (ci x) (ci y) z 7 i c ≤ 100
    by_cases hz : i = ci x ∧ c = ci y
    · obtain ⟨rfl, rfl⟩ := hz; rw [up3_self]; exact m1_iff.mpr h3
    · rw [up3_ne (fun q => hz q.2)]; exact (hME i c hi hc).2.1
theorem inv_factor {S : St} {n : Nat → Nat} {x y z : Int32} (hI : Inv S n) (h0 : cd_factor S n x y z = 0) : Inv (up_factor S x y z) n := by
  have hI' := hI
  obtain ⟨⟨⟨w0, w1, w2, w3, w4, w5, w6, w7, hKI, hEI, hKY⟩, hNE, hCH, hBL⟩, hD0, hD1, hD2, hB01, hF30, hK8, hMK, hU1, hU2, hS10, hEO, hCF, hFT, hME, hYR, hEK, hLA⟩ := hI'
  obtain ⟨⟨h1, -⟩, -⟩ := z_t (by decide) h0
  have hx := (ix_c (by omega) h1).1
  refine ⟨⟨⟨w0, w1, w2, w3, w4, w5, w6, w7, hKI, hEI, hKY⟩, hNE, hCH, hBL⟩, hD0, hD1, ?_, hB01, hF30, hK8, hMK, hU1, hU2, hS10, hEO, hCF, hFT, hME, hYR, hEK, hLA⟩
  · intro e he
    refine ⟨(hD2 e he).1, (hD2 e he).2.1, fun q => ?_⟩
    show up3 S 17 (ci x) (ci y) z 17 e q = 100
    rw [up3_ne (by omega)]; exact (hD2 e he).2.2 q
theorem inv_begin {S : St} {n : Nat → Nat} {x : Int32} (hI : Inv S n) (h0 : cd_begin S n x = 0) : Inv (up3 S 18 (ci x) 0 1) n := by
  have hI' := hI
  obtain ⟨⟨⟨w0, w1, w2, w3, w4, w5, w6, w7, hKI, hEI, hKY⟩, hNE, hCH, hBL⟩, hD0, hD1, hD2, hB01, hF30, hK8, hMK, hU1, hU2, hS10, hEO, hCF, hFT, hME, hYR, hEK, hLA⟩ := hI'
  obtain ⟨h1, -⟩ := z_t (by decide) h0
  have hx := (ix_c (by omega) h1).1
  refine ⟨⟨⟨w0, w1, w2, w3, w4, w5, w6, w7, hKI, hEI, hKY⟩, hNE, hCH, hBL⟩, hD0, hD1, ?_, ?_, hF30, hK8, hMK, hU1, hU2, hS10, hEO, hCF, hFT, hME, hYR, hEK, hLA⟩
  · intro e he
    refine ⟨?_, (hD2 e he).2⟩
    rw [up3_ne (by omega)]; exact (hD2 e he).1
  · intro e
    refine ⟨(hB01 e).1, (hB01 e).2.1, ?_, (hB01 e).2.2.2⟩
    by_cases hz : e = ci x
    · subst hz; rw [up3_self]; exact Or.inr rfl
    · rw [up3_ne (fun q => hz q.2.1)]; exact (hB01 e).2.2.1
theorem inv_close {S : St} {n : Nat → Nat} {x : Int32} (hI : Inv S n) (h0 : cd_close S n x = 0) : Inv (up3 S 19 (ci x) 0 1) n := by
  have hI' := hI
  obtain ⟨⟨⟨w0, w1, w2, w3, w4, w5, w6, w7, hKI, hEI, hKY⟩, hNE, hCH, hBL⟩, hD0, hD1, hD2, hB01, hF30, hK8, hMK, hU1, hU2, hS10, hEO, hCF, hFT, hME, hYR, hEK, hLA⟩ := hI'
  obtain ⟨h1, -⟩ := z_t (by decide) h0
  have hx := (ix_c (by omega) h1).1
  refine ⟨⟨⟨w0, w1, w2, w3, w4, w5, w6, w7, hKI, hEI, hKY⟩, hNE, hCH, hBL⟩, hD0, hD1, ?_, ?_, hF30, hK8, hMK, hU1, hU2, hS10, ?_, hCF, hFT, hME, hYR, hEK, hLA⟩
  · intro e he
    refine ⟨(hD2 e he).1, ?_, (hD2 e he).2.2⟩
    rw [up3_ne (by omega)]; exact (hD2 e he).2.1
  · intro e
    refine ⟨(hB01 e).1, (hB01 e).2.1, (hB01 e).2.2.1, ?_⟩
    by_cases hz : e = ci x
    · subst hz; rw [up3_self]; exact Or.inr rfl
    · rw [up3_ne (fun q => hz q.2.1)]; exact (hB01 e).2.2.2
  · intro e a h20 h19 h21
    by_cases hz : e = ci x
    · subst hz; rw [up3_self] at h19; exact absurd h19 (by decide)
    · rw [up3_ne (fun q => hz q.2.1)] at h19; exact hEO e a h20 h19 h21
theorem inv_swap {S : St} {n : Nat → Nat} {x y z : Int32} (hI : Inv S n) (h0 : cd_swap S n x y z = 0) : Inv (up_swap S y z) n := by
  have hI' := hI
  obtain ⟨⟨⟨w0, w1, w2, w3, w4, w5, w6, w7, hKI, hEI, hKY⟩, hNE, hCH, hBL⟩, hD0, hD1, hD2, hB01, hF30, hK8, hMK, hU1, hU2, hS10, hEO, hCF, hFT, hME, hYR, hEK, hLA⟩ := hI'
  obtain ⟨⟨-, h1, h2⟩, h0⟩ := z_t (by decide) h0
  obtain ⟨-, h0⟩ := z_t (by decide) h0
  obtain ⟨⟨h3, -⟩, -⟩ := z_t (by decide) h0
  have hy := (ix_c (by omega) h1).1
  have hz := (ix_c (by omega) h2).1
  refine ⟨⟨⟨w0, w1, w2, w3, w4, w5, w6, w7, hKI, hEI, hKY⟩, hNE, hCH, hBL⟩, ?_, hD1, hD2, ?_, hF30, hK8, hMK, hU1, hU2, ?_, hEO, hCF, hFT, hME, hYR, hEK, hLA⟩
  · intro i hi
    refine ⟨(hD0 i hi).1, ?_⟩
    show up3 (up3 S 11 (ci y) 0 0) 11 (ci z) 0 1 11 i 0 = 0
    rw [up3_ne (by omega), up3_ne (by omega)]; exact (hD0 i hi).2
  · intro i
    refine ⟨(hB01 i).1, ?_, (hB01 i).2.2⟩
    show up3 (up3 S 11 (ci y) 0 0) 11 (ci z) 0 1 11 i 0 = 0 ∨ up3 (up3 S 11 (ci y) 0 0) 11 (ci z) 0 1 11 i 0 = 1
    by_cases hz : i = ci z
    · subst hz; rw [up3_self]; exact Or.inr rfl
    · rw [up3_ne (fun q => hz q.2.1)]
      by_cases hy : i = ci y
      · subst hy; rw [up3_self]; exact Or.inl rfl
      · rw [up3_ne (fun q => hy q.2.1)]; exact (hB01 i).2.1
  · intro i hi
    show ¬ up3 (up3 S 11 (ci y) 0 0) 11 (ci z) 0 1 11 i 0 = 0 → ¬ S 10 i 0 = -1
    by_cases hz : i = ci z
    · subst hz; exact fun _ => h3
    · rw [up3_ne (fun q => hz q.2.1)]
      by_cases hy : i = ci y
      · subst hy; rw [up3_self]; exact fun h => absurd rfl h
      · rw [up3_ne (fun q => hy q.2.1)]; exact hS10 i hi
theorem inv_classifier {S : St} {n : Nat → Nat} {x : Int32} (hI : Inv S n) (h0 : cd_classifier n x = 0) : Inv (clS S (n 1) x) (nUp n 1) := by
  have hI' := hI
  obtain ⟨⟨⟨w0, w1, w2, w3, w4, w5, w6, w7, hKI, hEI, hKY⟩, hNE, hCH, hBL⟩, hD0, hD1, hD2, hB01, hF30, hK8, hMK, hU1, hU2, hS10, hEO, hCF, hFT, hME, hYR, hEK, hLA⟩ := hI'
  obtain ⟨-, h0⟩ := z_t (by decide) h0
  obtain ⟨h1, -⟩ := z_t (by decide) h0
  have n0 : ∀ a, ¬ a = 1 → ¬ a = 5 → nUp n 1 a = n a := fun a h1 h2 => if_neg (fun h => h.elim h1 h2)
  have n1 : nUp n 1 1 = n 1 + 1 := if_pos (Or.inl rfl)
  have n2 : nUp n 1 5 = n 1 + 1 := if_pos (Or.inr rfl)
  refine ⟨⟨⟨w0, ?_, w2, w3, w4, ?_, w6, w7, hKI, hEI, hKY⟩, hNE, hCH, hBL⟩, hD0, hD1, hD2, hB01, hF30, hK8, hMK, hU1, hU2, hS10, hEO, hCF, hFT, hME, hYR, hEK, hLA⟩
  · rw [n1]; exact h1
  · rw [n2, n1]
theorem inv_kind {S : St} {n : Nat → Nat} {x y z w : Int32} (hI : Inv S n) (h0 : cd_kind n x y z w = 0) : Inv (kiS S (n 2) x y z w) (nUp n 2) := by
  have hI' := hI
  obtain ⟨⟨⟨w0, w1, w2, w3, w4, w5, w6, w7, hKI, hEI, hKY⟩, hNE, hCH, hBL⟩, hD0, hD1, hD2, hB01, hF30, hK8, hMK, hU1, hU2, hS10, hEO, hCF, hFT, hME, hYR, hEK, hLA⟩ := hI'
  obtain ⟨⟨hx, -⟩, h0⟩ := z_t (by decide) h0
  obtain ⟨h1, -⟩ := z_t (by decide) h0
  have n0 : ∀ a, ¬ a = 2 → ¬ a = 6 → nUp n 2 a = n a := fun a h1 h2 => if_neg (fun h => h.elim h1 h2)
  have n1 : nUp n 2 2 = n 2 + 1 := if_pos (Or.inl rfl)
  have n2 : nUp n 2 6 = n 2 + 1 := if_pos (Or.inr rfl)
  have e13 : ∀ q, q < n 2 → kiS S (n 2) x y z w 13 q = S 13 q := fun q hq => by
    funext c
    unfold kiS kiM
    rw [up3_c (by decide), up3_ne (by omega), up3_ne (by omega), up3_ne (by omega), up3_ne (by omega)]
  refine ⟨⟨⟨w0, w1, ?_, w3, w4, w5, ?_, w7, ?_, ?_, ?_⟩, hNE, hCH, hBL⟩, hD0, ?_, hD2, hB01, hF30, hK8, hMK, hU1, hU2, hS10, hEO, ?_, hFT, hME, hYR, ?_, hLA⟩
  · rw [n1]; exact h1
  · rw [n2, n1]
  · intro i hi
    rw [n1]
    rcases hKI i hi with h | ⟨q, hq, h⟩
    · exact Or.inl h
    · exact Or.inr ⟨q, by omega, h⟩
  · intro e a
    rw [n1]
    rcases hEI e a with h | ⟨h2, h3, q, hq, h⟩
    · exact Or.inl h
    · exact Or.inr ⟨h2, h3, q, by omega, h⟩
  · intro q hq
    rw [n1] at hq
    by_cases hz : q < n 2
    · rw [e13 q hz]; exact hKY q hz
    · obtain rfl : q = n 2 := by omega
      obtain ⟨c, hc, e⟩ := hx
      refine ⟨c, hc, ?_⟩
      show kiS S (n 2) x y z w 13 (n 2) 0 = nI c
      unfold kiS kiM
      rw [up3_c (by decide), up3_ne (by omega), up3_ne (by omega), up3_ne (by omega), up3_self]; exact e
  · intro q hq
    rw [n1] at hq
    exact hD1 q (by omega)
  · intro i hi h9
    obtain ⟨q, hq, h2, h3⟩ := hCF i hi h9
    refine ⟨q, by rw [n1]; omega, h2, ?_⟩
    unfold holdsP at h3 ⊢
    rw [e13 q hq]; exact h3
  · intro e q he hq hb
    rw [n1]
    exact Nat.lt_succ_of_lt (hEK e q he hq hb)
theorem inv_athlete {S : St} {n : Nat → Nat} {x : Int32} (hI : Inv S n) (h0 : cd_athlete n x = 0) : Inv (atS S (n 0) x) (nUp n 0) := by
  have hI' := hI
  obtain ⟨⟨⟨w0, w1, w2, w3, w4, w5, w6, w7, hKI, hEI, hKY⟩, hNE, hCH, hBL⟩, hD0, hD1, hD2, hB01, hF30, hK8, hMK, hU1, hU2, hS10, hEO, hCF, hFT, hME, hYR, hEK, hLA⟩ := hI'
  obtain ⟨hx, h0⟩ := z_t (by decide) h0
  obtain ⟨h1, -⟩ := z_t (by decide) h0
  have n0 : ∀ a, ¬ a = 0 → ¬ a = 4 → nUp n 0 a = n a := fun a h1 h2 => if_neg (fun h => h.elim h1 h2)
  have n1 : nUp n 0 0 = n 0 + 1 := if_pos (Or.inl rfl)
  have n2 : nUp n 0 4 = n 0 + 1 := if_pos (Or.inr rfl)
  have o : ∀ c y z, ¬ c = 0 → y ≠ n 0 → atS S (n 0) x c y z = S c y z := fun c y z hc hy => at_o S (n 0) x hc hy
  have e : ∀ c, ¬ c = 0 → ¬ c = 1 → ¬ c = 2 → ¬ c = 5 → ¬ c = 6 → ¬ c = 7 → ¬ c = 9 → ¬ c = 10 → ¬ c = 31 → atS S (n 0) x c = S c := fun c a0 a1 a2 a5 a6 a7 a9 a10 a31 => at_c S (n 0) x a0 a1 a2 a5 a6 a7 a9 a10 a31
  have e8 := e 8 (by decide) (by decide) (by decide) (by decide) (by decide) (by decide) (by decide) (by decide) (by decide)
  have e11 := e 11 (by decide) (by decide) (by decide) (by decide) (by decide) (by decide) (by decide) (by decide) (by decide)
  have e13 := e 13 (by decide) (by decide) (by decide) (by decide) (by decide) (by decide) (by decide) (by decide) (by decide)
  have e14 := e 14 (by decide) (by decide) (by decide) (by decide) (by decide) (by decide) (by decide) (by decide) (by decide)
  have e16 := e 16 (by decide) (by decide) (by decide) (by decide) (by decide) (by decide) (by decide) (by decide) (by decide)
  have e17 := e 17 (by decide) (by decide) (by decide) (by decide) (by decide) (by decide) (by decide) (by decide) (by decide)
  have e18 := e 18 (by decide) (by decide) (by decide) (by decide) (by decide) (by decide) (by decide) (by decide) (by decide)
  have e19 := e 19 (by decide) (by decide) (by decide) (by decide) (by decide) (by decide) (by decide) (by decide) (by decide)
  have e20 := e 20 (by decide) (by decide) (by decide) (by decide) (by decide) (by decide) (by decide) (by decide) (by decide)
  have e21 := e 21 (by decide) (by decide) (by decide) (by decide) (by decide) (by decide) (by decide) (by decide) (by decide)
  have e22 := e 22 (by decide) (by decide) (by decide) (by decide) (by decide) (by decide) (by decide) (by decide) (by decide)
  have e23 := e 23 (by decide) (by decide) (by decide) (by decide) (by decide) (by decide) (by decide) (by decide) (by decide)
  have e30 := e 30 (by decide) (by decide) (by decide) (by decide) (by decide) (by decide) (by decide) (by decide) (by decide)
  have a9 : atS S (n 0) x 9 (n 0) 0 = 45 := at_9 S (n 0) x
  have a10 : atS S (n 0) x 10 (n 0) 0 = -1 := at_10 S (n 0) x
  have a31 : atS S (n 0) x 31 (n 0) 0 = -1 := at_31 S (n 0) x
  have hm : ∀ i, ¬ i = n 0 → (mayP (atS S (n 0) x) i ↔ mayP S i) := fun i h => by unfold mayP; rw [o 9 i 0 (by decide) h]
  have hw : ∀ i, ¬ i = n 0 → (waitP (atS S (n 0) x) i ↔ waitP S i) := fun i h => by unfold waitP; rw [o 9 i 0 (by decide) h]
  have hm0 : ¬ mayP (atS S (n 0) x) (n 0) := by unfold mayP; rw [a9]; decide
  have hw0 : ¬ waitP (atS S (n 0) x) (n 0) := by unfold waitP; rw [a9]; decide
  refine ⟨⟨⟨?_, w1, w2, w3, ?_, w5, w6, w7, ?_, ?_, ?_⟩, ?_, ?_, ?_⟩, ?_, ?_, ?_, ?_, ?_, ?_, ?_, ?_, ?_, ?_, ?_, ?_, ?_, ?_, ?_, ?_, ?_⟩
  · rw [n1]; exact h1
  · rw [n2, n1]
  · intro i hi
    rw [n1] at hi
    by_cases hz : i = n 0
    · subst hz; exact Or.inl a10
    · rw [o 10 i 0 (by decide) hz]; exact hKI i (by omega)
  · intro c a
    rw [n1, e20]
    rcases hEI c a with h | ⟨h2, h3, h4⟩
    · exact Or.inl h
    · exact Or.inr ⟨h2, by omega, h4⟩
  · intro q hq; rw [e13]; exact hKY q hq
  · intro c a h; rw [e20] at h; rw [e21, e22]; exact hNE c a h
  · intro i
    by_cases hz : i = n 0
    · subst hz; rw [a9]; exact ⟨rfl, rfl⟩
    · rw [o 9 i 0 (by decide) hz]; exact hCH i
  · intro c a; rw [e21]; exact hBL c a
  · intro i hi; rw [n1] at hi; rw [e8, e11]; exact hD0 i (by omega)
  · intro q hq; rw [e14]; exact hD1 q hq
  · intro c hc; rw [e18, e19, e17]; exact hD2 c hc
  · intro i; rw [e8, e11, e18, e19]; exact hB01 i
  · intro i hi
    rw [n1] at hi
    rw [e8, e30]
    by_cases hz : i = n 0
    · subst hz; exact fun h => absurd (hD0 _ (Nat.le_refl _)).1 h
    · intro h y hy; rw [o 1 i y (by decide) hz]; exact hF30 i (by omega) h y hy
  · intro i hi
    rw [n1] at hi
    by_cases hz : i = n 0
    · subst hz; exact fun h => absurd a10 h
    · rw [o 10 i 0 (by decide) hz, e8, hm i hz]; exact hK8 i (by omega)
  · intro i hi
    rw [n1] at hi
    by_cases hz : i = n 0
    · subst hz; exact fun h => absurd h hm0
    · rw [o 10 i 0 (by decide) hz, hm i hz]; exact hMK i (by omega)
  · intro i hi
    rw [n1] at hi
    by_cases hz : i = n 0
    · subst hz; exact fun h => absurd h hw0
    · rw [o 2 i 0 (by decide) hz, o 31 i 0 (by decide) hz, hw i hz]; exact hU1 i (by omega)
  · intro i hi
    rw [n1] at hi
    by_cases hz : i = n 0
    · subst hz; exact fun _ => a31
    · rw [o 31 i 0 (by decide) hz, hw i hz]; exact hU2 i (by omega)
  · intro i hi
    rw [n1] at hi
    rw [e11]
    by_cases hz : i = n 0
    · subst hz; exact fun h => absurd (hD0 _ (Nat.le_refl _)).2 h
    · rw [o 10 i 0 (by decide) hz]; exact hS10 i (by omega)
  · intro c a h20 h19 h21
    rw [e20] at h20 ⊢
    rw [e19] at h19
    rw [e21] at h21
    have ha := (ent_lt hI.1.1 h20).2.1
    rw [o 10 a 0 (by decide) (by omega)]; exact hEO c a h20 h19 h21
  · intro i hi
    rw [n1] at hi
    by_cases hz : i = n 0
    · subst hz; rw [a9]; exact fun h => absurd h (by decide)
    · rw [o 9 i 0 (by decide) hz, o 10 i 0 (by decide) hz]
      intro h9
      obtain ⟨q, q1, q2, q3⟩ := hCF i (by omega) h9
      exact ⟨q, q1, q2, holds_S e13 (fMea2 (fun y => o 1 i y (by decide) hz)) q3⟩
  · intro c a; rw [e21, e22]; exact hFT c a
  · intro i y hi hy
    rw [n1] at hi
    rw [e8, e30]
    by_cases hz : i = n 0
    · subst hz
      rw [at_6 S (n 0) x hy, at_7 S (n 0) x hy]
      exact ⟨by decide, by decide, fun h => absurd (hD0 _ (Nat.le_refl _)).1 h⟩
    · rw [o 6 i y (by decide) hz, o 7 i y (by decide) hz]; exact hME i y (by omega) hy
  · rw [e23]; exact hYR
  · intro c q hc hq; rw [e16]; exact hEK c q hc hq
  · intro i hi
    rw [n1] at hi
    by_cases hz : i = n 0
    · subst hz; rw [at_5 S (n 0) x]; exact hx
    · rw [o 5 i 0 (by decide) hz]; exact hLA i (by omega)
theorem inv_enter {S : St} {n : Nat → Nat} {x y : Int32} (hI : Inv S n) (h0 : cd_enter S n x y = 0) : Inv (enS S (ci x) (ci y)) n := by
  have hI' := hI
  obtain ⟨⟨⟨w0, w1, w2, w3, w4, w5, w6, w7, hKI, hEI, hKY⟩, hNE, hCH, hBL⟩, hD0, hD1, hD2, hB01, hF30, hK8, hMK, hU1, hU2, hS10, hEO, hCF, hFT, hME, hYR, hEK, hLA⟩ := hI'
  obtain ⟨⟨h1, h2⟩, h0⟩ := z_t (by decide) h0
  obtain ⟨⟨-, h4, -, h6, -⟩, -⟩ := z_t (by decide) h0
  have hx := (ix_c (by omega) h1).1
  have hy := (ix_c (by omega) h2).1
  refine ⟨⟨⟨w0, w1, w2, w3, w4, w5, w6, w7, hKI, ?_, hKY⟩, ?_, hCH, hBL⟩, hD0, hD1, hD2, hB01, hF30, hK8, hMK, hU1, hU2, hS10, ?_, hCF, hFT, hME, hYR, hEK, hLA⟩
  · intro e a
    show up3 S 20 (ci x) (ci y) (S 10 (ci y) 0) 20 e a = -1 ∨ (e < n 3 ∧ a < n 0 ∧ ∃ q, q < n 2 ∧ up3 S 20 (ci x) (ci y) (S 10 (ci y) 0) 20 e a = nI q)
    by_cases hz : e = ci x ∧ a = ci y
    · obtain ⟨rfl, rfl⟩ := hz; rw [up3_self]; exact Or.inr ⟨hx, hy, (hKI _ hy).resolve_left h6⟩
    · rw [up3_ne (fun q => hz q.2)]; exact hEI e a
  · intro e a
    show up3 S 20 (ci x) (ci y) (S 10 (ci y) 0) 20 e a = -1 → S 22 e a = -1 ∧ S 21 e a = 0
    by_cases hz : e = ci x ∧ a = ci y
    · obtain ⟨rfl, rfl⟩ := hz; rw [up3_self]; exact fun h => absurd h h6
    · rw [up3_ne (fun q => hz q.2)]; exact hNE e a
  · intro e a
    show ¬ up3 S 20 (ci x) (ci y) (S 10 (ci y) 0) 20 e a = -1 → S 19 e 0 = 0 → S 21 e a = 0 → S 10 a 0 = up3 S 20 (ci x) (ci y) (S 10 (ci y) 0) 20 e a
    by_cases hz : e = ci x ∧ a = ci y
    · obtain ⟨rfl, rfl⟩ := hz; rw [up3_self]; exact fun _ _ _ => rfl
    · rw [up3_ne (fun q => hz q.2)]; exact hEO e a
theorem inv_floor {S : St} {n : Nat → Nat} {x y : Int32} (hI : Inv S n) (h0 : cd_floor S n x y = 0) : Inv (puF S x y (n 0)) n := by
  have hI' := hI
  obtain ⟨⟨⟨w0, w1, w2, w3, w4, w5, w6, w7, hKI, hEI, hKY⟩, hNE, hCH, hBL⟩, hD0, hD1, hD2, hB01, hF30, hK8, hMK, hU1, hU2, hS10, hEO, hCF, hFT, hME, hYR, hEK, hLA⟩ := hI'
  obtain ⟨-, h0⟩ := z_t (by decide) h0
  obtain ⟨-, h0⟩ := z_t (by decide) h0
  obtain ⟨⟨h3, -⟩, -⟩ := z_t (by decide) h0
  have o : ∀ c, c ≠ 11 → puF S x y (n 0) c = S c := fun c hc => puF_o (n 0) hc
  have hm : ∀ i, mayP (puF S x y (n 0)) i ↔ mayP S i := fun i => by unfold mayP; rw [o 9 (by decide)]
  have hw : ∀ i, waitP (puF S x y (n 0)) i ↔ waitP S i := fun i => by unfold waitP; rw [o 9 (by decide)]
  refine ⟨⟨⟨w0, w1, w2, w3, w4, w5, w6, w7, ?_, ?_, ?_⟩, ?_, ?_, ?_⟩, ?_, ?_, ?_, ?_, ?_, ?_, ?_, ?_, ?_, ?_, ?_, ?_, ?_, ?_, ?_, ?_, ?_⟩
  · intro i hi; rw [o 10 (by decide)]; exact hKI i hi
  · intro e a; rw [o 20 (by decide)]; exact hEI e a
  · intro q hq; rw [o 13 (by decide)]; exact hKY q hq
  · intro e a; rw [o 20 (by decide), o 21 (by decide), o 22 (by decide)]; exact hNE e a
  · intro i; rw [o 9 (by decide)]; exact hCH i
  · intro e a; rw [o 21 (by decide)]; exact hBL e a
  · intro i hi; rw [o 8 (by decide), puF_at, cif_f (fun z => absurd z.1 (by omega))]; exact hD0 i hi
  · intro q hq; rw [o 14 (by decide)]; exact hD1 q hq
  · intro e he; rw [o 18 (by decide), o 19 (by decide), o 17 (by decide)]; exact hD2 e he
  · intro i
    rw [o 8 (by decide), o 18 (by decide), o 19 (by decide), puF_at]
    refine ⟨(hB01 i).1, ?_, (hB01 i).2.2⟩
    by_cases hz : i < n 0 ∧ S 5 i 0 = x
    · rw [cif_t hz]
      by_cases hb : bitP y (nI i)
      · rw [cif_t hb]; exact Or.inr rfl
      · rw [cif_f hb]; exact Or.inl rfl
    · rw [cif_f hz]; exact (hB01 i).2.1
  · intro i hi; rw [o 8 (by decide), o 1 (by decide), o 30 (by decide)]; exact hF30 i hi
  · intro i hi; rw [o 10 (by decide), o 8 (by decide), hm]; exact hK8 i hi
  · intro i hi; rw [o 10 (by decide), hm]; exact hMK i hi
  · intro i hi; rw [o 2 (by decide), o 31 (by decide), hw]; exact hU1 i hi
  · intro i hi; rw [o 31 (by decide), hw]; exact hU2 i hi
  · intro i hi
    rw [o 10 (by decide), puF_at]
    by_cases hz : i < n 0 ∧ S 5 i 0 = x
    · rw [cif_t hz]
      by_cases hb : bitP y (nI i)
      · exact fun _ => h3 i hi hb
      · rw [cif_f hb]; exact fun h => absurd rfl h
    · rw [cif_f hz]; exact hS10 i hi
  · intro e a; rw [o 20 (by decide), o 19 (by decide), o 21 (by decide), o 10 (by decide)]; exact hEO e a
  · intro i hi
    rw [o 9 (by decide), o 10 (by decide)]
    intro h9
    obtain ⟨q, q1, q2, q3⟩ := hCF i hi h9
    exact ⟨q, q1, q2, holds_S (o 13 (by decide)) (fMea2 (fun y => by rw [o 1 (by decide)])) q3⟩
  · intro e a; rw [o 21 (by decide), o 22 (by decide)]; exact hFT e a
  · intro i c hi hc; rw [o 6 (by decide), o 7 (by decide), o 8 (by decide), o 30 (by decide)]; exact hME i c hi hc
  · rw [o 23 (by decide)]; exact hYR
  · intro e q he hq; rw [o 16 (by decide)]; exact hEK e q he hq
  · intro i hi; rw [o 5 (by decide)]; exact hLA i hi
theorem inv_fall {S : St} {n : Nat → Nat} {e9 a9 : Nat} (hI : Inv S n) (h1 : ¬ S 20 e9 a9 = -1) : Inv (fallS S e9 a9) n := by
  have hI' := hI
  obtain ⟨⟨⟨w0, w1, w2, w3, w4, w5, w6, w7, hKI, hEI, hKY⟩, hNE, hCH, hBL⟩, hD0, hD1, hD2, hB01, hF30, hK8, hMK, hU1, hU2, hS10, hEO, hCF, hFT, hME, hYR, hEK, hLA⟩ := hI'
  refine ⟨⟨⟨w0, w1, w2, w3, w4, w5, w6, w7, hKI, hEI, hKY⟩, ?_, hCH, ?_⟩, hD0, hD1, hD2, hB01, hF30, hK8, hMK, hU1, hU2, hS10, ?_, hCF, ?_, hME, hYR, hEK, hLA⟩
  · intro e a h
    show up3 (up3 S 21 e9 a9 1) 22 e9 a9 (-1) 22 e a = -1 ∧ up3 (up3 S 21 e9 a9 1) 22 e9 a9 (-1) 21 e a = 0
    have hz : ¬ (e = e9 ∧ a = a9) := fun q => by obtain ⟨rfl, rfl⟩ := q; exact h1 h
    rw [up3_ne (fun q => hz q.2), up3_ne (by omega), up3_ne (by omega), up3_ne (fun q => hz q.2)]; exact hNE e a h
  · intro e a
    show up3 (up3 S 21 e9 a9 1) 22 e9 a9 (-1) 21 e a = 0 ∨ up3 (up3 S 21 e9 a9 1) 22 e9 a9 (-1) 21 e a = 1
    rw [up3_ne (by omega)]
    by_cases hz : e = e9 ∧ a = a9
    · obtain ⟨rfl, rfl⟩ := hz; rw [up3_self]; exact Or.inr rfl
    · rw [up3_ne (fun q => hz q.2)]; exact hBL e a
  · intro e a h20 h19
    show up3 (up3 S 21 e9 a9 1) 22 e9 a9 (-1) 21 e a = 0 → _
    rw [up3_ne (by omega)]
    by_cases hz : e = e9 ∧ a = a9
    · obtain ⟨rfl, rfl⟩ := hz; rw [up3_self]; exact fun h => absurd h (by decide)
    · rw [up3_ne (fun q => hz q.2)]; exact hEO e a h20 h19
  · intro e a
    show ¬ up3 (up3 S 21 e9 a9 1) 22 e9 a9 (-1) 21 e a = 0 → up3 (up3 S 21 e9 a9 1) 22 e9 a9 (-1) 22 e a = -1
    rw [up3_ne (by omega)]
    by_cases hz : e = e9 ∧ a = a9
    · obtain ⟨rfl, rfl⟩ := hz; exact fun _ => up3_self
    · rw [up3_ne (fun q => hz q.2), up3_ne (fun q => hz q.2), up3_ne (by omega)]; exact hFT e a
theorem inv_time {S : St} {n : Nat → Nat} {e9 a9 : Nat} {t : Int32} (hI : Inv S n) (h1 : ¬ S 20 e9 a9 = -1) (h2 : S 21 e9 a9 = 0) : Inv (up3 S 22 e9 a9 t) n := by
  have hI' := hI
  obtain ⟨⟨⟨w0, w1, w2, w3, w4, w5, w6, w7, hKI, hEI, hKY⟩, hNE, hCH, hBL⟩, hD0, hD1, hD2, hB01, hF30, hK8, hMK, hU1, hU2, hS10, hEO, hCF, hFT, hME, hYR, hEK, hLA⟩ := hI'
  refine ⟨⟨⟨w0, w1, w2, w3, w4, w5, w6, w7, hKI, hEI, hKY⟩, ?_, hCH, hBL⟩, hD0, hD1, hD2, hB01, hF30, hK8, hMK, hU1, hU2, hS10, hEO, hCF, ?_, hME, hYR, hEK, hLA⟩
  · intro e a h
    have hz : ¬ (e = e9 ∧ a = a9) := fun q => by obtain ⟨rfl, rfl⟩ := q; exact h1 h
    rw [up3_ne (fun q => hz q.2)]; exact hNE e a h
  · intro e a h
    have hz : ¬ (e = e9 ∧ a = a9) := fun q => by obtain ⟨rfl, rfl⟩ := q; exact h h2
    rw [up3_ne (fun q => hz q.2)]; exact hFT e a h
theorem inv_rec {S : St} {n : Nat → Nat} {q : Nat} {t : Int32} (hI : Inv S n) (h1 : q < n 2) : Inv (up3 S 14 q 0 t) n := by
  have hI' := hI
  obtain ⟨⟨⟨w0, w1, w2, w3, w4, w5, w6, w7, hKI, hEI, hKY⟩, hNE, hCH, hBL⟩, hD0, hD1, hD2, hB01, hF30, hK8, hMK, hU1, hU2, hS10, hEO, hCF, hFT, hME, hYR, hEK, hLA⟩ := hI'
  refine ⟨⟨⟨w0, w1, w2, w3, w4, w5, w6, w7, hKI, hEI, hKY⟩, hNE, hCH, hBL⟩, hD0, ?_, hD2, hB01, hF30, hK8, hMK, hU1, hU2, hS10, hEO, hCF, hFT, hME, hYR, hEK, hLA⟩
  · intro c hc
    rw [up3_ne (by omega)]; exact hD1 c hc
theorem inv_result {S : St} {n : Nat → Nat} {x y t g : Int32} (hI : Inv S n) (h0 : cd_result S n x y t g = 0) : Inv (reS S (ci x) (ci y) t g) n := by
  obtain ⟨⟨h1, h2⟩, h0⟩ := z_t (by decide) h0
  obtain ⟨-, h0⟩ := z_t (by decide) h0
  obtain ⟨⟨-, -, h3, -⟩, -⟩ := z_t (by decide) h0
  unfold reS
  by_cases hg : gdP S (ci x) (ci y) ∧ g < t
  · rw [cif_t hg]; exact inv_fall hI h3.1
  · rw [cif_f hg]
    have hT := inv_time (t := ftm S (ci x) (ci y) t) hI h3.1 h3.2
    unfold rcS
    by_cases h9 : S 9 (ci y) 0 = 99
    · rw [if_pos h9]
      by_cases hr : S 14 (ci (S 20 (ci x) (ci y))) 0 = -1 ∨ t < S 14 (ci (S 20 (ci x) (ci y))) 0
      · rw [if_pos hr]
        obtain ⟨-, -, q, hq, e⟩ := ent_lt hI.1.1 h3.1
        refine inv_rec hT ?_
        have w2 := hI.1.1.2.2.1
        rw [e, show ci (nI q) = q from nI_clamp (by omega)]; exact hq
      · rw [if_neg hr]; exact hT
    · rw [if_neg h9]; exact hT
/-- those of a class that its new bounds don't hold come under review -/
theorem bo_at {S : St} {m q : Nat} (hq : q < 2 ^ 31) : ∀ c, (∀ x, x ≠ 2 → x ≠ 9 → x ≠ 31 → boS S m q c x = S x) ∧ (∀ x y z, ¬ (y < c ∧ z = 0 ∧ boP S q y) → boS S m q c x y z = S x y z) ∧ ∀ y, y < c → boP S q y → boS S m q c 9 y 0 = 114 ∧ boS S m q c 2 y 0 = S 23 0 0 + 2 ∧ boS S m q c 31 y 0 = S 23 0 0 + 2
  | 0 => ⟨fun _ _ _ _ => rfl, fun _ _ _ _ => rfl, fun _ h => absurd h (Nat.not_lt_zero _)⟩
  | c + 1 => by
    obtain ⟨i1, i2, i3⟩ := bo_at (S := S) (m := m) hq c
    have hb : boP (boS S m q c) q c ↔ boP S q c := by
      unfold boP holdsP
      rw [i1 10 (by decide) (by decide) (by decide), i1 13 (by decide) (by decide) (by decide), fMea2 (S := S) (S2 := boS S m q c) (i := c) (fun y => by rw [i1 1 (by decide) (by decide) (by decide)])]
    by_cases h : boP S q c
    · rw [boS_t (hb.mpr h)]
      have h10 : boS S m q c 10 c 0 = nI q := by rw [i1 10 (by decide) (by decide) (by decide)]; exact h.1
      have e23 : boS S m q c 23 = S 23 := i1 23 (by decide) (by decide) (by decide)
      rw [stlS_3 (nI_ne_m1 hq) h10, e23]
      have e10 : ∀ x y z, ¬ (x = 2 ∧ y = c ∧ z = 0) → ¬ (x = 9 ∧ y = c ∧ z = 0) → ¬ (x = 31 ∧ y = c ∧ z = 0) → up3 (setl (boS S m q c) c (nI q) 114 (S 23 0 0 + 2)) 31 c 0 (S 23 0 0 + 2) x y z = boS S m q c x y z := fun x y z h2 h9 h31 => by
        unfold setl
        rw [up3_ne h31, up3_ne h2, up3_ne h9]
        by_cases hz : x = 10 ∧ y = c ∧ z = 0
        · obtain ⟨rfl, rfl, rfl⟩ := hz; rw [up3_self, h10]
        · rw [up3_ne hz]
      refine ⟨fun x x2 x9 x31 => ?_, fun x y z hn => ?_, fun y hy hp => ?_⟩
      · funext y z
        rw [e10 x y z (fun w => x2 w.1) (fun w => x9 w.1) (fun w => x31 w.1), i1 x x2 x9 x31]
      · have hyc : ¬ (y = c ∧ z = 0) := fun w => hn ⟨by omega, w.2, by rw [w.1]; exact h⟩
        rw [e10 x y z (fun w => hyc w.2) (fun w => hyc w.2) (fun w => hyc w.2)]
        exact i2 x y z (fun w => hn ⟨by omega, w.2⟩)
      · by_cases hz : y = c
        · subst hz
          unfold setl
          exact ⟨by rw [up3_ne (by omega), up3_ne (by omega), up3_self], by rw [up3_ne (by omega), up3_self], by rw [up3_self]⟩
        · rw [e10 9 y 0 (by omega) (by omega) (by omega), e10 2 y 0 (by omega) (by omega) (by omega), e10 31 y 0 (by omega) (by omega) (by omega)]
          exact i3 y (by omega) hp
    · rw [boS_f (fun z => h (hb.mp z))]
      refine ⟨i1, fun x y z hn => i2 x y z (fun w => hn ⟨by omega, w.2⟩), fun y hy hp => i3 y ?_ hp⟩
      have : ¬ y = c := fun w => h (by rw [← w]; exact hp)
      omega
theorem inv_border {S : St} {n : Nat → Nat} {x y z : Int32} (hI : Inv S n) (h0 : cd_border n x y z = 0) : Inv (boS (drS S (ci x) y z) (n 3) (ci x) (n 0)) n := by
  have hI' := hI
  obtain ⟨⟨⟨w0, w1, w2, w3, w4, w5, w6, w7, hKI, hEI, hKY⟩, hNE, hCH, hBL⟩, hD0, hD1, hD2, hB01, hF30, hK8, hMK, hU1, hU2, hS10, hEO, hCF, hFT, hME, hYR, hEK, hLA⟩ := hI'
  obtain ⟨hx, -⟩ := z_t (by decide) h0
  have hq := (ix_c (by omega) hx).1
  generalize ci x = q at hq ⊢
  obtain ⟨i1, i2, i3⟩ := bo_at (S := drS S q y z) (m := n 3) (q := q) (by omega) (n 0)
  have d : ∀ c, c ≠ 13 → c ≠ 14 → drS S q y z c = S c := fun c h1 h2 => by unfold drS; rw [up3_c h2, up3_c h1, up3_c h1]
  have d0 : ∀ c, drS S q y z 13 c 0 = S 13 c 0 := fun c => by unfold drS; rw [up3_c (by decide), up3_ne (by omega), up3_ne (by omega)]
  have dn : ∀ c, ¬ c = q → drS S q y z 13 c = S 13 c := fun c h => by
    funext w
    unfold drS
    rw [up3_c (by decide), up3_ne (fun r => h r.2.1), up3_ne (fun r => h r.2.1)]
  generalize hT : boS (drS S q y z) (n 3) q (n 0) = T at i1 i2 i3 ⊢
  have o : ∀ c, c ≠ 2 → c ≠ 9 → c ≠ 31 → c ≠ 13 → c ≠ 14 → T c = S c := fun c h2 h9 h31 h13 h14 => by rw [i1 c h2 h9 h31, d c h13 h14]
  have o1 := o 1 (by decide) (by decide) (by decide) (by decide) (by decide)
  have o5 := o 5 (by decide) (by decide) (by decide) (by decide) (by decide)
  have o6 := o 6 (by decide) (by decide) (by decide) (by decide) (by decide)
  have o7 := o 7 (by decide) (by decide) (by decide) (by decide) (by decide)
  have o8 := o 8 (by decide) (by decide) (by decide) (by decide) (by decide)
  have o10 := o 10 (by decide) (by decide) (by decide) (by decide) (by decide)
  have o11 := o 11 (by decide) (by decide) (by decide) (by decide) (by decide)
  have o16 := o 16 (by decide) (by decide) (by decide) (by decide) (by decide)
  have o17 := o 17 (by decide) (by decide) (by decide) (by decide) (by decide)
  have o18 := o 18 (by decide) (by decide) (by decide) (by decide) (by decide)
  have o19 := o 19 (by decide) (by decide) (by decide) (by decide) (by decide)
  have o20 := o 20 (by decide) (by decide) (by decide) (by decide) (by decide)
  have o21 := o 21 (by decide) (by decide) (by decide) (by decide) (by decide)
  have o22 := o 22 (by decide) (by decide) (by decide) (by decide) (by decide)
  have o23 := o 23 (by decide) (by decide) (by decide) (by decide) (by decide)
  have o30 := o 30 (by decide) (by decide) (by decide) (by decide) (by decide)
  have t13 : T 13 = drS S q y z 13 := i1 13 (by decide) (by decide) (by decide)
  have t14 : T 14 = drS S q y z 14 := i1 14 (by decide) (by decide) (by decide)
  have e23 : drS S q y z 23 = S 23 := d 23 (by decide) (by decide)
  have hr : ∀ i, i < n 0 → boP (drS S q y z) q i → T 9 i 0 = 114 ∧ T 2 i 0 = S 23 0 0 + 2 ∧ T 31 i 0 = S 23 0 0 + 2 := fun i hi h => by rw [← e23]; exact i3 i hi h
  have hs : ∀ i, ¬ (i < n 0 ∧ boP (drS S q y z) q i) → T 9 i 0 = S 9 i 0 ∧ T 2 i 0 = S 2 i 0 ∧ T 31 i 0 = S 31 i 0 := fun i h => by
    rw [← d 9 (by decide) (by decide), ← d 2 (by decide) (by decide), ← d 31 (by decide) (by decide)]
    exact ⟨i2 9 i 0 (fun w => h ⟨w.1, w.2.2⟩), i2 2 i 0 (fun w => h ⟨w.1, w.2.2⟩), i2 31 i 0 (fun w => h ⟨w.1, w.2.2⟩)⟩
  have hb10 : ∀ i, boP (drS S q y z) q i → S 10 i 0 = nI q := fun i h => by rw [← d 10 (by decide) (by decide)]; exact h.1
  have hq1 : ¬ nI q = -1 := nI_ne_m1 (by omega)
  refine ⟨⟨⟨w0, w1, w2, w3, w4, w5, w6, w7, ?_, ?_, ?_⟩, ?_, ?_, ?_⟩, ?_, ?_, ?_, ?_, ?_, ?_, ?_, ?_, ?_, ?_, ?_, ?_, ?_, ?_, ?_, ?_, ?_⟩
  · intro i hi; rw [o10]; exact hKI i hi
  · intro e a; rw [o20]; exact hEI e a
  · intro c hc; rw [t13, d0]; exact hKY c hc
  · intro e a; rw [o20, o21, o22]; exact hNE e a
  · intro i
    by_cases h : i < n 0 ∧ boP (drS S q y z) q i
    · rw [(hr i h.1 h.2).1]; exact ⟨rfl, rfl⟩
    · rw [(hs i h).1]; exact hCH i
  · intro e a; rw [o21]; exact hBL e a
  · intro i hi; rw [o8, o11]; exact hD0 i hi
  · intro c hc; rw [t14]; unfold drS; rw [up3_ne (by omega), up3_c (by decide), up3_c (by decide)]; exact hD1 c hc
  · intro e he; rw [o18, o19, o17]; exact hD2 e he
  · intro i; rw [o8, o11, o18, o19]; exact hB01 i
  · intro i hi; rw [o8, o1, o30]; exact hF30 i hi
  · intro i hi
    rw [o10, o8]
    intro h10
    refine ⟨(hK8 i hi h10).1, ?_⟩
    unfold mayP
    by_cases h : i < n 0 ∧ boP (drS S q y z) q i
    · rw [(hr i h.1 h.2).1]; decide
    · rw [(hs i h).1]; exact (hK8 i hi h10).2
  · intro i hi
    rw [o10]
    by_cases h : i < n 0 ∧ boP (drS S q y z) q i
    · rw [hb10 i h.2]; exact fun _ => hq1
    · unfold mayP; rw [(hs i h).1]; exact hMK i hi
  · intro i hi
    by_cases h : i < n 0 ∧ boP (drS S q y z) q i
    · obtain ⟨-, z2, z3⟩ := hr i h.1 h.2
      rw [z2, z3]; exact fun _ => ⟨rfl, yr_ne hYR⟩
    · obtain ⟨z1, z2, z3⟩ := hs i h
      unfold waitP; rw [z1, z2, z3]; exact hU1 i hi
  · intro i hi
    by_cases h : i < n 0 ∧ boP (drS S q y z) q i
    · unfold waitP; rw [(hr i h.1 h.2).1]; exact fun w => absurd (Or.inr rfl) w
    · obtain ⟨z1, z2, z3⟩ := hs i h
      unfold waitP; rw [z1, z3]; exact hU2 i hi
  · intro i hi; rw [o11, o10]; exact hS10 i hi
  · intro e a; rw [o20, o19, o21, o10]; exact hEO e a
  · intro i hi
    rw [o10]
    by_cases h : i < n 0 ∧ boP (drS S q y z) q i
    · rw [(hr i h.1 h.2).1]; exact fun w => absurd w (by decide)
    · rw [(hs i h).1]
      intro h9
      obtain ⟨c, c1, c2, c3⟩ := hCF i hi h9
      refine ⟨c, c1, c2, ?_⟩
      by_cases hc : c = q
      · subst hc
        have hh : holdsP (drS S c y z) c (fMea (drS S c y z) i 2) := Classical.byContradiction (fun w => h ⟨hi, by rw [d 10 (by decide) (by decide)]; exact c2, w⟩)
        exact holds_S t13 (fMea2 (fun y => by rw [o1, d 1 (by decide) (by decide)])) hh
      · have hf : fMea S i 2 = fMea T i 2 := fMea2 (fun y => by rw [o1])
        rw [← hf]
        unfold holdsP at c3 ⊢
        rw [t13, dn c hc]; exact c3
  · intro e a; rw [o21, o22]; exact hFT e a
  · intro i c hi hc; rw [o6, o7, o8, o30]; exact hME i c hi hc
  · rw [o23]; exact hYR
  · intro e c he hc; rw [o16]; exact hEK e c he hc
  · intro i hi; rw [o5]; exact hLA i hi
theorem inv_sound {S : St} {n : Nat → Nat} (hI : Inv S n) : soundP S n := by
  obtain ⟨⟨⟨w0, w1, w2, w3, w4, w5, w6, w7, hKI, hEI, hKY⟩, hNE, hCH, hBL⟩, hD0, hD1, hD2, hB01, hF30, hK8, hMK, hU1, hU2, hS10, hEO, hCF, hFT, hME, hYR, hEK, hLA⟩ := hI
  refine ⟨fun i hi => ⟨fun h => ?_, fun h => ?_, ?_⟩, fun e he a ha h => h.2.2.2 (hEO e a h.2.1 h.1 h.2.2.1)⟩
  · obtain ⟨q, h1, h2, h3⟩ := hCF i hi h.1
    exact h.2 q (by omega) h2 h3
  · have h10 := hS10 i hi h.1
    rcases h.2 with h9 | h9
    · have := (hK8 i hi h10).2
      unfold mayP at this
      rw [h9] at this
      exact absurd this (by decide)
    · exact h10 h9
  · by_cases h : S 10 i 0 = -1
    · exact Or.inl h
    · exact Or.inr (hK8 i hi h).2
