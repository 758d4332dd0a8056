/-! NEW OBJECTS, 4: what the face's methods ask. -/
theorem V_dif {cy : Nat → ClassId} {de : Nat} {ad : Ad} {S : St} {n : Nat → Nat} {T : St} {k : Nat → Nat} {th : Int32} {X : Rl} {i : Nat} (h : i < 4) : Vw cy de ad S n T k th X 2 i 0 = if 0 < n i then some (eQ (cy 6) (capL (n i)) (fData ad n i)) else none := by
  rw [Vw_lo (by decide)]
  show (if i < 4 ∧ 0 = 0 ∧ 0 < n i then some (eQ (cy 6) (capL (n i)) (fData ad n i)) else none) = _
  by_cases hz : 0 < n i
  · rw [if_pos ⟨h, rfl, hz⟩, if_pos hz]
  · rw [if_neg (fun z => hz z.2.2), if_neg hz]
theorem V_no {cy : Nat → ClassId} {de : Nat} {ad : Ad} {S : St} {n : Nat → Nat} {T : St} {k : Nat → Nat} {th : Int32} {X : Rl} {t i j : Nat} (h : (3 ≤ t ∧ t ≤ 5 ∧ n 4 ≤ i) ∨ (t = 6 ∧ n 5 ≤ i) ∨ (t = 7 ∧ n 6 ≤ i) ∨ (8 ≤ t ∧ t ≤ 10 ∧ n 7 ≤ i)) : Vw cy de ad S n T k th X t i j = none := by
  have ht : t < 13 := by omega
  rw [Vw_lo ht]
  have h3 : (t = 3 ∧ n 4 ≤ i) ∨ (t = 4 ∧ n 4 ≤ i) ∨ (t = 5 ∧ n 4 ≤ i) ∨ (t = 6 ∧ n 5 ≤ i) ∨ (t = 7 ∧ n 6 ≤ i) ∨ (t = 8 ∧ n 7 ≤ i) ∨ (t = 9 ∧ n 7 ≤ i) ∨ (t = 10 ∧ n 7 ≤ i) := by omega
  rcases h3 with ⟨rfl, z⟩ | ⟨rfl, z⟩ | ⟨rfl, z⟩ | ⟨rfl, z⟩ | ⟨rfl, z⟩ | ⟨rfl, z⟩ | ⟨rfl, z⟩ | ⟨rfl, z⟩
  · simp only [VC, if_neg (show ¬ (i < n 4 ∧ j = 0) by omega)]
  · simp only [VC, if_neg (show ¬ (i < n 4 ∧ j < 3) by omega)]
  · simp only [VC, if_neg (show ¬ (i < n 4 ∧ j < 3) by omega)]
  · simp only [VC, if_neg (show ¬ (i < n 5 ∧ j = 0) by omega)]
  · simp only [VC, if_neg (show ¬ (i < n 6 ∧ j = 0) by omega)]
  · simp only [VC, if_neg (show ¬ (i < n 7 ∧ j = 0) by omega)]
  · simp only [VC, if_neg (show ¬ (i < n 7 ∧ j = 0) by omega)]
  · simp only [VC, if_neg (show ¬ (i < n 7 ∧ j = 0) by omega)]
theorem V_noE {cy : Nat → ClassId} {de : Nat} {ad : Ad} {S : St} {n : Nat → Nat} {T : St} {k : Nat → Nat} {th : Int32} {X : Rl} {e a : Nat} (h : S 20 e a = -1) : Vw cy de ad S n T k th X 11 e a = none := by
  rw [Vw_lo (by decide)]
  show (if e < n 7 ∧ a < 16 ∧ neg (S 20 e a) = false then some (eEnt ad S e a) else none) = none
  rw [if_neg (fun z => by rw [h] at z; exact absurd z.2.2 (by decide))]
/-- the class's part is elsewhere, the rest stays -/
def Ag (ad ad2 : Ad) : Prop := ∀ t, t = 0 ∨ 13 ≤ t → ad2 t = ad t
theorem Ag.up {ad ad2 : Ad} {t i j q : Nat} (h : Ag ad ad2) (ht : 0 < t ∧ t < 13) : Ag ad (up3 ad2 t i j q) := fun x hx => (up3_c (by omega)).trans (h x hx)
theorem Ag.rf {ad : Ad} : Ag ad ad := fun _ _ => rfl
/-- an athlete's numbers, made anew -/
def at1 (S : St) (i : Nat) (x : Int32) : St := up3 (fndS (nwA S i x) i (fun _ => 100) 5) 2 i 0 0
theorem nwL_c {S : St} {i x : Nat} (h6 : x ≠ 6) (h7 : x ≠ 7) : ∀ c, nwL S i c x = S x
  | 0 => rfl
  | c + 1 => by
    show up3 (up3 (nwL S i c) 6 i c 100) 7 i c (-1) x = S x
    rw [up3_c h7, up3_c h6, nwL_c h6 h7 c]
theorem nwL_o {S : St} {i x y z : Nat} (hy : y ≠ i) : ∀ c, nwL S i c x y z = S x y z
  | 0 => rfl
  | c + 1 => by
    show up3 (up3 (nwL S i c) 6 i c 100) 7 i c (-1) x y z = S x y z
    rw [up3_ne (fun w => hy w.2.1), up3_ne (fun w => hy w.2.1), nwL_o hy c]
theorem nwL_6 {S : St} {i : Nat} : ∀ c y, y < c → nwL S i c 6 i y = 100
  | 0, _, h => absurd h (Nat.not_lt_zero _)
  | c + 1, y, h => by
    show up3 (up3 (nwL S i c) 6 i c 100) 7 i c (-1) 6 i y = 100
    rw [up3_ne (by omega)]
    by_cases hy : y = c
    · subst hy; exact up3_self
    · rw [up3_ne (by omega), nwL_6 c y (by omega)]
theorem nwL_7 {S : St} {i : Nat} : ∀ c y, y < c → nwL S i c 7 i y = -1
  | 0, _, h => absurd h (Nat.not_lt_zero _)
  | c + 1, y, h => by
    show up3 (up3 (nwL S i c) 6 i c 100) 7 i c (-1) 7 i y = -1
    by_cases hy : y = c
    · subst hy; exact up3_self
    · rw [up3_ne (by omega), up3_ne (by omega), nwL_7 c y (by omega)]
theorem nwA_o {S : St} {i x y z : Nat} {v : Int32} (hy : y ≠ i) : nwA S i v x y z = S x y z := by
  unfold nwA
  rw [up3_ne (fun w => hy w.2.1), up3_ne (fun w => hy w.2.1), up3_ne (fun w => hy w.2.1), nwL_o hy, up3_ne (fun w => hy w.2.1)]
theorem nwA_c {S : St} {i x : Nat} {v : Int32} (h5 : x ≠ 5) (h6 : x ≠ 6) (h7 : x ≠ 7) (h9 : x ≠ 9) (h10 : x ≠ 10) (h31 : x ≠ 31) : nwA S i v x = S x := by
  unfold nwA
  rw [up3_c h31, up3_c h10, up3_c h9, nwL_c h6 h7, up3_c h5]
theorem at1_o {S : St} {i x y z : Nat} {v : Int32} (hy : y ≠ i) : at1 S i v x y z = S x y z := by
  unfold at1
  rw [up3_ne (fun w => hy w.2.1), fndS_o 5 (fun w => hy w.2.1), nwA_o hy]
theorem at1_c {S : St} {i x : Nat} {v : Int32} (h1 : x ≠ 1) (h2 : x ≠ 2) : at1 S i v x = nwA S i v x := by
  unfold at1
  rw [up3_c h2, fndS_c h1]
theorem at1_cc {S : St} {i x : Nat} {v : Int32} (h1 : x ≠ 1) (h2 : x ≠ 2) (h5 : x ≠ 5) (h6 : x ≠ 6) (h7 : x ≠ 7) (h9 : x ≠ 9) (h10 : x ≠ 10) (h31 : x ≠ 31) : at1 S i v x = S x := (at1_c h1 h2).trans (nwA_c h5 h6 h7 h9 h10 h31)
theorem at1_S {S : St} {i : Nat} {v : Int32} : ∀ c x y, c < 30 → ¬ (x = i ∧ c ∈ [5, 6, 7, 9, 10, 1, 2, 8, 11]) → at1 S i v c x y = S c x y := by
  intro c x y hc hn
  by_cases hx : x = i
  · have hm : c ∉ [5, 6, 7, 9, 10, 1, 2, 8, 11] := fun z => hn ⟨hx, z⟩
    have hm2 : c ≠ 1 ∧ c ≠ 2 ∧ c ≠ 5 ∧ c ≠ 6 ∧ c ≠ 7 ∧ c ≠ 9 ∧ c ≠ 10 := by
      refine ⟨?_, ?_, ?_, ?_, ?_, ?_, ?_⟩ <;> (rintro rfl; exact hm (by decide))
    rw [at1_cc hm2.1 hm2.2.1 hm2.2.2.1 hm2.2.2.2.1 hm2.2.2.2.2.1 hm2.2.2.2.2.2.1 hm2.2.2.2.2.2.2 (by omega)]
  · exact at1_o hx
theorem at1_1 {S : St} {i : Nat} {v : Int32} {y : Nat} (hy : y < 5) : at1 S i v 1 i y = 100 := by
  unfold at1
  rw [up3_ne (by omega), fndS_i 5 hy]
theorem at1_2 {S : St} {i : Nat} {v : Int32} : at1 S i v 2 i 0 = 0 := up3_self
theorem at1_5 {S : St} {i : Nat} {v : Int32} : at1 S i v 5 i 0 = v := by
  rw [at1_c (by decide) (by decide)]
  unfold nwA
  rw [up3_ne (by omega), up3_ne (by omega), up3_ne (by omega), nwL_c (by decide) (by decide), up3_self]
theorem at1_9 {S : St} {i : Nat} {v : Int32} : at1 S i v 9 i 0 = 45 := by
  rw [at1_c (by decide) (by decide)]
  unfold nwA
  rw [up3_ne (by omega), up3_ne (by omega), up3_self]
theorem at1_10 {S : St} {i : Nat} {v : Int32} : at1 S i v 10 i 0 = -1 := by
  rw [at1_c (by decide) (by decide)]
  unfold nwA
  rw [up3_ne (by omega), up3_self]
theorem at1_31 {S : St} {i : Nat} {v : Int32} : at1 S i v 31 i 0 = -1 := by
  rw [at1_c (by decide) (by decide)]
  unfold nwA
  rw [up3_self]
theorem at1_6 {S : St} {i : Nat} {v : Int32} {y : Nat} (hy : y < 5) : at1 S i v 6 i y = 100 := by
  rw [at1_c (by decide) (by decide)]
  unfold nwA
  rw [up3_ne (by omega), up3_ne (by omega), up3_ne (by omega), nwL_6 5 y hy]
theorem at1_7 {S : St} {i : Nat} {v : Int32} {y : Nat} (hy : y < 5) : at1 S i v 7 i y = -1 := by
  rw [at1_c (by decide) (by decide)]
  unfold nwA
  rw [up3_ne (by omega), up3_ne (by omega), up3_ne (by omega), nwL_7 5 y hy]
theorem atS_1 {S : St} {i : Nat} {x : Int32} (h : at1 S i x 0 0 0 = S 0 0 0) : up3 (at1 S i x) 0 0 0 (at1 S i x 0 0 0 + 1) = atS S i x := by rw [h]; rfl
/-- a kind's numbers, before its bounds are drawn -/
def ki0 (S : St) (q : Nat) (x y : Int32) : St := up3 (up3 (up3 (up3 (up3 S 13 q 0 x) 13 q 1 y) 13 q 2 0) 13 q 3 0) 14 q 0 (-1)
theorem ki0_S {S : St} {q : Nat} {x y : Int32} : ∀ c a b, c < 30 → ¬ (a = q ∧ (c = 13 ∨ c = 14)) → ki0 S q x y c a b = S c a b := by
  intro c a b _ hn
  unfold ki0
  rw [up3_ne (fun z => hn ⟨z.2.1, Or.inr z.1⟩), up3_ne (fun z => hn ⟨z.2.1, Or.inl z.1⟩), up3_ne (fun z => hn ⟨z.2.1, Or.inl z.1⟩), up3_ne (fun z => hn ⟨z.2.1, Or.inl z.1⟩), up3_ne (fun z => hn ⟨z.2.1, Or.inl z.1⟩)]
theorem ki0_dr {S : St} {q : Nat} {x y z w : Int32} (h : S 14 q 0 = -1) : up3 (up3 (up3 (ki0 S q x y) 13 q 2 z) 13 q 3 w) 14 q 0 (-1) = kiM S q x y z w := by
  funext c a b
  by_cases h1 : c = 14 ∧ a = q ∧ b = 0
  · obtain ⟨rfl, rfl, rfl⟩ := h1
    unfold kiM
    rw [up3_self, up3_ne (by omega), up3_ne (by omega), up3_ne (by omega), up3_ne (by omega), h]
  · unfold kiM ki0
    rw [up3_ne h1]
    by_cases h2 : c = 13 ∧ a = q ∧ b = 3
    · obtain ⟨rfl, rfl, rfl⟩ := h2
      rw [up3_self, up3_self]
    · rw [up3_ne h2, up3_ne (f := up3 (up3 (up3 S 13 q 0 x) 13 q 1 y) 13 q 2 z) h2]
      by_cases h3 : c = 13 ∧ a = q ∧ b = 2
      · obtain ⟨rfl, rfl, rfl⟩ := h3
        rw [up3_self, up3_self]
      · rw [up3_ne h3, up3_ne (f := up3 (up3 S 13 q 0 x) 13 q 1 y) h3, up3_ne h1, up3_ne h2, up3_ne h3]
