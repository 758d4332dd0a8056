/-! THE NUMBERS OF THE LAW'S BEGINNING: classes are drawn, three athletes are made. -/
def Z9 : St := fun _ _ _ => 0
/-- after kq classes -/
def KK (S : St) (n : Nat → Nat) (L : St) (kq : Nat) : Prop :=
  (n 0 = 0 ∧ n 1 = 0 ∧ n 2 = kq) ∧ (∀ q, q < kq → L 0 q 0 = S 13 q 0 ∧ L 1 q 0 = S 13 q 1 ∧ L 2 q 0 = S 13 q 2 ∧ L 3 q 0 = S 13 q 3) ∧
  (∀ i, 4 ≤ i → ∀ x y, L i x y = 0) ∧ (∀ x, x < 6 → S 15 x 0 = 1000) ∧ S 23 0 0 = 0
/-- after a athletes -/
def AA (S : St) (n : Nat → Nat) (L : St) (K a : Nat) : Prop :=
  (n 0 = a ∧ n 1 = a ∧ n 2 = K) ∧ (∀ q, q < K → L 0 q 0 = S 13 q 0 ∧ L 1 q 0 = S 13 q 1 ∧ L 2 q 0 = S 13 q 2 ∧ L 3 q 0 = S 13 q 3) ∧
  (∀ b y, b < a → y < 5 → L 4 b y = S 6 b y ∧ L 5 b y = S 7 b y) ∧
  (∀ b, b < a → L 7 b 0 = S 10 b 0 ∧ L 8 b 0 = S 9 b 0 ∧ S 9 b 0 = 45 ∧ S 8 b 0 = 0) ∧
  (∀ b, b < a → S 12 b 0 = nI (3 + b % 2) ∧ S 5 b 0 = nI b) ∧ (∀ x, x < 6 → S 15 x 0 = 1000) ∧ S 23 0 0 = 0
theorem KK_0 {L : St} (h : ∀ i x y, L i x y = 0) : KK J0 N0 L 0 := ⟨⟨rfl, rfl, rfl⟩, fun q hq => absurd hq (Nat.not_lt_zero q), fun i _ x y => h i x y, fun x _ => rfl, rfl⟩
theorem KK_AA {S : St} {n : Nat → Nat} {L : St} {K : Nat} (h : KK S n L K) : AA S n L K 0 :=
  ⟨h.1, h.2.1, fun b y hb _ => absurd hb (Nat.not_lt_zero b), fun b hb => absurd hb (Nat.not_lt_zero b), fun b hb => absurd hb (Nat.not_lt_zero b), h.2.2.2.1, h.2.2.2.2⟩
def kL (L : St) (q : Nat) (x y z w : Int32) : St := up3 (up3 (up3 (up3 L 0 q 0 x) 1 q 0 y) 2 q 0 z) 3 q 0 w
theorem kL_0 {L : St} {q : Nat} {x y z w : Int32} : kL L q x y z w 0 q 0 = x := by
  unfold kL; rw [up3_c (a := 3) (by decide), up3_c (a := 2) (by decide), up3_c (a := 1) (by decide), up3_self]
theorem kL_1 {L : St} {q : Nat} {x y z w : Int32} : kL L q x y z w 1 q 0 = y := by
  unfold kL; rw [up3_c (a := 3) (by decide), up3_c (a := 2) (by decide), up3_self]
theorem kL_2 {L : St} {q : Nat} {x y z w : Int32} : kL L q x y z w 2 q 0 = z := by
  unfold kL; rw [up3_c (a := 3) (by decide), up3_self]
theorem kL_3 {L : St} {q : Nat} {x y z w : Int32} : kL L q x y z w 3 q 0 = w := by unfold kL; exact up3_self
theorem kL_o {L : St} {q q' i : Nat} {x y z w : Int32} (h : q' ≠ q) {j : Nat} : kL L q x y z w i q' j = L i q' j := by
  unfold kL; rw [up3_ne (fun c => h c.2.1), up3_ne (fun c => h c.2.1), up3_ne (fun c => h c.2.1), up3_ne (fun c => h c.2.1)]
theorem kL_c {L : St} {q i : Nat} {x y z w : Int32} (h : 4 ≤ i) : kL L q x y z w i = L i := by
  unfold kL; rw [up3_c (by omega), up3_c (by omega), up3_c (by omega), up3_c (by omega)]
theorem kiS_o {S : St} {q q' j : Nat} {x y z w : Int32} (h : q' ≠ q) : kiS S q x y z w 13 q' j = S 13 q' j := by
  unfold kiS kiM; rw [up3_c (show 13 ≠ 0 by decide), up3_ne (fun c => h c.2.1), up3_ne (fun c => h c.2.1), up3_ne (fun c => h c.2.1), up3_ne (fun c => h c.2.1)]
theorem kiS_x {S : St} {q c : Nat} {x y z w : Int32} (h : c ≠ 13) (h0 : c ≠ 0) : kiS S q x y z w c = S c := by
  unfold kiS kiM; rw [up3_c h0, up3_c h, up3_c h, up3_c h, up3_c h]
theorem kiS_v {S : St} {q : Nat} {x y z w : Int32} : kiS S q x y z w 13 q 0 = x ∧ kiS S q x y z w 13 q 1 = y ∧ kiS S q x y z w 13 q 2 = z ∧ kiS S q x y z w 13 q 3 = w := by
  unfold kiS kiM
  refine ⟨?_, ?_, ?_, ?_⟩
  · rw [up3_c (show 13 ≠ 0 by decide), up3_ne (by omega), up3_ne (by omega), up3_ne (by omega), up3_self]
  · rw [up3_c (show 13 ≠ 0 by decide), up3_ne (by omega), up3_ne (by omega), up3_self]
  · rw [up3_c (show 13 ≠ 0 by decide), up3_ne (by omega), up3_self]
  · rw [up3_c (show 13 ≠ 0 by decide), up3_self]
theorem KK_s {S : St} {n : Nat → Nat} {L : St} {kq : Nat} {x y z w : Int32} (h : KK S n L kq) : KK (kiS S kq x y z w) (nUp n 2) (kL L kq x y z w) (kq + 1) := by
  obtain ⟨⟨h0, h1, h2⟩, h3, h4, h5, h6⟩ := h
  refine ⟨⟨h0, h1, ?_⟩, fun q hq => ?_, fun i hi a b => ?_, fun a ha => ?_, ?_⟩
  · show nUp n 2 2 = _
    unfold nUp; rw [if_pos (Or.inl rfl), h2]
  · by_cases hz : q = kq
    · subst hz
      rw [kL_0, kL_1, kL_2, kL_3, kiS_v.1, kiS_v.2.1, kiS_v.2.2.1, kiS_v.2.2.2]
      exact ⟨rfl, rfl, rfl, rfl⟩
    · rw [kL_o hz, kL_o hz, kL_o hz, kL_o hz, kiS_o hz, kiS_o hz, kiS_o hz, kiS_o hz]
      exact h3 q (by omega)
  · rw [kL_c hi]; exact h4 i hi a b
  · rw [kiS_x (by decide) (by decide)]; exact h5 a ha
  · rw [kiS_x (by decide) (by decide)]; exact h6
theorem cd_kind0 {n : Nat → Nat} {a b c d : Nat} (ha : a < 5) (hb : b < 40) (hc : c < 120) (hd : d < 381) (hn : n 2 < 8) : cd_kind n (nI a) (nI (1 + b)) (nI c) (nI (c + d)) = 0 := by
  have le : ∀ p q : Nat, p ≤ q → q < 2 ^ 20 → nI p ≤ nI q := fun p q h1 h2 => Int32.not_lt.mp (fun z => absurd ((nI_ltI (a := q) (b := p) (by omega) (by omega)).mp z) (by omega))
  have h2 : ix (nI a) 5 ∧ ((1 : Int32) ≤ nI (1 + b) ∧ nI (1 + b) ≤ 100) ∧ (0 : Int32) ≤ nI c ∧ nI c ≤ nI (c + d) ∧ nI (c + d) ≤ 500 :=
    ⟨ix_nI ha, ⟨le 1 (1 + b) (by omega) (by omega), le (1 + b) 100 (by omega) (by omega)⟩, le 0 c (by omega) (by omega), le c (c + d) (by omega) (by omega), le (c + d) 500 (by omega) (by omega)⟩
  unfold cd_kind
  rw [cif_t h2, cif_t hn]
theorem nix {a N : Nat} (h : N ≤ a) (ha : a < 2 ^ 20) : ¬ ix (nI a) N := fun ⟨q, hq, e⟩ => absurd ((nI_eq (a := a) (b := q) (by omega) (by omega)).mp e) (by omega)
theorem cd_ath6 {n : Nat → Nat} : cd_athlete n 6 = 1 := cif_f (nix (a := 6) (by decide) (by decide))
theorem cd_cla1 {n : Nat → Nat} : cd_classifier n (-1) = 1 := cif_f (fun ⟨q, hq, e⟩ => nI_ne_m1 (by omega) e.symm)
theorem cd_kin5 {n : Nat → Nat} : cd_kind n 5 1 0 1 = 1 := cif_f (fun h => nix (a := 5) (N := 5) (by decide) (by decide) h.1)
theorem cd_kin0 {n : Nat → Nat} : cd_kind n 0 0 0 1 = 1 := cif_f (fun h => absurd h.2.1.1 (by decide))
theorem cd_kin2 {n : Nat → Nat} : cd_kind n 0 1 2 1 = 1 := cif_f (fun h => absurd h.2.2.2.1 (by decide))
theorem cd_ath00 {n : Nat → Nat} (h : n 0 = 0) : cd_ath n 0 = 1 := cif_f (fun ⟨q, hq, _⟩ => by omega)
/-- a row of bodies, and of what is shown -/
def iniL (L : St) (a : Nat) : Nat → St
  | 0 => L
  | y + 1 => up3 (up3 (iniL L a y) 4 a y 100) 5 a y (-1)
theorem iniL_c {L : St} {a x : Nat} (h4 : x ≠ 4) (h5 : x ≠ 5) : ∀ y, iniL L a y x = L x
  | 0 => rfl
  | y + 1 => (up3_c h5).trans ((up3_c h4).trans (iniL_c h4 h5 y))
theorem iniL_o {L : St} {a b x z : Nat} (h : b ≠ a) : ∀ y, iniL L a y x b z = L x b z
  | 0 => rfl
  | y + 1 => (up3_ne (fun c => h c.2.1)).trans ((up3_ne (fun c => h c.2.1)).trans (iniL_o h y))
theorem iniL_4 {L : St} {a : Nat} : ∀ y z, z < y → iniL L a y 4 a z = 100
  | 0, _, h => absurd h (Nat.not_lt_zero _)
  | y + 1, z, h => by
    show up3 (up3 (iniL L a y) 4 a y 100) 5 a y (-1) 4 a z = 100
    rw [up3_c (show 4 ≠ 5 by decide)]
    by_cases hz : z = y
    · subst hz; exact up3_self
    · rw [up3_ne (fun c => hz c.2.2)]; exact iniL_4 y z (by omega)
theorem iniL_5 {L : St} {a : Nat} : ∀ y z, z < y → iniL L a y 5 a z = -1
  | 0, _, h => absurd h (Nat.not_lt_zero _)
  | y + 1, z, h => by
    show up3 (up3 (iniL L a y) 4 a y 100) 5 a y (-1) 5 a z = -1
    by_cases hz : z = y
    · subst hz; exact up3_self
    · rw [up3_ne (fun c => hz c.2.2), up3_c (show 5 ≠ 4 by decide)]; exact iniL_5 y z (by omega)
def aS (S : St) (a : Nat) : St := clS (atS S a (nI a)) a (nI (3 + a % 2))
def aL (L : St) (a : Nat) : St := iniL (up3 (up3 L 7 a 0 (-1)) 8 a 0 45) a 5
theorem clS_x {S : St} {i c : Nat} {x : Int32} (h : c ≠ 12) (h0 : c ≠ 0) : clS S i x c = S c := by unfold clS; rw [up3_c h0, up3_c h]
theorem aS_c {S : St} {a x : Nat} (h : x ≠ 12 ∧ x ≠ 0 ∧ x ≠ 1 ∧ x ≠ 2 ∧ x ≠ 5 ∧ x ≠ 6 ∧ x ≠ 7 ∧ x ≠ 9 ∧ x ≠ 10 ∧ x ≠ 31) : aS S a x = S x := by
  obtain ⟨h12, h0, h1, h2, h5, h6, h7, h9, h10, h31⟩ := h
  unfold aS; rw [clS_x h12 h0, atS_c x h0 h1 h2, nwA_c h5 h6 h7 h9 h10 h31]
theorem aS_o {S : St} {a b x z : Nat} (hb : b ≠ a) (h : x ≠ 0 ∧ x ≠ 1 ∧ x ≠ 2) : aS S a x b z = S x b z := by
  unfold aS
  by_cases h12 : x = 12
  · subst h12
    unfold clS
    rw [up3_c (show 12 ≠ 0 by decide), up3_ne (fun c => hb c.2.1), atS_c 12 (by decide) (by decide) (by decide), nwA_o hb]
  · rw [clS_x h12 h.1, atS_c x h.1 h.2.1 h.2.2, nwA_o hb]
theorem aS_9 {S : St} {a : Nat} : aS S a 9 a 0 = 45 := by
  unfold aS; rw [clS_x (by decide) (by decide), atS_c 9 (by decide) (by decide) (by decide)]
  unfold nwA; rw [up3_c (show 9 ≠ 31 by decide), up3_c (show 9 ≠ 10 by decide), up3_self]
theorem aS_10 {S : St} {a : Nat} : aS S a 10 a 0 = -1 := by
  unfold aS; rw [clS_x (by decide) (by decide), atS_c 10 (by decide) (by decide) (by decide)]
  unfold nwA; rw [up3_c (show 10 ≠ 31 by decide), up3_self]
theorem aS_6 {S : St} {a y : Nat} (hy : y < 5) : aS S a 6 a y = 100 := by
  unfold aS; rw [clS_x (by decide) (by decide), atS_c 6 (by decide) (by decide) (by decide)]
  unfold nwA; rw [up3_c (show 6 ≠ 31 by decide), up3_c (show 6 ≠ 10 by decide), up3_c (show 6 ≠ 9 by decide)]; exact nwL_6 5 y hy
theorem aS_7 {S : St} {a y : Nat} (hy : y < 5) : aS S a 7 a y = -1 := by
  unfold aS; rw [clS_x (by decide) (by decide), atS_c 7 (by decide) (by decide) (by decide)]
  unfold nwA; rw [up3_c (show 7 ≠ 31 by decide), up3_c (show 7 ≠ 10 by decide), up3_c (show 7 ≠ 9 by decide)]; exact nwL_7 5 y hy
theorem aS_5 {S : St} {a : Nat} : aS S a 5 a 0 = nI a := by
  unfold aS; rw [clS_x (by decide) (by decide), atS_c 5 (by decide) (by decide) (by decide)]
  unfold nwA; rw [up3_c (show 5 ≠ 31 by decide), up3_c (show 5 ≠ 10 by decide), up3_c (show 5 ≠ 9 by decide), nwL_c (by decide) (by decide), up3_self]
theorem aS_12 {S : St} {a : Nat} : aS S a 12 a 0 = nI (3 + a % 2) := by
  unfold aS clS; rw [up3_c (show 12 ≠ 0 by decide), up3_self]
theorem AA_s {S : St} {n : Nat → Nat} {L : St} {K a : Nat} (h : AA S n L K a) (hI : Inv S n) : AA (aS S a) (nUp (nUp n 0) 1) (aL L a) K (a + 1) := by
  obtain ⟨⟨h0, h1, h2⟩, h3, h4, h5, h6, h7, h8⟩ := h
  have n8 : S 8 a 0 = 0 := (hI.2.1 a (by omega)).1
  refine ⟨⟨?_, ?_, h2⟩, fun q hq => ?_, fun b y hb hy => ?_, fun b hb => ?_, fun b hb => ?_, fun x hx => ?_, ?_⟩
  · show nUp n 0 0 = _
    unfold nUp; rw [if_pos (Or.inl rfl), h0]
  · show nUp (nUp n 0) 1 1 = _
    unfold nUp; rw [if_pos (Or.inl rfl), if_neg (by decide), h1]
  · unfold aL
    rw [iniL_c (by decide) (by decide), iniL_c (by decide) (by decide), iniL_c (by decide) (by decide), iniL_c (by decide) (by decide), aS_c (by decide)]
    exact h3 q hq
  · by_cases hz : b = a
    · subst hz
      unfold aL
      rw [iniL_4 5 y hy, iniL_5 5 y hy, aS_6 hy, aS_7 hy]
      exact ⟨rfl, rfl⟩
    · unfold aL
      rw [iniL_o hz, iniL_o hz, aS_o hz (by decide), aS_o hz (by decide)]
      exact h4 b y (by omega) hy
  · by_cases hz : b = a
    · subst hz
      unfold aL
      rw [iniL_c (x := 7) (by decide) (by decide), iniL_c (x := 8) (by decide) (by decide), aS_9, aS_10, aS_c (x := 8) (by decide), up3_c (show 7 ≠ 8 by decide), up3_self, up3_self]
      exact ⟨rfl, rfl, rfl, n8⟩
    · unfold aL
      rw [iniL_o hz, iniL_o hz, up3_ne (fun c => hz c.2.1), up3_ne (fun c => hz c.2.1), up3_ne (fun c => hz c.2.1), up3_ne (fun c => hz c.2.1), aS_o hz (by decide), aS_o hz (by decide), aS_o hz (by decide)]
      exact h5 b (by omega)
  · by_cases hz : b = a
    · subst hz; exact ⟨aS_12, aS_5⟩
    · rw [aS_o hz (by decide), aS_o hz (by decide)]; exact h6 b (by omega)
  · rw [aS_c (by decide)]; exact h7 x hx
  · rw [aS_c (by decide)]; exact h8
/-- what a new athlete's calls answer -/
theorem cd_athA {n : Nat → Nat} {a : Nat} (ha : a < 3) (h : n 0 = a) : cd_athlete n (nI a) = 0 := by
  unfold cd_athlete; rw [cif_t (ix_nI (by omega)), cif_t (by omega)]
theorem cd_claA {n : Nat → Nat} {a : Nat} (ha : a < 6) (h : n 1 < 8) : cd_classifier n (nI a) = 0 := by
  unfold cd_classifier; rw [cif_t (ix_nI ha), cif_t h]
theorem cd_fou3 {S : St} {n : Nat → Nat} {a : Nat} (ha : a < 16) (h : a < n 0) (h8 : S 8 a 0 = 0) : cd_found S n (nI a) 0 = 3 := by
  have e : ci (nI a) = a := nI_clamp (by omega)
  unfold cd_found; rw [cif_t (ix_nI h), cif_t ⟨0, by decide, rfl⟩, e, cif_t h8]
/-- the last classifier, and the relation -/
theorem RR_0 {S : St} {n : Nat → Nat} {L : St} {K : Nat} (h : AA S n L K 3) (hI : Inv S n) : RR (clS S 3 0) (nUp n 1) L K 0 := by
  obtain ⟨⟨h0, h1, h2⟩, h3, h4, h5, h6, h7, h8⟩ := h
  have h30 : n 3 = 0 := Nat.le_zero.mp hI.1.1.2.2.2.1
  refine ⟨⟨h0, ?_, h2, h30⟩, fun a y ha hy => ?_, fun a ha => ?_, fun q hq => ?_, ⟨?_, ?_, fun a ha => ?_⟩, ?_, ?_⟩
  · show nUp n 1 1 = _
    unfold nUp; rw [if_pos (Or.inl rfl), h1]
  · rw [clS_x (c := 6) (by decide) (by decide), clS_x (c := 7) (by decide) (by decide), clS_x (c := 8) (by decide) (by decide)]
    exact ⟨(h4 a y ha hy).1, (h4 a y ha hy).2, fun z => absurd (h5 a ha).2.2.2 z⟩
  · rw [clS_x (c := 10) (by decide) (by decide), clS_x (c := 9) (by decide) (by decide)]
    obtain ⟨g1, g2, g3, g4⟩ := h5 a ha
    exact ⟨g1, g2, fun z => absurd (g3.symm.trans z) (by decide), Or.inl g3⟩
  · rw [clS_x (c := 13) (by decide) (by decide)]; exact h3 q hq
  · unfold clS; rw [up3_c (show 12 ≠ 0 by decide), up3_ne (by omega), (h6 0 (by omega)).1]; rfl
  · unfold clS; rw [up3_c (show 12 ≠ 0 by decide), up3_ne (by omega), (h6 1 (by omega)).1]; rfl
  · rw [clS_x (c := 5) (by decide) (by decide)]; exact (h6 a ha).2
  · rw [clS_x (c := 15) (by decide) (by decide)]; exact h7 0 (by omega)
  · rw [clS_x (c := 23) (by decide) (by decide)]; exact h8
theorem cls_12 {S : St} {n : Nat → Nat} {L : St} {K : Nat} (h : AA S n L K 3) : clS S 3 0 12 0 0 = 3 ∧ clS S 3 0 12 2 0 = 3 ∧ clS S 3 0 12 3 0 = 0 ∧ clS S 3 0 5 0 0 = 0 ∧ clS S 3 0 9 0 0 = 45 := by
  obtain ⟨-, -, -, h5, h6, -, -⟩ := h
  refine ⟨?_, ?_, ?_, ?_, ?_⟩
  · unfold clS; rw [up3_c (show 12 ≠ 0 by decide), up3_ne (by omega), (h6 0 (by omega)).1]; rfl
  · unfold clS; rw [up3_c (show 12 ≠ 0 by decide), up3_ne (by omega), (h6 2 (by omega)).1]; rfl
  · unfold clS; rw [up3_c (show 12 ≠ 0 by decide), up3_self]
  · rw [clS_x (by decide) (by decide), (h6 0 (by omega)).2]; rfl
  · rw [clS_x (by decide) (by decide)]; exact (h5 0 (by omega)).2.2.1
theorem cd_tst2 {S : St} {n : Nat → Nat} {y : Nat} (hy : y < 4) (h0 : n 0 = 3) (h1 : n 1 = 4) (hf : ¬ fairP S 0 0 y) : cd_test S n 0 0 (nI y) = 2 := by
  have e : ci (nI y) = y := nI_clamp (by omega)
  unfold cd_test
  rw [cif_t ⟨⟨0, by omega, rfl⟩, ⟨0, by omega, rfl⟩, ix_nI (by omega)⟩, e, cif_f (show ¬ fairP S (ci 0) (ci 0) y from hf)]
theorem cd_tst1 {S : St} {n : Nat → Nat} (h1 : n 1 = 4) : cd_test S n 0 0 4 = 1 := cif_f (fun h => nix (a := 4) (N := n 1) (by omega) (by decide) h.2.2)
theorem cd_pro2 {S : St} {n : Nat → Nat} (h0 : n 0 = 3) (h9 : S 9 0 0 = 45) : cd_protest S n 0 0 = 2 := by
  unfold cd_protest
  rw [cif_t ⟨⟨0, by decide, rfl⟩, ⟨0, by omega, rfl⟩⟩, cif_f (show ¬ (mayP S (ci 0) ∧ 100 ≤ S 15 (ci 0) 0) from fun z => by
    have w := z.1
    unfold mayP at w
    rw [show ci 0 = 0 from rfl, h9] at w
    exact absurd w (by decide))]
theorem cd_wat2 {S : St} {n : Nat → Nat} (h0 : n 0 = 3) (h9 : S 9 0 0 = 45) : cd_watch S n 0 = 2 := by
  unfold cd_watch
  rw [cif_t ⟨0, by omega, rfl⟩, cif_f (fun z => by
    have w := z.1
    rw [show ci 0 = 0 from rfl, h9] at w
    exact absurd w (by decide))]
