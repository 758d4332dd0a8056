/-! WHAT THE LAW KEEPS BESIDE THE CLASS, and how each act changes both alike. L by code: 0 keys, 1 lacks, 2 leasts, 3 greatests, 4 bodies, 5 shown, 6 found, 7 classes, 8 statuses, 9 untils. -/
def RR (S : St) (n : Nat → Nat) (L : St) (K yr : Nat) : Prop :=
  (n 0 = 3 ∧ n 1 = 4 ∧ n 2 = K ∧ n 3 = 0) ∧
  (∀ a y, a < 3 → y < 5 → L 4 a y = S 6 a y ∧ L 5 a y = S 7 a y ∧ (¬ S 8 a 0 = 0 → L 6 a y = S 1 a y ∧ 0 ≤ S 1 a y ∧ S 1 a y ≤ 100)) ∧
  (∀ a, a < 3 → L 7 a 0 = S 10 a 0 ∧ L 8 a 0 = S 9 a 0 ∧ (S 9 a 0 = 120 → L 9 a 0 = S 2 a 0) ∧ (S 9 a 0 = 45 ∨ S 9 a 0 = 110 ∨ S 9 a 0 = 99 ∨ S 9 a 0 = 101 ∨ S 9 a 0 = 120)) ∧
  (∀ q, q < K → L 0 q 0 = S 13 q 0 ∧ L 1 q 0 = S 13 q 1 ∧ L 2 q 0 = S 13 q 2 ∧ L 3 q 0 = S 13 q 3) ∧
  (S 12 0 0 = 3 ∧ S 12 1 0 = 4 ∧ ∀ a, a < 3 → S 5 a 0 = nI a) ∧
  (S 15 0 0 = 1000 ∧ S 23 0 0 = nI yr)
theorem up3_sm {f g : St} {c c' a y a' y' : Nat} {v : Int32} (h : f c a' y' = g c' a' y') : up3 f c a y v c a' y' = up3 g c' a y v c' a' y' := by
  unfold up3
  by_cases z : a' = a ∧ y' = y
  · rw [if_pos ⟨rfl, z⟩, if_pos ⟨rfl, z⟩]
  · rw [if_neg (fun w => z w.2), if_neg (fun w => z w.2)]; exact h
theorem RR_body {S : St} {n : Nat → Nat} {L : St} {K yr a y : Nat} {v : Int32} (h : RR S n L K yr) (ha : a < 3) (hy : y < 5) : RR (up_body S (nI a) (nI y) v) n (up3 L 4 a y v) K yr := by
  obtain ⟨h1, h2, h3, h4, h5, h6⟩ := h
  unfold up_body
  rw [show ci (nI a) = a from nI_clamp (by omega), show ci (nI y) = y from nI_clamp (by omega)]
  exact ⟨h1, fun a' y' ha' hy' => ⟨up3_sm (h2 a' y' ha' hy').1, (h2 a' y' ha' hy').2⟩, h3, h4, h5, h6⟩
theorem RR_show {S : St} {n : Nat → Nat} {L : St} {K yr a y : Nat} {v : Int32} (h : RR S n L K yr) (ha : a < 3) (hy : y < 5) : RR (up_show S (nI a) (nI y) v) n (up3 L 5 a y v) K yr := by
  obtain ⟨h1, h2, h3, h4, h5, h6⟩ := h
  unfold up_show
  rw [show ci (nI a) = a from nI_clamp (by omega), show ci (nI y) = y from nI_clamp (by omega)]
  exact ⟨h1, fun a' y' ha' hy' => ⟨(h2 a' y' ha' hy').1, up3_sm (h2 a' y' ha' hy').2.1, (h2 a' y' ha' hy').2.2⟩, h3, h4, h5, h6⟩
-- the next year
noncomputable def ovL (L : St) (yv : Int32) : Nat → St
  | 0 => L
  | j + 1 => up3 (ovL L yv j) 8 j 0 (cif (ovL L yv j 8 j 0 = 120 ∧ ovL L yv j 9 j 0 = yv) 45 (ovL L yv j 8 j 0))
theorem ovL_c {L : St} {yv : Int32} {x : Nat} (h : x ≠ 8) : ∀ j, ovL L yv j x = L x
  | 0 => rfl
  | j + 1 => (up3_c h).trans (ovL_c h j)
theorem ovL_ge {L : St} {yv : Int32} : ∀ (j : Nat) {a : Nat}, j ≤ a → ovL L yv j 8 a 0 = L 8 a 0
  | 0, _, _ => rfl
  | j + 1, a, h => (up3_ne (by omega)).trans (ovL_ge j (by omega))
theorem ovL_lt {L : St} {yv : Int32} : ∀ (j : Nat) {a : Nat}, a < j → ovL L yv j 8 a 0 = cif (L 8 a 0 = 120 ∧ L 9 a 0 = yv) 45 (L 8 a 0)
  | 0, _, h => absurd h (Nat.not_lt_zero _)
  | j + 1, a, h => by
    by_cases hj : a = j
    · subst hj
      show up3 _ 8 a 0 _ 8 a 0 = _
      rw [up3_self, ovL_ge a (Nat.le_refl a), ovL_c (by decide)]
    · exact (up3_ne (by omega)).trans (ovL_lt j (by omega))
theorem neS_oo {S : St} {n : Nat → Nat} {x j z : Nat} (h21 : x ≠ 21) (h22 : x ≠ 22) (h31 : x ≠ 31) : ∀ c, c ≤ j → neS S n c x j z = S x j z
  | 0, _ => rfl
  | c + 1, h => by
    by_cases hz : neP (neS S n c) c
    · rw [neS_t hz, up3_c h31, ewS_o (by omega) h21 h22, neS_oo h21 h22 h31 c (by omega)]
    · rw [neS_f hz, neS_oo h21 h22 h31 c (by omega)]
theorem neS_j {S : St} {n : Nat → Nat} {x j z : Nat} (h21 : x ≠ 21) (h22 : x ≠ 22) (h31 : x ≠ 31) : ∀ d, neS S n (j + 1 + d) x j z = neS S n (j + 1) x j z
  | 0 => rfl
  | d + 1 => by
    show neS S n ((j + 1 + d) + 1) x j z = _
    by_cases hz : neP (neS S n (j + 1 + d)) (j + 1 + d)
    · rw [neS_t hz, up3_c h31, ewS_o (by omega) h21 h22, neS_j h21 h22 h31 d]
    · rw [neS_f hz, neS_j h21 h22 h31 d]
theorem neS_at {S : St} {n : Nat → Nat} {j m : Nat} (hj : j < m) (h114 : ¬ S 9 j 0 = 114) (h10 : S 9 j 0 = 120 → S 10 j 0 = -1) :
    neS S n m 9 j 0 = cif (S 9 j 0 = 120 ∧ S 2 j 0 = S 23 0 0) 45 (S 9 j 0) ∧ neS S n m 10 j 0 = S 10 j 0 ∧ (¬ (S 9 j 0 = 120 ∧ S 2 j 0 = S 23 0 0) → neS S n m 2 j 0 = S 2 j 0) := by
  obtain ⟨d, rfl⟩ : ∃ d, m = j + 1 + d := ⟨m - (j + 1), by omega⟩
  rw [neS_j (by decide) (by decide) (by decide) d, neS_j (by decide) (by decide) (by decide) d, neS_j (by decide) (by decide) (by decide) d]
  have e9 : neS S n j 9 j 0 = S 9 j 0 := neS_oo (by decide) (by decide) (by decide) j (Nat.le_refl j)
  have e10 : neS S n j 10 j 0 = S 10 j 0 := neS_oo (by decide) (by decide) (by decide) j (Nat.le_refl j)
  have e2 : neS S n j 2 j 0 = S 2 j 0 := neS_oo (by decide) (by decide) (by decide) j (Nat.le_refl j)
  have e23 : neS S n j 23 = S 23 := neS_c j (by decide) (by decide) (by decide) (by decide) (by decide) (by decide) (by decide)
  by_cases hz : neP (neS S n j) j
  · have hz2 : S 9 j 0 = 120 ∧ S 2 j 0 = S 23 0 0 := by
      obtain ⟨hw, he⟩ := hz
      rw [e2, e23] at he
      unfold waitP at hw
      rw [e9] at hw
      exact ⟨hw.resolve_right h114, he⟩
    have ee : ewS (neS S n j) n j = stlS (neS S n j) j (-1) 45 (n 3) := cif_t (by rw [e9]; exact hz2.1)
    refine ⟨?_, ?_, fun h => absurd hz2 h⟩
    · rw [neS_t hz, up3_c (by decide), ee, stlS_9, cif_t hz2]
    · rw [neS_t hz, up3_c (by decide), ee, stlS_10]; exact (h10 hz2.1).symm
  · have hz2 : ¬ (S 9 j 0 = 120 ∧ S 2 j 0 = S 23 0 0) := fun h => hz ⟨Or.inl (by rw [e9]; exact h.1), by rw [e2, e23]; exact h.2⟩
    rw [neS_f hz, cif_f hz2]
    exact ⟨e9, e10, fun _ => e2⟩
theorem nxt_23 {S : St} {n : Nat → Nat} : nxtS S n 23 0 0 = S 23 0 0 + 1 := by
  unfold nxtS
  rw [neS_c (n 0) (by decide) (by decide) (by decide) (by decide) (by decide) (by decide) (by decide)]
  exact up3_self
theorem RR_next {S : St} {n : Nat → Nat} {L : St} {K yr : Nat} (h : RR S n L K yr) (hI : Inv S n) : RR (nxtS S n) n (ovL L (S 23 0 0 + 1) 3) K (yr + 1) := by
  obtain ⟨h1, h2, h3, h4, h5, h6⟩ := h
  obtain ⟨-, -, -, -, -, -, hK8, -⟩ := hI
  have hc : ∀ x, x ≠ 2 → x ≠ 9 → x ≠ 10 → x ≠ 11 → x ≠ 21 → x ≠ 22 → x ≠ 31 → nxtS S n x = up3 S 23 0 0 (S 23 0 0 + 1) x := fun x a b c d e f g => neS_c (n 0) a b c d e f g
  have c8 : nxtS S n 8 = S 8 := hc 8 (by decide) (by decide) (by decide) (by decide) (by decide) (by decide) (by decide)
  have c1 : nxtS S n 1 = S 1 := hc 1 (by decide) (by decide) (by decide) (by decide) (by decide) (by decide) (by decide)
  have c6 : nxtS S n 6 = S 6 := hc 6 (by decide) (by decide) (by decide) (by decide) (by decide) (by decide) (by decide)
  have c7 : nxtS S n 7 = S 7 := hc 7 (by decide) (by decide) (by decide) (by decide) (by decide) (by decide) (by decide)
  have c13 : nxtS S n 13 = S 13 := hc 13 (by decide) (by decide) (by decide) (by decide) (by decide) (by decide) (by decide)
  have c12 : nxtS S n 12 = S 12 := hc 12 (by decide) (by decide) (by decide) (by decide) (by decide) (by decide) (by decide)
  have c5 : nxtS S n 5 = S 5 := hc 5 (by decide) (by decide) (by decide) (by decide) (by decide) (by decide) (by decide)
  have c15 : nxtS S n 15 = S 15 := hc 15 (by decide) (by decide) (by decide) (by decide) (by decide) (by decide) (by decide)
  refine ⟨h1, fun a y ha hy => ?_, fun a ha => ?_, fun q hq => ?_, ?_, ?_⟩
  · rw [ovL_c (by decide), ovL_c (by decide), ovL_c (by decide), c1, c6, c7, c8]; exact h2 a y ha hy
  · obtain ⟨g7, g8, g9, g10⟩ := h3 a ha
    have hn : a < n 0 := by omega
    have k114 : ¬ S 9 a 0 = 114 := by rcases g10 with z | z | z | z | z <;> rw [z] <;> decide
    have k10 : S 9 a 0 = 120 → S 10 a 0 = -1 := fun z => Classical.byContradiction fun w => by
      have hm := (hK8 a hn w).2
      unfold mayP at hm
      rw [z] at hm
      exact absurd hm (by decide)
    obtain ⟨n9, n10, n2⟩ := neS_at (S := up3 S 23 0 0 (S 23 0 0 + 1)) (n := n) (j := a) (m := n 0) hn k114 k10
    have e9 : nxtS S n 9 a 0 = cif (S 9 a 0 = 120 ∧ S 2 a 0 = S 23 0 0 + 1) 45 (S 9 a 0) := n9
    have e10 : nxtS S n 10 a 0 = S 10 a 0 := n10
    have e2 : ¬ (S 9 a 0 = 120 ∧ S 2 a 0 = S 23 0 0 + 1) → nxtS S n 2 a 0 = S 2 a 0 := n2
    rw [ovL_lt 3 ha, ovL_c (x := 7) (by decide), ovL_c (x := 9) (by decide), e9, e10, g7, g8]
    refine ⟨rfl, ?_, fun hx => ?_, ?_⟩
    · by_cases z : S 9 a 0 = 120
      · rw [g9 z]
      · rw [cif_f (fun w => z w.1), cif_f (fun w => z w.1)]
    · by_cases z : S 9 a 0 = 120 ∧ S 2 a 0 = S 23 0 0 + 1
      · rw [cif_t z] at hx; exact absurd hx (by decide)
      · rw [cif_f z] at hx
        rw [e2 z]; exact g9 hx
    · by_cases z : S 9 a 0 = 120 ∧ S 2 a 0 = S 23 0 0 + 1
      · rw [cif_t z]; exact Or.inl rfl
      · rw [cif_f z]; exact g10
  · rw [ovL_c (by decide), ovL_c (by decide), ovL_c (by decide), ovL_c (by decide), c13]; exact h4 q hq
  · rw [c12, c5]; exact h5
  · rw [c15, nxt_23]
    refine ⟨h6.1, ?_⟩
    rw [h6.2, ← nI_add]; rfl
-- which class
def condL (L : St) (f : Nat → Int32) (q : Nat) : Prop := L 1 q 0 ≤ 100 - f (ci (L 0 q 0)) ∧ L 2 q 0 ≤ sumLk f 5 ∧ sumLk f 5 ≤ L 3 q 0
theorem cond_iff {S T : St} {n : Nat → Nat} {L : St} {K yr q : Nat} {f g : Nat → Int32} (h : RR S n L K yr) (hI : Inv S n) (hT : T 13 = S 13) (hq : q < K) (hf : ∀ y, y < 5 → f y = g y) : condL L f q ↔ holdsP T q g := by
  obtain ⟨h1, -, -, h4, -⟩ := h
  obtain ⟨e0, e1, e2, e3⟩ := h4 q hq
  have hk : ∃ y, y < 5 ∧ S 13 q 0 = nI y := KY_of hI.1.1 q (by omega)
  have e : condL L f q ↔ holdsP S q f := by unfold condL holdsP; rw [e0, e1, e2, e3]
  have e' : holdsP T q g ↔ holdsP S q g := by unfold holdsP; rw [hT]
  exact e.trans ((holds_congr hk hf).trans e'.symm)
theorem by_eq {S T : St} {n : Nat → Nat} {L : St} {K yr : Nat} {f g : Nat → Int32} (h : RR S n L K yr) (hI : Inv S n) (hT : T 13 = S 13) (hf : ∀ y, y < 5 → f y = g y) : fK (condL L f) 0 K = kbel T n g := by
  have hn : n 2 = K := h.1.2.2.1
  unfold kbel
  rw [hn]
  exact fK_congr K 0 (fun q _ hq => cond_iff h hI hT (by omega) hf)
theorem fK_sgn {P : Nat → Prop} {K : Nat} (hK : K ≤ 8) : (fK P 0 K < 0 ↔ fK P 0 K = -1) := by
  rcases fK_cases (P := P) K 0 with h | ⟨q, -, h2, -, h⟩
  · rw [h]; exact ⟨fun _ => rfl, fun _ => by decide⟩
  · rw [h]; exact ⟨fun z => absurd z (nI_pos (by omega)), fun z => absurd z (nI_ne_m1 (by omega))⟩
-- what is found
def rowL (L : St) (a : Nat) (g : Nat → Int32) : Nat → St
  | 0 => L
  | c + 1 => up3 (rowL L a g c) 6 a c (g c)
theorem rowL_c {L : St} {a x : Nat} {g : Nat → Int32} (h : x ≠ 6) : ∀ c, rowL L a g c x = L x
  | 0 => rfl
  | c + 1 => (up3_c h).trans (rowL_c h c)
theorem rowL_o {L : St} {a b y : Nat} {g : Nat → Int32} (h : b ≠ a) : ∀ c, rowL L a g c 6 b y = L 6 b y
  | 0 => rfl
  | c + 1 => (up3_ne (fun q => h q.2.1)).trans (rowL_o h c)
theorem rowL_ge {L : St} {a : Nat} {g : Nat → Int32} : ∀ (c : Nat) {y : Nat}, c ≤ y → rowL L a g c 6 a y = L 6 a y
  | 0, _, _ => rfl
  | c + 1, y, h => (up3_ne (by omega)).trans (rowL_ge c (by omega))
theorem rowL_lt {L : St} {a : Nat} {g : Nat → Int32} : ∀ (c : Nat) {y : Nat}, y < c → rowL L a g c 6 a y = g y
  | 0, _, h => absurd h (Nat.not_lt_zero _)
  | c + 1, y, h => by
    by_cases hc : y = c
    · subst hc; exact up3_self
    · exact (up3_ne (by omega)).trans (rowL_lt c (by omega))
/-- the law's numbers when a panel or a protest has spoken -/
def setL (L : St) (a : Nat) (kk st u : Int32) : St := up3 (up3 (up3 L 7 a 0 kk) 8 a 0 st) 9 a 0 u
theorem setL_c {L : St} {a x : Nat} {kk st u : Int32} (h7 : x ≠ 7) (h8 : x ≠ 8) (h9 : x ≠ 9) : setL L a kk st u x = L x := by unfold setL; rw [up3_c h9, up3_c h8, up3_c h7]
theorem setL_o {L : St} {a b x y : Nat} {kk st u : Int32} (h : b ≠ a) : setL L a kk st u x b y = L x b y := by unfold setL; rw [up3_ne (fun q => h q.2.1), up3_ne (fun q => h q.2.1), up3_ne (fun q => h q.2.1)]
theorem setL_7 {L : St} {a : Nat} {kk st u : Int32} : setL L a kk st u 7 a 0 = kk := by unfold setL; rw [up3_ne (by omega), up3_ne (by omega), up3_self]
theorem setL_8 {L : St} {a : Nat} {kk st u : Int32} : setL L a kk st u 8 a 0 = st := by unfold setL; rw [up3_ne (by omega), up3_self]
theorem setL_9 {L : St} {a : Nat} {kk st u : Int32} : setL L a kk st u 9 a 0 = u := by unfold setL; exact up3_self
theorem RR_set {S S2 : St} {n : Nat → Nat} {L : St} {K yr a : Nat} {g : Nat → Int32} {kk st : Int32} (h : RR S n L K yr) (ha : a < 3)
    (hc : ∀ x, x = 5 ∨ x = 6 ∨ x = 7 ∨ x = 12 ∨ x = 13 ∨ x = 23 → S2 x = S x) (ho : ∀ x b y, b ≠ a → x = 1 ∨ x = 2 ∨ x = 8 ∨ x = 9 ∨ x = 10 → S2 x b y = S x b y) (h15 : S2 15 0 0 = S 15 0 0)
    (h1' : ∀ y, y < 5 → S2 1 a y = g y) (hg : ∀ y, y < 5 → 0 ≤ g y ∧ g y ≤ 100) (h10 : S2 10 a 0 = kk) (h9 : S2 9 a 0 = st) (h2' : S2 2 a 0 = S 23 0 0 + 2) (hst : st = 45 ∨ st = 110 ∨ st = 99 ∨ st = 101 ∨ st = 120) :
    RR S2 n (setL (rowL L a g 5) a kk st (S 23 0 0 + 2)) K yr := by
  obtain ⟨h1, h2, h3, h4, h5, h6⟩ := h
  refine ⟨h1, fun b y hb hy => ?_, fun b hb => ?_, fun q hq => ?_, ?_, ?_⟩
  · rw [setL_c (by decide) (by decide) (by decide), setL_c (by decide) (by decide) (by decide), setL_c (by decide) (by decide) (by decide), rowL_c (by decide), rowL_c (by decide), hc 6 (by decide), hc 7 (by decide)]
    refine ⟨(h2 b y hb hy).1, (h2 b y hb hy).2.1, ?_⟩
    by_cases hz : b = a
    · subst hz
      rw [rowL_lt 5 hy, h1' y hy]
      exact fun _ => ⟨rfl, hg y hy⟩
    · rw [rowL_o hz, ho 1 b y hz (by decide), ho 8 b 0 hz (by decide)]
      exact (h2 b y hb hy).2.2
  · by_cases hz : b = a
    · subst hz
      rw [setL_7, setL_8, setL_9, h10, h9, h2']
      exact ⟨rfl, rfl, fun _ => rfl, hst⟩
    · rw [setL_o hz, setL_o hz, setL_o hz, rowL_c (by decide), rowL_c (by decide), rowL_c (by decide), ho 10 b 0 hz (by decide), ho 9 b 0 hz (by decide), ho 2 b 0 hz (by decide)]
      exact h3 b hb
  · rw [setL_c (by decide) (by decide) (by decide), setL_c (by decide) (by decide) (by decide), setL_c (by decide) (by decide) (by decide), setL_c (by decide) (by decide) (by decide), rowL_c (by decide), rowL_c (by decide), rowL_c (by decide), rowL_c (by decide), hc 13 (by decide)]
    exact h4 q hq
  · rw [hc 12 (by decide), hc 5 (by decide)]; exact h5
  · rw [h15, hc 23 (by decide)]; exact h6
noncomputable def stL (B v : Int32) : Int32 := cif (B < 0) 101 v
-- the numbers of the class when a panel has spoken
theorem te_all {S : St} {n : Nat → Nat} {L : St} {K yr a : Nat} (h : RR S n L K yr) (hI : Inv S n) (ha : a < 3) :
    RR (teS S n a) n (setL (rowL L a (shv S a) 5) a (fK (condL L (shv S a)) 0 K) (stL (fK (condL L (shv S a)) 0 K) 110) (S 23 0 0 + 2)) K yr ∧ teS S n a 9 a 0 = stL (fK (condL L (shv S a)) 0 K) 110 ∧ teS S n a 15 = S 15 ∧ teS S n a 23 = S 23 := by
  have hK : K ≤ 8 := by have := hI.1.1.2.2.1; have := h.1.2.2.1; omega
  have hn : a < n 0 := by have := h.1.1; omega
  have hB : fK (condL L (shv S a)) 0 K = kbel (fsS S a) n (fMea (fsS S a) a 2) := by_eq h hI (fsS_c (by decide) (by decide)) (fun y hy => (fsS_1 hy).symm)
  have cc : ∀ x, x ≠ 1 → x ≠ 8 → x ≠ 2 → x ≠ 9 → x ≠ 10 → x ≠ 11 → x ≠ 21 → x ≠ 22 → x ≠ 30 → x ≠ 31 → teS S n a x = S x := fun x a1 a8 a2 a9 a10 a11 a21 a22 a30 a31 => by
    rw [teS_c x a30 a31]; unfold sbfS; rw [stlS_c a2 a9 a10 a11 a21 a22, fsS_c a1 a8]
  have e9 : teS S n a 9 a 0 = stL (fK (condL L (shv S a)) 0 K) 110 := by
    rw [teS_c 9 (by decide) (by decide)]; unfold sbfS
    rw [stlS_9, ← hB]
    unfold stL
    by_cases z : fK (condL L (shv S a)) 0 K = -1
    · rw [cif_t z, cif_t ((fK_sgn hK).mpr z)]
    · rw [cif_f z, cif_f (fun w => z ((fK_sgn hK).mp w))]
  refine ⟨RR_set h ha (fun x hx => ?_) (fun x b y hb hx => ?_) ?_ (fun y hy => ?_) (fun y hy => shv_b hI hn hy) ?_ e9 ?_ ?_, e9, ?_, ?_⟩
  · rcases hx with rfl | rfl | rfl | rfl | rfl | rfl <;> exact cc _ (by decide) (by decide) (by decide) (by decide) (by decide) (by decide) (by decide) (by decide) (by decide) (by decide)
  · have e : teS S n a x = sbfS (fsS S a) n a 110 x := teS_c x (by omega) (by omega)
    rw [e]; unfold sbfS
    rw [stlS_o hb (by omega) (by omega), fsS_o hb]
  · rw [cc 15 (by decide) (by decide) (by decide) (by decide) (by decide) (by decide) (by decide) (by decide) (by decide) (by decide)]
  · rw [teS_c 1 (by decide) (by decide)]; unfold sbfS
    rw [stlS_c (by decide) (by decide) (by decide) (by decide) (by decide) (by decide), fsS_1 hy]
  · rw [teS_c 10 (by decide) (by decide)]; unfold sbfS
    rw [stlS_10, hB]
  · rw [teS_c 2 (by decide) (by decide)]; unfold sbfS
    rw [stl_2, fsS_c (by decide) (by decide)]
  · unfold stL
    by_cases z : fK (condL L (shv S a)) 0 K < 0
    · rw [cif_t z]; decide
    · rw [cif_f z]; decide
  · exact cc 15 (by decide) (by decide) (by decide) (by decide) (by decide) (by decide) (by decide) (by decide) (by decide) (by decide)
  · exact cc 23 (by decide) (by decide) (by decide) (by decide) (by decide) (by decide) (by decide) (by decide) (by decide) (by decide)
-- .. and a protest
theorem gain9 : ∀ p, p < 101 → ∀ q, q < 101 → (20 < nI p - nI q ↔ nI q + 20 < nI p) := by decide +kernel
theorem to101 {x : Int32} (h : 0 ≤ x ∧ x ≤ 100) : ∃ q, q < 101 ∧ x = nI q := by
  obtain ⟨q, h1, h2⟩ := nI_of2 (M := 100) (n := 100) (by decide) (Int32.not_lt.mpr h.1) h.2
  exact ⟨q, by omega, h2⟩
noncomputable def hidB (L : St) (a c : Nat) : Prop := ∃ y, y < c ∧ L 6 a y + 20 < L 4 a y
theorem hid_iff {S : St} {n : Nat → Nat} {L : St} {K yr a : Nat} (h : RR S n L K yr) (hI : Inv S n) (ha : a < 3) (hm : mayP S a) : hidB L a 5 ↔ hidP S a := by
  obtain ⟨h1, h2, -⟩ := h
  obtain ⟨-, -, -, -, -, -, hK8, hMK, -, -, -, -, -, -, hME, -⟩ := hI
  have h8 : ¬ S 8 a 0 = 0 := (hK8 a (by omega) (hMK a (by omega) hm)).1
  have e : ∀ y, y < 5 → (L 6 a y + 20 < L 4 a y ↔ 20 < fMea S a 0 y - fMea S a 2 y) := fun y hy => by
    obtain ⟨g4, -, gg⟩ := h2 a y ha hy
    obtain ⟨g6, g0, g1⟩ := gg h8
    obtain ⟨p, hp, ep⟩ := to101 (hME a y (by omega) hy).1
    obtain ⟨q, hq, eq⟩ := to101 ⟨g0, g1⟩
    rw [g4, g6]
    show S 1 a y + 20 < S 6 a y ↔ 20 < S 6 a y - S 1 a y
    rw [ep, eq]
    exact (gain9 p hp q hq).symm
  exact ⟨fun ⟨y, hy, z⟩ => ⟨y, hy, (e y hy).mp z⟩, fun ⟨y, hy, z⟩ => ⟨y, hy, (e y hy).mpr z⟩⟩
noncomputable def kkP (L : St) (a K : Nat) : Int32 := cif (hidB L a 5) (-1) (fK (condL L (fun y => L 4 a y)) 0 K)
noncomputable def stP' (L : St) (a K : Nat) : Int32 := cif (hidB L a 5) 120 (stL (fK (condL L (fun y => L 4 a y)) 0 K) 99)
theorem pr_all {S : St} {n : Nat → Nat} {L : St} {K yr a : Nat} (h : RR S n L K yr) (hI : Inv S n) (ha : a < 3) (hm : mayP S a) :
    RR (prS S n 5 a) n (setL (rowL L a (fun y => L 4 a y) 5) a (kkP L a K) (stP' L a K) (S 23 0 0 + 2)) K yr ∧ exS S n a 10 a 0 = kkP L a K ∧ prS S n 5 a 15 5 0 = cif (kkP L a K = L 7 a 0) (S 15 5 0 - 100) (S 15 5 0) ∧ prS S n 5 a 23 = S 23 := by
  have hK : K ≤ 8 := by have := hI.1.1.2.2.1; have := h.1.2.2.1; omega
  have hn : a < n 0 := by have := h.1.1; omega
  have hL4 : ∀ y, y < 5 → L 4 a y = S 6 a y := fun y hy => (h.2.1 a y ha hy).1
  have hL7 : L 7 a 0 = S 10 a 0 := (h.2.2.1 a ha).1
  have hB : fK (condL L (fun y => L 4 a y)) 0 K = kbel (fiS S a) n (fMea (fiS S a) a 2) := by_eq h hI (fiS_c (by decide) (by decide)) (fun y hy => (hL4 y hy).trans (fiS_1 hy).symm)
  have hh := hid_iff h hI ha hm
  have x10 : exS S n a 10 a 0 = kkP L a K := by
    unfold exS kkP
    by_cases z : hidP S a
    · rw [cif_t z, cif_t (hh.mpr z), stlS_10]
    · rw [cif_f z, cif_f (fun w => z (hh.mp w))]; unfold sbfS; rw [stlS_10, hB]
  have x9 : exS S n a 9 a 0 = stP' L a K := by
    unfold exS stP'
    by_cases z : hidP S a
    · rw [cif_t z, cif_t (hh.mpr z), stlS_9]
    · rw [cif_f z, cif_f (fun w => z (hh.mp w))]; unfold sbfS stL
      rw [stlS_9, ← hB]
      by_cases w : fK (condL L (fun y => L 4 a y)) 0 K = -1
      · rw [cif_t w, cif_t ((fK_sgn hK).mpr w)]
      · rw [cif_f w, cif_f (fun v => w ((fK_sgn hK).mp v))]
  have x2 : exS S n a 2 a 0 = S 23 0 0 + 2 := by
    unfold exS
    by_cases z : hidP S a
    · rw [cif_t z, stl_2, fiS_c (by decide) (by decide)]
    · rw [cif_f z]; unfold sbfS; rw [stl_2, fiS_c (by decide) (by decide)]
  have x1 : ∀ y, y < 5 → exS S n a 1 a y = S 6 a y := fun y hy => by
    unfold exS
    by_cases z : hidP S a
    · rw [cif_t z, stlS_c (by decide) (by decide) (by decide) (by decide) (by decide) (by decide), fiS_1 hy]
    · rw [cif_f z]; unfold sbfS; rw [stlS_c (by decide) (by decide) (by decide) (by decide) (by decide) (by decide), fiS_1 hy]
  have xo : ∀ x b y, b ≠ a → x ≠ 21 → x ≠ 22 → exS S n a x b y = S x b y := fun x b y hb h21 h22 => by
    unfold exS
    by_cases z : hidP S a
    · rw [cif_t z, stlS_o hb h21 h22, fiS_o hb]
    · rw [cif_f z]; unfold sbfS; rw [stlS_o hb h21 h22, fiS_o hb]
  have px : ∀ x, x ≠ 15 → x ≠ 30 → x ≠ 31 → prS S n 5 a x = exS S n a x := fun x h15 h30 h31 => by
    unfold prS
    by_cases z : exS S n a 10 a 0 = S 10 a 0
    · rw [cif_t z, up3_c h15, exJ_c x h30 h31]
    · rw [cif_f z, exJ_c x h30 h31]
  have x15 : exS S n a 15 = S 15 := exS_c (by decide) (by decide) (by decide) (by decide) (by decide) (by decide) (by decide) (by decide)
  have j15 : exJ S n a 15 = S 15 := (exJ_c 15 (by decide) (by decide)).trans x15
  refine ⟨RR_set h ha (fun x hx => ?_) (fun x b y hb hx => ?_) ?_ (fun y hy => ?_) (fun y hy => ?_) ?_ ?_ ?_ ?_, x10, ?_, ?_⟩
  · rcases hx with rfl | rfl | rfl | rfl | rfl | rfl <;> rw [px _ (by decide) (by decide) (by decide)] <;> exact exS_c (by decide) (by decide) (by decide) (by decide) (by decide) (by decide) (by decide) (by decide)
  · rw [px x (by omega) (by omega) (by omega)]; exact xo x b y hb (by omega) (by omega)
  · unfold prS
    by_cases z : exS S n a 10 a 0 = S 10 a 0
    · rw [cif_t z, up3_ne (by omega), j15]
    · rw [cif_f z, j15]
  · rw [px 1 (by decide) (by decide) (by decide), x1 y hy]; exact (hL4 y hy).symm
  · rw [hL4 y hy]
    obtain ⟨-, -, -, -, -, -, -, -, -, -, -, -, -, -, hME, -⟩ := hI
    exact (hME a y hn hy).1
  · rw [px 10 (by decide) (by decide) (by decide)]; exact x10
  · rw [px 9 (by decide) (by decide) (by decide)]; exact x9
  · rw [px 2 (by decide) (by decide) (by decide)]; exact x2
  · unfold stP' stL
    by_cases z : hidB L a 5
    · rw [cif_t z]; decide
    · rw [cif_f z]
      by_cases w : fK (condL L (fun y => L 4 a y)) 0 K < 0
      · rw [cif_t w]; decide
      · rw [cif_f w]; decide
  · unfold prS
    rw [x10, hL7]
    by_cases z : kkP L a K = S 10 a 0
    · rw [cif_t z, cif_t z, up3_self]
    · rw [cif_f z, cif_f z, j15]
  · rw [px 23 (by decide) (by decide) (by decide)]; exact exS_c (by decide) (by decide) (by decide) (by decide) (by decide) (by decide) (by decide) (by decide)
-- the codes of the calls
theorem cd_ath0 {n : Nat → Nat} {a : Nat} (h : a < n 0) : cd_ath n (nI a) = 0 := by unfold cd_ath; exact cif_t (ix_nI h)
theorem le100 {v : Nat} (hv : v < 101) : (0 : Int32) ≤ nI v ∧ nI v ≤ 100 := ⟨nI_pos' (by omega), Int32.not_lt.mp (fun z => absurd ((nI_ltI (a := 100) (b := v) (by decide) (by omega)).mp z) (by omega))⟩
theorem cd_body0 {n : Nat → Nat} {a y v : Nat} (h : a < n 0) (hy : y < 5) (hv : v < 101) : cd_body n (nI a) (nI y) (nI v) = 0 := by
  have h2 : ix (nI y) 5 ∧ (0 : Int32) ≤ nI v ∧ nI v ≤ 100 := ⟨ix_nI hy, le100 hv⟩
  unfold cd_body
  rw [cif_t (ix_nI h), cif_t h2]
theorem cd_show0 {n : Nat → Nat} {a y : Nat} {v : Int32} (h : a < n 0) (hy : y < 5) (hv : v = -1 ∨ ∃ q, q < 101 ∧ v = nI q) : cd_show n (nI a) (nI y) v = 0 := by
  have h2 : ix (nI y) 5 ∧ (v = -1 ∨ (0 ≤ v ∧ v ≤ 100)) := ⟨ix_nI hy, hv.elim Or.inl (fun ⟨q, hq, e⟩ => Or.inr (by rw [e]; exact le100 hq))⟩
  unfold cd_show
  rw [cif_t (ix_nI h), cif_t h2]
theorem fair_ok {S : St} {n : Nat → Nat} {L : St} {K yr a : Nat} (h : RR S n L K yr) (ha : a < 3) : fairP S a 0 1 := by
  obtain ⟨-, -, -, -, ⟨h0, h1, h5⟩, -⟩ := h
  unfold fairP
  rw [h0, h1, h5 a ha]
  refine ⟨by decide, fun z => ?_, fun z => ?_⟩
  · exact absurd ((nI_eq (a := 3) (by omega) (by omega)).mp z) (by omega)
  · exact absurd ((nI_eq (a := 4) (by omega) (by omega)).mp z) (by omega)
theorem cd_test0 {S : St} {n : Nat → Nat} {L : St} {K yr a : Nat} (h : RR S n L K yr) (ha : a < 3) (hx : ¬ S 9 a 0 = 120) : cd_test S n (nI a) 0 1 = 0 := by
  have e : ci (nI a) = a := nI_clamp (by omega)
  unfold cd_test
  rw [cif_t ⟨ix_nI (by have := h.1.1; omega), ⟨0, by have := h.1.2.1; omega, rfl⟩, ⟨1, by have := h.1.2.1; omega, rfl⟩⟩, e, cif_t (show fairP S a (ci 0) (ci 1) from fair_ok h ha), cif_f hx]
theorem cd_test3 {S : St} {n : Nat → Nat} {L : St} {K yr a : Nat} (h : RR S n L K yr) (ha : a < 3) (hx : S 9 a 0 = 120) : cd_test S n (nI a) 0 1 = 3 := by
  have e : ci (nI a) = a := nI_clamp (by omega)
  unfold cd_test
  rw [cif_t ⟨ix_nI (by have := h.1.1; omega), ⟨0, by have := h.1.2.1; omega, rfl⟩, ⟨1, by have := h.1.2.1; omega, rfl⟩⟩, e, cif_t (show fairP S a (ci 0) (ci 1) from fair_ok h ha), cif_t hx]
theorem cd_prot0 {S : St} {n : Nat → Nat} {L : St} {K yr a : Nat} (h : RR S n L K yr) (ha : a < 3) (hm : mayP S a) (h100 : 100 ≤ S 15 5 0) : cd_protest S n 5 (nI a) = 0 := by
  have e : ci (nI a) = a := nI_clamp (by omega)
  unfold cd_protest
  rw [cif_t ⟨⟨5, by decide, rfl⟩, ix_nI (by have := h.1.1; omega)⟩, e, cif_t (show mayP S a ∧ 100 ≤ S 15 (ci 5) 0 from ⟨hm, h100⟩)]
theorem cd_prot2 {S : St} {n : Nat → Nat} {L : St} {K yr a : Nat} (h : RR S n L K yr) (ha : a < 3) (hm : ¬ (mayP S a ∧ 100 ≤ S 15 5 0)) : cd_protest S n 5 (nI a) = 2 := by
  have e : ci (nI a) = a := nI_clamp (by omega)
  unfold cd_protest
  rw [cif_t ⟨⟨5, by decide, rfl⟩, ix_nI (by have := h.1.1; omega)⟩, e, cif_f (show ¬ (mayP S a ∧ 100 ≤ S 15 (ci 5) 0) from hm)]
theorem cd_money5 : cd_money 5 = 0 := cif_t ⟨5, by decide, rfl⟩
theorem cd_money0 : cd_money 0 = 0 := cif_t ⟨0, by decide, rfl⟩
theorem cd_money6 : cd_money 6 = 1 := cif_f (fun ⟨q, h, e⟩ => absurd ((nI_eq (a := 6) (by omega) (by omega)).mp e) (by omega))
theorem cd_next0 {S : St} {n : Nat → Nat} {L : St} {K yr : Nat} (h : RR S n L K yr) (hy : yr < 40) : cd_next S = 0 := by
  unfold cd_next
  rw [h.2.2.2.2.2.2]
  exact cif_t ((nI_ltI (b := 40) (by omega) (by omega)).mpr hy)
theorem cd_until0 {S : St} {n : Nat → Nat} {a : Nat} (h : a < n 0) (ha : a < 16) (hx : S 9 a 0 = 120) : cd_until S n (nI a) = 0 := by
  have e : ci (nI a) = a := nI_clamp (by omega)
  unfold cd_until
  rw [cif_t (ix_nI h), e, cif_t (show waitP S a from Or.inl hx)]
theorem cd_until2 {S : St} {n : Nat → Nat} {a : Nat} (h : a < n 0) (ha : a < 16) (hx : ¬ S 9 a 0 = 120) (h114 : ¬ S 9 a 0 = 114) : cd_until S n (nI a) = 2 := by
  have e : ci (nI a) = a := nI_clamp (by omega)
  unfold cd_until
  rw [cif_t (ix_nI h), e, cif_f (show ¬ waitP S a from fun z => z.elim hx h114)]
