def bt (x : Int32) (i : Nat) : Bool := x.toBitVec.getLsbD i
theorem b_ext {x y : Int32} (h : ∀ i, i < 32 → bt x i = bt y i) : x = y := Int32.toBitVec_inj.mp (BitVec.eq_of_getLsbD_eq (fun i hi => h i hi))
theorem b_or (x y : Int32) (i : Nat) : bt (x ||| y) i = (bt x i || bt y i) := by unfold bt; rw [Int32.toBitVec_or, BitVec.getLsbD_or]
theorem b_and (x y : Int32) (i : Nat) : bt (x &&& y) i = (bt x i && bt y i) := by unfold bt; rw [Int32.toBitVec_and, BitVec.getLsbD_and]
theorem b_xor (x y : Int32) (i : Nat) : bt (x ^^^ y) i = (bt x i ^^ bt y i) := by unfold bt; rw [Int32.toBitVec_xor, BitVec.getLsbD_xor]
theorem b_big {x : Int32} {i : Nat} (h : 32 ≤ i) : bt x i = false := BitVec.getLsbD_of_ge _ _ h
theorem b_255 (i : Nat) : bt 255 i = decide (i < 8) := by
  rcases Nat.lt_or_ge i 32 with h | h
  · exact (by decide +kernel : ∀ i, i < 32 → bt 255 i = decide (i < 8)) i h
  · rw [b_big h, decide_eq_false (by omega)]
theorem b_65535 (i : Nat) : bt 65535 i = decide (i < 16) := by
  rcases Nat.lt_or_ge i 32 with h | h
  · exact (by decide +kernel : ∀ i, i < 32 → bt 65535 i = decide (i < 16)) i h
  · rw [b_big h, decide_eq_false (by omega)]
theorem b_m1 : ∀ i, i < 32 → bt (-1) i = true := by decide +kernel
theorem b_0 (i : Nat) : bt 0 i = false := BitVec.getLsbD_zero
theorem s_l : ∀ n, n < 32 → ((nI n &&& 31).toBitVec.smod 32).toNat = n := by decide +kernel
theorem s_u : ∀ n, n < 32 → (((nI n).toUInt32 &&& Int32.toUInt32 31).toBitVec % 32).toNat = n := by decide +kernel
theorem b_shl (n : Nat) (hn : n < 32) (x : Int32) {i : Nat} (hi : i < 32) : bt (x <<< (nI n &&& 31)) i = (decide (n ≤ i) && bt x (i - n)) := by
  unfold bt
  rw [Int32.toBitVec_shiftLeft]
  show (x.toBitVec <<< ((nI n &&& 31).toBitVec.smod 32).toNat).getLsbD i = _
  rw [s_l n hn, BitVec.getLsbD_shiftLeft]
  rcases Nat.lt_or_ge i n with h | h
  · simp [h, Nat.not_le.mpr h]
  · simp [hi, h, Nat.not_lt.mpr h]
theorem b_ushr (n : Nat) (hn : n < 32) (x : Int32) (i : Nat) : bt ((x.toUInt32 >>> ((nI n).toUInt32 &&& Int32.toUInt32 31)).toInt32) i = bt x (n + i) := by
  show (x.toUInt32 >>> ((nI n).toUInt32 &&& Int32.toUInt32 31)).toBitVec.getLsbD i = x.toUInt32.toBitVec.getLsbD (n + i)
  rw [UInt32.toBitVec_shiftRight]
  show (x.toUInt32.toBitVec >>> (((nI n).toUInt32 &&& Int32.toUInt32 31).toBitVec % 32).toNat).getLsbD i = _
  rw [s_u n hn, BitVec.getLsbD_ushiftRight]
theorem b_sshr (n : Nat) (hn : n < 32) (x : Int32) {i : Nat} (hi : i < 32) : bt (x >>> (nI n &&& 31)) i = if n + i < 32 then bt x (n + i) else bt x 31 := by
  unfold bt
  rw [Int32.toBitVec_shiftRight]
  show (x.toBitVec.sshiftRight ((nI n &&& 31).toBitVec.smod 32).toNat).getLsbD i = _
  rw [s_l n hn, BitVec.getLsbD_sshiftRight, BitVec.msb_eq_getLsbD_last]
  simp [hi]
/-! WORDS FOR THE NUMBERS, 6: bits, places, the reference's small methods. -/
theorem b_one (i : Nat) : bt 1 i = decide (i = 0) := by
  by_cases h : i < 32
  · exact (by decide +kernel : ∀ i, i < 32 → bt 1 i = decide (i = 0)) i h
  · rw [b_big (by omega)]
    have : ¬ i = 0 := by omega
    simp [this]
theorem b_low {x : Int32} : x &&& 1 = 1 ↔ bt x 0 = true := by
  constructor
  · intro h
    have h1 : bt (x &&& 1) 0 = bt 1 0 := by rw [h]
    rw [b_and, b_one] at h1
    simpa using h1
  · intro h
    refine b_ext (fun i _ => ?_)
    rw [b_and, b_one]
    by_cases hi : i = 0
    · subst hi; simp [h]
    · simp [hi]
theorem bit_iff {x : Int32} {q : Nat} (hq : q < 32) : bitP x (nI q) ↔ bt x q = true := by
  unfold bitP ushr
  rw [b_low, b_ushr q hq]; rfl
theorem bit_shr {x : Int32} {q : Nat} (hq : q < 32) : (x >>> (nI q &&& 31)) &&& 1 = 1 ↔ bitP x (nI q) := by
  rw [bit_iff hq, b_low, b_sshr q hq x (by omega), if_pos (by omega)]; rfl
theorem isin_ix {x : Int32} {N : Nat} (hN : N < 2 ^ 20) : (0 ≤ x ∧ x ≤ nI N - 1) ↔ ix x N := by
  cases N with
  | zero =>
    constructor
    · intro ⟨h1, h2⟩
      have h3 : (nI 0 - 1) < 0 := by decide
      exact absurd (Int32.lt_of_le_of_lt h2 h3) (Int32.not_lt.mpr h1)
    · intro ⟨a, ha, _⟩; omega
  | succ M =>
    rw [nI_pred]
    constructor
    · intro ⟨h1, h2⟩
      obtain ⟨a, ha, he⟩ := nI_of (x := x) (Int32.not_lt.mpr h1)
      subst he
      exact ⟨a, by have := (nI_leI ha (by omega)).mp h2; omega, rfl⟩
    · rintro ⟨a, ha, rfl⟩
      exact ⟨nI_pos' (by omega), (nI_leI (by omega) (by omega)).mpr (by omega)⟩
theorem isin_5 {x : Int32} : (0 ≤ x ∧ x ≤ 5) ↔ ix x 6 := isin_ix (N := 6) (by decide)
theorem isin_4 {x : Int32} : (0 ≤ x ∧ x ≤ 4) ↔ ix x 5 := isin_ix (N := 5) (by decide)
def MB (k : Nat → Nat) : Prop := k 0 ≤ 16 ∧ k 1 ≤ 8 ∧ k 2 ≤ 8 ∧ k 3 ≤ 8
/-- the sum of lacks of a row of five -/
theorem holds_congr {S : St} {q : Nat} {f g : Nat → Int32} (hk : ∃ y, y < 5 ∧ S 13 q 0 = nI y) (h : ∀ y, y < 5 → f y = g y) : holdsP S q f ↔ holdsP S q g := by
  obtain ⟨y, hy, e⟩ := hk
  have hs : ∀ c, c ≤ 5 → sumLk f c = sumLk g c := by
    intro c
    induction c with
    | zero => intro _; rfl
    | succ c ih =>
      intro hc
      show sumLk f c + (100 - f c) = sumLk g c + (100 - g c)
      rw [ih (by omega), h c (by omega)]
  unfold holdsP
  rw [hs 5 (by omega), e, nI_clamp (by omega), h y hy]
theorem fK_congr {P Q : Nat → Prop} : ∀ (r j : Nat), (∀ q, j ≤ q → q < j + r → (P q ↔ Q q)) → fK P j r = fK Q j r
  | 0, _, _ => rfl
  | r + 1, j, h => by
    have h1 := fK_congr r (j + 1) (fun q a b => h q (by omega) (by omega))
    by_cases hp : P j
    · exact (cif_t hp).trans (cif_t ((h j (by omega) (by omega)).mp hp)).symm
    · exact (cif_f hp).trans (h1.trans (cif_f (fun z => hp ((h j (by omega) (by omega)).mpr z))).symm)
theorem kbel_congr {S : St} {n : Nat → Nat} {f g : Nat → Int32} (hk : ∀ q, q < n 2 → ∃ y, y < 5 ∧ S 13 q 0 = nI y) (h : ∀ y, y < 5 → f y = g y) : kbel S n f = kbel S n g :=
  fK_congr _ _ (fun q _ hq => holds_congr (hk q (by omega)) h)
/-- the numbers of both sides -/
def Inv (S : St) (n : Nat → Nat) : Prop :=
  CI S n ∧
  (∀ i, n 0 ≤ i → S 8 i 0 = 0 ∧ S 11 i 0 = 0) ∧
  (∀ q, n 2 ≤ q → S 14 q 0 = -1) ∧
  (∀ e, n 3 ≤ e → S 18 e 0 = 0 ∧ S 19 e 0 = 0 ∧ ∀ q, S 17 e q = 100) ∧
  (∀ i, (S 8 i 0 = 0 ∨ S 8 i 0 = 1) ∧ (S 11 i 0 = 0 ∨ S 11 i 0 = 1) ∧ (S 18 i 0 = 0 ∨ S 18 i 0 = 1) ∧ (S 19 i 0 = 0 ∨ S 19 i 0 = 1)) ∧
  (∀ i, i < n 0 → ¬ S 8 i 0 = 0 → ∀ y, y < 5 → S 1 i y = S 30 i y) ∧
  (∀ i, i < n 0 → ¬ S 10 i 0 = -1 → ¬ S 8 i 0 = 0 ∧ mayP S i) ∧
  (∀ i, i < n 0 → mayP S i → ¬ S 10 i 0 = -1) ∧
  (∀ i, i < n 0 → waitP S i → S 2 i 0 = S 31 i 0 ∧ ¬ S 31 i 0 = -1) ∧
  (∀ i, i < n 0 → ¬ waitP S i → S 31 i 0 = -1) ∧
  (∀ i, i < n 0 → ¬ S 11 i 0 = 0 → ¬ S 10 i 0 = -1) ∧
  (∀ e a, ¬ S 20 e a = -1 → S 19 e 0 = 0 → S 21 e a = 0 → S 10 a 0 = S 20 e a) ∧
  (∀ i, i < n 0 → S 9 i 0 = 99 → ∃ q, q < n 2 ∧ S 10 i 0 = nI q ∧ holdsP S q (fMea S i 2)) ∧
  (∀ e a, ¬ S 21 e a = 0 → S 22 e a = -1) ∧
  (∀ i y, i < n 0 → y < 5 → (0 ≤ S 6 i y ∧ S 6 i y ≤ 100) ∧ (-1 ≤ S 7 i y ∧ S 7 i y ≤ 100) ∧ (¬ S 8 i 0 = 0 → 0 ≤ S 30 i y ∧ S 30 i y ≤ 100)) ∧
  (0 ≤ S 23 0 0 ∧ S 23 0 0 ≤ 40) ∧
  (∀ e q, e < n 3 → q < 8 → bitP (S 16 e 0) (nI q) → q < n 2) ∧
  (∀ i, i < n 0 → ∃ l, l < 6 ∧ S 5 i 0 = nI l)
