/-! WORDS FOR THE NUMBERS, 12: what is made anew. -/
theorem ushr_nat {x : Int32} {j : Nat} (hj : j < 32) : (ushr x (nI j)).toBitVec.toNat = x.toBitVec.toNat / 2 ^ j := by
  unfold ushr
  show (x.toUInt32.toBitVec >>> (((nI j).toUInt32 &&& Int32.toUInt32 31).toBitVec % 32).toNat).toNat = _
  rw [s_u j hj, BitVec.toNat_ushiftRight, Nat.shiftRight_eq_div_pow]
  rfl
theorem i32_nI (x : Int32) : x = nI x.toBitVec.toNat := Int32.toBitVec_inj.mp (by show _ = BitVec.ofNat 32 _; simp)
theorem nI_nat {a : Nat} (h : a < 2 ^ 32) : (nI a).toBitVec.toNat = a := by
  show (BitVec.ofNat 32 a).toNat = a
  rw [BitVec.toNat_ofNat, Nat.mod_eq_of_lt h]
theorem below_ix {x : Int32} {j : Nat} (hj : j ≤ 16) : belowP x (nI j) ↔ ix x (2 ^ j) := by
  have hp : (2 : Nat) ^ j ≤ 2 ^ 16 := Nat.pow_le_pow_right (by decide) hj
  have hp0 : 0 < (2 : Nat) ^ j := Nat.pow_pos (by decide)
  unfold belowP
  constructor
  · intro h
    have h1 := ushr_nat (x := x) (j := j) (by omega)
    rw [h] at h1
    have h2 : x.toBitVec.toNat / 2 ^ j = 0 := by rw [← h1]; rfl
    exact ⟨x.toBitVec.toNat, (Nat.div_eq_zero_iff_lt hp0).mp h2, i32_nI x⟩
  · rintro ⟨a, ha, rfl⟩
    have h1 := ushr_nat (x := nI a) (j := j) (by omega)
    rw [nI_nat (by omega), Nat.div_eq_of_lt ha] at h1
    exact Int32.toBitVec_inj.mp (BitVec.eq_of_toNat_eq h1)
theorem shl_pow : ∀ j, j ≤ 16 → (1 : Int32) <<< (nI j &&& 31) - 1 = nI (2 ^ j) - 1 := by decide +kernel
theorem in_pow {x : Int32} {j : Nat} (hj : j ≤ 16) : (0 ≤ x ∧ x ≤ (1 : Int32) <<< (nI j &&& 31) - 1) ↔ belowP x (nI j) := by
  have hp : (2 : Nat) ^ j ≤ 2 ^ 16 := Nat.pow_le_pow_right (by decide) hj
  rw [shl_pow j hj, isin_ix (by omega), below_ix hj]
theorem in_pow1 {x : Int32} {j : Nat} (hj : j ≤ 16) : (1 ≤ x ∧ x ≤ (1 : Int32) <<< (nI j &&& 31) - 1) ↔ (¬ x = 0 ∧ belowP x (nI j)) := by
  rw [← in_pow hj]
  have e0 : (0 : Int32).toInt = 0 := by decide
  have e1 : (1 : Int32).toInt = 1 := by decide
  rw [Int32.le_iff_toInt_le, Int32.le_iff_toInt_le, Int32.le_iff_toInt_le, ← Int32.toInt_inj, e0, e1]
  omega
def nUp (n : Nat → Nat) (i : Nat) : Nat → Nat := fun x => if x = i ∨ x = i + 4 then n i + 1 else n x
theorem nUp_k {k : Nat → Nat} {j : Nat} : ∀ i, i < 4 → nUp k j i = (fun x => if x = j then k j + 1 else k x) i := by
  intro i hi
  unfold nUp
  by_cases h : i = j
  · subst h; rw [if_pos (Or.inl rfl)]; simp
  · have h2 : ¬ (i = j ∨ i = j + 4) := fun z => z.elim h (fun z => absurd hi (by omega))
    rw [if_neg h2]; simp [h]
-- an athlete
def nwL (S : St) (i : Nat) : Nat → St
  | 0 => S
  | c + 1 => up3 (up3 (nwL S i c) 6 i c 100) 7 i c (-1)
def nwA (S : St) (i : Nat) (x : Int32) : St := up3 (up3 (up3 (nwL (up3 S 5 i 0 x) i 5) 9 i 0 45) 10 i 0 (-1)) 31 i 0 (-1)
def atS (S : St) (i : Nat) (x : Int32) : St := up3 (up3 (fndS (nwA S i x) i (fun _ => 100) 5) 2 i 0 0) 0 0 0 (S 0 0 0 + 1)
theorem atS_c {S : St} {i : Nat} {x : Int32} : ∀ c, c ≠ 0 → c ≠ 1 → c ≠ 2 → atS S i x c = nwA S i x c := fun c h0 h1 h2 => by
  unfold atS; rw [up3_c h0, up3_c h2, fndS_c h1]
noncomputable def cd_athlete (n : Nat → Nat) (x : Int32) : Nat := cif (ix x 6) (cif (n 0 < 16) 0 2) 1
-- a classifier
def clS (S : St) (i : Nat) (x : Int32) : St := up3 (up3 S 12 i 0 x) 0 1 0 (S 0 1 0 + 1)
theorem clS_c {S : St} {i : Nat} {x : Int32} : ∀ c, c ≠ 0 → c ≠ 1 → c ≠ 2 → clS S i x c = up3 S 12 i 0 x c := fun c h0 _ _ => up3_c h0
noncomputable def cd_classifier (n : Nat → Nat) (x : Int32) : Nat := cif (ix x 6) (cif (n 1 < 8) 0 2) 1
-- a class
def kiM (S : St) (q : Nat) (x y z w : Int32) : St := up3 (up3 (up3 (up3 S 13 q 0 x) 13 q 1 y) 13 q 2 z) 13 q 3 w
def kiS (S : St) (q : Nat) (x y z w : Int32) : St := up3 (kiM S q x y z w) 0 2 0 (S 0 2 0 + 1)
theorem kiS_c {S : St} {q : Nat} {x y z w : Int32} : ∀ c, c ≠ 0 → c ≠ 1 → c ≠ 2 → kiS S q x y z w c = kiM S q x y z w c := fun c h0 _ _ => up3_c h0
noncomputable def cd_kind (n : Nat → Nat) (x y z w : Int32) : Nat := cif (ix x 5 ∧ (1 ≤ y ∧ y ≤ 100) ∧ 0 ≤ z ∧ z ≤ w ∧ w ≤ 500) (cif (n 2 < 8) 0 2) 1
-- an event
def evS (S : St) (e : Nat) (x : Int32) : St := up3 (up3 S 16 e 0 x) 0 3 0 (S 0 3 0 + 1)
theorem evS_c {S : St} {e : Nat} {x : Int32} : ∀ c, c ≠ 0 → c ≠ 1 → c ≠ 2 → evS S e x c = up3 S 16 e 0 x c := fun c h0 _ _ => up3_c h0
noncomputable def cd_event (n : Nat → Nat) (x : Int32) : Nat := cif (¬ x = 0 ∧ belowP x (nI (n 2))) (cif (n 3 < 8) 0 2) 1
-- an entry
def enS (S : St) (e a : Nat) : St := up3 S 20 e a (S 10 a 0)
noncomputable def cd_enter (S : St) (n : Nat → Nat) (x y : Int32) : Nat := cif (ix x (n 3) ∧ ix y (n 0)) (cif (S 18 (ci x) 0 = 0 ∧ S 20 (ci x) (ci y) = -1 ∧ mayP S (ci y) ∧ ¬ S 10 (ci y) 0 = -1 ∧ forP S (ci x) (S 10 (ci y) 0)) 0 2) 1
theorem nI_not {a N : Nat} (ha : a ≤ N) (hN : N < 2 ^ 31) (h : ¬ nI a = nI N) : a < N := Nat.lt_of_le_of_ne ha (fun z => h (by rw [z]))
theorem nI_is {a N : Nat} (ha : a < 2 ^ 31) (hN : N < 2 ^ 31) (h : nI a = nI N) : ¬ a < N := fun z => absurd ((nI_eq ha hN).mp h) (by omega)
