/-! THE NUMBERS AT THE START, and the world that the constructor leaves. -/
def Yw (cy : Nat → ClassId) (de : Nat) (ad : Ad) (S : St) (n : Nat → Nat) (X : Rl) : Rl := fun t i c => if t < 13 then VC cy de ad S n t i c else if t < 16 then none else X t i c
theorem Yw_Vw {cy : Nat → ClassId} {de : Nat} {ad : Ad} {S : St} {n : Nat → Nat} {T : St} {k : Nat → Nat} {th : Int32} {X : Rl} : Yw cy de ad S n X = Vw cy de ad S n T k th X := by
  funext t i c
  unfold Yw Vw
  by_cases h1 : t < 13
  · rw [if_pos h1, if_pos h1]
  · rw [if_neg h1, if_neg h1]
    by_cases h2 : t = 13
    · rw [if_pos (show t < 16 by omega), if_pos h2]
      by_cases h : i = 0 ∧ c = 0
      · rw [if_pos h]; rfl
      · rw [if_neg h]
    · rw [if_neg h2]
      by_cases h3 : t = 14
      · rw [if_pos (show t < 16 by omega), if_pos h3]
        by_cases h : c = 0
        · rw [if_pos h]; rfl
        · rw [if_neg h]
      · rw [if_neg h3]
        by_cases h4 : t = 15
        · rw [if_pos (show t < 16 by omega), if_pos h4]; rfl
        · rw [if_neg (show ¬ t < 16 by omega), if_neg h4]
def J0 : St := fun c _ _ => if c = 15 then 1000 else if c = 17 then 100 else if c = 14 ∨ c = 20 ∨ c = 22 then -1 else 0
def N0 : Nat → Nat := fun _ => 0
theorem inv_0 : Inv J0 N0 := by
  refine ⟨⟨⟨by decide, by decide, by decide, by decide, rfl, rfl, rfl, rfl, fun i h => absurd h (Nat.not_lt_zero i), fun e a => Or.inl rfl, fun q h => absurd h (Nat.not_lt_zero q)⟩, fun e a _ => ⟨rfl, rfl⟩, fun i => ⟨rfl, rfl⟩, fun e a => Or.inl rfl⟩, fun i _ => ⟨rfl, rfl⟩, fun q _ => rfl, fun e _ => ⟨rfl, rfl, fun _ => rfl⟩, fun i => ⟨Or.inl rfl, Or.inl rfl, Or.inl rfl, Or.inl rfl⟩, fun i h => absurd h (Nat.not_lt_zero i), fun i h => absurd h (Nat.not_lt_zero i), fun i h => absurd h (Nat.not_lt_zero i), fun i h => absurd h (Nat.not_lt_zero i), fun i h => absurd h (Nat.not_lt_zero i), fun i h => absurd h (Nat.not_lt_zero i), fun e a h => absurd rfl h, fun i h => absurd h (Nat.not_lt_zero i), fun e a h => absurd rfl h, fun i y h => absurd h (Nat.not_lt_zero i), ⟨by decide, by decide⟩, fun e q h => absurd h (Nat.not_lt_zero e), fun i h => absurd h (Nat.not_lt_zero i)⟩
/-- cells that hold the same, arrays of whole numbers inside their bounds -/
def same (e0 e : va_E) : Prop := e0 = e ∨ ∃ (c : ClassId) (N : Nat) (f g : Nat → Int32), e0 = eI c N f ∧ e = eI c N g ∧ ∀ x, x < N → f x = g x
theorem same_at {D : va_G} {a : Nat} {e0 e : va_E} {H : Heap} (h : same e0 e) (hH : va_at D vwCl (a, e0) H) : va_at D vwCl (a, e) H := by
  rcases h with rfl | ⟨c, N, f, g, rfl, rfl, hx⟩
  · exact hH
  · have e1 : vp_cell c (N, .inl f) = vp_cell c (N, .inl g) := by
      rw [vp_cell_i, vp_cell_i]
      exact arrV_congr (fun x hz => by rw [hx x hz])
    show H[a]? = some (vp_cell c (N, .inl g))
    rw [← e1]; exact hH
theorem GW.eqv {D : va_G} {B : Nat} {ad : Ad} {V V' : Rl} {H : Heap} (h : GW D B ad V H) (hV : ∀ (t i j : Nat) (e : va_E), V' t i j = some e → ∃ e0, V t i j = some e0 ∧ same e0 e) : GW D B ad V' H := by
  refine ⟨fun t i j e he => ?_, fun t i j e t' i' j' e' he he' ha => ?_⟩
  · obtain ⟨e0, h0, hs⟩ := hV t i j e he
    exact ⟨same_at hs (h.at h0), h.ge h0⟩
  · obtain ⟨e0, h0, -⟩ := hV t i j e he
    obtain ⟨e1, h1, -⟩ := hV t' i' j' e' he'
    exact h.inj h0 h1 ha
theorem J_14 (x y : Nat) : J0 14 x y = -1 := rfl
theorem J_17 (x y : Nat) : J0 17 x y = 100 := rfl
theorem J_20 (x y : Nat) : J0 20 x y = -1 := rfl
theorem J_22 (x y : Nat) : J0 22 x y = -1 := rfl
theorem same_c {c : ClassId} {N : Nat} {f g : Nat → Int32} (h : ∀ x, x < N → f x = g x) : same (eI c N f) (eI c N g) := Or.inr ⟨c, N, f, g, rfl, rfl, h⟩
section W0
variable {cy : Nat → ClassId} {de : Nat} {ad : Ad}
theorem opt_if {P : Prop} {e0 e1 e : va_E} (hd : Decidable P) (h : (if P then some e1 else none) = some e) (hs : P → same e0 e1) : ∃ x, (if P then some e0 else none) = some x ∧ same x e := by
  by_cases hp : P
  · rw [if_pos hp] at h ⊢
    cases h
    exact ⟨_, rfl, hs hp⟩
  · rw [if_neg hp] at h; cases h
abbrev X0g : Rl := fun _ _ _ => none
abbrev lst0 (de : Nat) : va_E := .inr (0, [.int 0, .ref de, .int 0])
theorem cls_start {D : va_G} {B : Nat} {ad0 : Ad} {qa qb qc qd qe : Nat} {g : va_E} {H : Heap} (had : ad = up3 (up3 (up3 (up3 (up3 ad0 1 0 0 qa) 1 1 0 qb) 1 2 0 qc) 1 3 0 qd) 12 0 0 qe)
    (h : GW D B ad (up3 (up3 (up3 (up3 (up3 (up3 (up3 X0g 0 0 0 (some g)) 1 0 0 (some (lst0 de))) 0 0 0 (some (.inr (7, [.ref qa, .ref qb, .ref qc, .ref qd, .ref qe, .int 0])))) 1 1 0 (some (lst0 de))) 1 2 0 (some (lst0 de))) 1 3 0 (some (lst0 de))) 12 0 0 (some (eI (cy 0) 6 (fillv 1000 0 6)))) H) : GW D B ad (Yw cy de ad J0 N0 X0g) H := by
  refine h.eqv (fun t i j e he => ?_)
  unfold Yw at he
  by_cases h1 : t < 13
  · rw [if_pos h1] at he
    match t, h1, he with
    | 0, _, he =>
      have he : (if i = 0 ∧ j = 0 then some (eGames ad J0) else none) = some e := he
      by_cases hz : i = 0 ∧ j = 0
      · obtain ⟨rfl, rfl⟩ := hz
        rw [if_pos ⟨rfl, rfl⟩] at he
        cases he
        subst had
        exact ⟨_, rfl, Or.inl rfl⟩
      · rw [if_neg hz] at he; cases he
    | 1, _, he =>
      have he : (if i < 4 ∧ j = 0 then some (eList de ad J0 N0 i) else none) = some e := he
      by_cases hz : i < 4 ∧ j = 0
      · obtain ⟨hi, rfl⟩ := hz
        rw [if_pos ⟨hi, rfl⟩] at he
        cases he
        match i, hi with
        | 0, _ => exact ⟨_, rfl, Or.inl rfl⟩
        | 1, _ => exact ⟨_, rfl, Or.inl rfl⟩
        | 2, _ => exact ⟨_, rfl, Or.inl rfl⟩
        | 3, _ => exact ⟨_, rfl, Or.inl rfl⟩
      · rw [if_neg hz] at he; cases he
    | 2, _, he =>
      have he : (if i < 4 ∧ j = 0 ∧ 0 < 0 then some (eQ (cy 6) (capL 0) (fData ad N0 i)) else none) = some e := he
      rw [if_neg (fun z => absurd z.2.2 (Nat.lt_irrefl 0))] at he; cases he
    | 3, _, he => exact absurd he (by simp [VC, N0])
    | 4, _, he => exact absurd he (by simp [VC, N0])
    | 5, _, he => exact absurd he (by simp [VC, N0])
    | 6, _, he => exact absurd he (by simp [VC, N0])
    | 7, _, he => exact absurd he (by simp [VC, N0])
    | 8, _, he => exact absurd he (by simp [VC, N0])
    | 9, _, he => exact absurd he (by simp [VC, N0])
    | 10, _, he => exact absurd he (by simp [VC, N0])
    | 11, _, he => exact absurd he (by simp [VC, N0])
    | 12, _, he =>
      have he : (if i = 0 ∧ j = 0 then some (eI (cy 0) 6 (fun x => J0 15 x 0)) else none) = some e := he
      by_cases hz : i = 0 ∧ j = 0
      · obtain ⟨rfl, rfl⟩ := hz
        rw [if_pos ⟨rfl, rfl⟩] at he
        cases he
        exact ⟨_, rfl, same_c (fun x hx => if_pos hx)⟩
      · rw [if_neg hz] at he; cases he
    | t + 13, h1, _ => omega
  · rw [if_neg h1] at he
    by_cases h2 : t < 16
    · rw [if_pos h2] at he; cases he
    · rw [if_neg h2] at he; cases he
end W0
theorem and63 (v : Int32) : ∃ q, q < 64 ∧ v &&& 63 = nI q := by
  refine ⟨(v &&& 63).toBitVec.toNat, ?_, i32_nI _⟩
  show (v.toBitVec &&& (63 : Int32).toBitVec).toNat < 64
  rw [BitVec.toNat_and]
  exact Nat.lt_of_le_of_lt Nat.and_le_right (by decide)
theorem law_in {a L : Nat} (ha : a < 2 ^ 20) (hL : L ≤ 2560) (h : ¬ Int32.ofNat L - 5 < nI a) : a + 4 < L := by
  by_cases h5 : 5 ≤ L
  · obtain ⟨d, rfl⟩ : ∃ d, L = d + 5 := ⟨L - 5, by omega⟩
    have e : Int32.ofNat (d + 5) - 5 = nI d := by
      show nI (d + 5) - 5 = nI d
      rw [← nI_add]
      exact Int32.add_sub_cancel _ _
    rw [e, nI_ltI (by omega) (by omega)] at h
    omega
  · exfalso
    refine h (Int32.lt_of_lt_of_le (b := 0) ?_ (nI_pos' (by omega)))
    match L, h5 with
    | 0, _ => decide
    | 1, _ => decide
    | 2, _ => decide
    | 3, _ => decide
    | 4, _ => decide
    | d + 5, h5 => omega
