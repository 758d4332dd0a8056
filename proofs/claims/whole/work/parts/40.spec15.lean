/-! WORDS FOR THE NUMBERS, 15: slots. -/
/-- how many of the first in the order are of a land -/
noncomputable def hv (S : St) (e : Nat) (l : Int32) : Nat → Nat
  | 0 => 0
  | y + 1 => match io S e y with
    | none => hv S e l y
    | some w => cif (S 5 w 0 = l) (hv S e l y + 1) (hv S e l y)
theorem hv_t {S : St} {e y w : Nat} {l : Int32} (h : io S e y = some w) (hl : S 5 w 0 = l) : hv S e l (y + 1) = hv S e l y + 1 := by
  show (match io S e y with | none => hv S e l y | some w => cif (S 5 w 0 = l) (hv S e l y + 1) (hv S e l y)) = _
  rw [h]; exact cif_t hl
theorem hv_f {S : St} {e y w : Nat} {l : Int32} (h : io S e y = some w) (hl : ¬ S 5 w 0 = l) : hv S e l (y + 1) = hv S e l y := by
  show (match io S e y with | none => hv S e l y | some w => cif (S 5 w 0 = l) (hv S e l y + 1) (hv S e l y)) = _
  rw [h]; exact cif_f hl
theorem hv_io {S : St} {e : Nat} {l : Int32} (ht : ∀ x, timeP S e x → x < 16) : ∀ (k : Nat) {w : Nat}, io S e k = some w → cN (fun x => timeP S e x ∧ S 5 x 0 = l ∧ aheadP S e x w) 16 = hv S e l k
  | 0, w, h => cN_zero 16 (fun a _ z => nx_first h ht a ⟨z.1, z.2.2⟩)
  | k + 1, w, h => by
    cases hz : io S e k with
    | none => rw [io_n hz] at h; cases h
    | some b =>
      rw [io_s hz] at h
      have hb := io_time k hz
      have ih := hv_io (l := l) ht k hz
      have hx := nx_ahead hb h ht
      by_cases hl : S 5 b 0 = l
      · rw [hv_t hz hl, ← ih]
        refine cN_add (w := b) (fun x => ⟨fun z => ?_, fun z => ?_⟩) (fun z => ah_irr z.2.2) (ht b hb)
        · exact ((hx x).mp ⟨z.1, z.2.2⟩).elim (fun y => Or.inl ⟨y.1, z.2.1, y.2⟩) Or.inr
        · rcases z with z | rfl
          · have := (hx x).mpr (Or.inl ⟨z.1, z.2.2⟩)
            exact ⟨z.1, z.2.1, this.2⟩
          · have := (hx x).mpr (Or.inr rfl)
            exact ⟨this.1, hl, this.2⟩
      · rw [hv_f hz hl, ← ih]
        refine cN_congr 16 (fun x _ => ⟨fun z => ?_, fun z => ?_⟩)
        · rcases (hx x).mp ⟨z.1, z.2.2⟩ with y | y
          · exact ⟨z.1, z.2.1, y.2⟩
          · subst y; exact absurd z.2.1 hl
        · have := (hx x).mpr (Or.inl ⟨z.1, z.2.2⟩)
          exact ⟨z.1, z.2.1, this.2⟩
theorem lan_hv {S : St} {e k w : Nat} (ht : ∀ x, timeP S e x → x < 16) (h : io S e k = some w) : cnt (lanP S e w) 16 = nI (hv S e (S 5 w 0) k) := by
  rw [cnt_N, ← hv_io (l := S 5 w 0) ht k h]
  rw [cN_congr (P := lanP S e w) (Q := fun x => timeP S e x ∧ S 5 x 0 = S 5 w 0 ∧ aheadP S e x w) 16 (fun x _ => Iff.rfl)]
theorem hv_le {S : St} {e : Nat} {l : Int32} : ∀ y, hv S e l y ≤ y
  | 0 => Nat.le_refl 0
  | y + 1 => by
    have ih := hv_le (S := S) (e := e) (l := l) y
    cases hz : io S e y with
    | none =>
      show (match io S e y with | none => hv S e l y | some w => cif (S 5 w 0 = l) (hv S e l y + 1) (hv S e l y)) ≤ _
      rw [hz]; show hv S e l y ≤ y + 1; omega
    | some w =>
      by_cases h : S 5 w 0 = l
      · rw [hv_t hz h]; omega
      · rw [hv_f hz h]; omega
/-- the slots given, as a number -/
noncomputable def gN (S : St) (e : Nat) : Nat → Nat
  | 0 => 0
  | y + 1 => match io S e y with
    | none => gN S e y
    | some w => cif (cnt (lanP S e w) 16 < 2) (gN S e y + 1) (gN S e y)
theorem gN_t {S : St} {e y w : Nat} (h : io S e y = some w) (hc : cnt (lanP S e w) 16 < 2) : gN S e (y + 1) = gN S e y + 1 := by
  show (match io S e y with | none => gN S e y | some w => cif (cnt (lanP S e w) 16 < 2) (gN S e y + 1) (gN S e y)) = _
  rw [h]; exact cif_t hc
theorem gN_f {S : St} {e y w : Nat} (h : io S e y = some w) (hc : ¬ cnt (lanP S e w) 16 < 2) : gN S e (y + 1) = gN S e y := by
  show (match io S e y with | none => gN S e y | some w => cif (cnt (lanP S e w) 16 < 2) (gN S e y + 1) (gN S e y)) = _
  rw [h]; exact cif_f hc
theorem gN_none {S : St} {e y : Nat} (h : io S e y = none) : gN S e (y + 1) = gN S e y := by
  show (match io S e y with | none => gN S e y | some w => cif (cnt (lanP S e w) 16 < 2) (gN S e y + 1) (gN S e y)) = _
  rw [h]
theorem gv_none {S : St} {e y : Nat} (h : io S e y = none) : gv S e (y + 1) = gv S e y := by
  show (match io S e y with | none => gv S e y | some w => cif (cnt (lanP S e w) 16 < 2) (gv S e y + 1) (gv S e y)) = _
  rw [h]
theorem gv_N {S : St} {e : Nat} : ∀ y, gv S e y = nI (gN S e y)
  | 0 => rfl
  | y + 1 => by
    cases hz : io S e y with
    | none => rw [gv_none hz, gN_none hz, gv_N y]
    | some w =>
      by_cases h : cnt (lanP S e w) 16 < 2
      · rw [gv_t hz h, gN_t hz h, gv_N y, nI_1]
      · rw [gv_f hz h, gN_f hz h, gv_N y]
theorem gN_s {S : St} {e y : Nat} : gN S e y ≤ gN S e (y + 1) ∧ gN S e (y + 1) ≤ gN S e y + 1 := by
  cases hz : io S e y with
  | none => rw [gN_none hz]; omega
  | some w =>
    by_cases h : cnt (lanP S e w) 16 < 2
    · rw [gN_t hz h]; omega
    · rw [gN_f hz h]; omega
theorem gN_mono {S : St} {e y : Nat} : ∀ d, gN S e y ≤ gN S e (y + d)
  | 0 => Nat.le_refl _
  | d + 1 => Nat.le_trans (gN_mono d) (gN_s (S := S) (e := e) (y := y + d)).1
theorem gN_le {S : St} {e : Nat} : ∀ y, gN S e y ≤ y
  | 0 => Nat.le_refl 0
  | y + 1 => by have := gN_le (S := S) (e := e) y; have := (gN_s (S := S) (e := e) (y := y)).2; omega
theorem slF_at {S : St} {e : Nat} {x : Int32} {w : Nat} : ∀ (r y : Nat), slF S e x y r = some w → ∃ j, y ≤ j ∧ j < y + r ∧ gv S e j = x
  | 0, _, h => by cases h
  | r + 1, y, h => by
    cases hz : io S e y with
    | none => rw [slF_none hz] at h; cases h
    | some b =>
      by_cases hc : cnt (lanP S e b) 16 < 2 ∧ gv S e y = x
      · exact ⟨y, by omega, by omega, hc.2⟩
      · have h1 := slF_no (m := y + (r + 1)) (by omega) hz hc
        rw [show y + (r + 1) - y = r + 1 by omega, show y + (r + 1) - (y + 1) = r by omega] at h1
        rw [h1] at h
        obtain ⟨j, h2, h3, h4⟩ := slF_at r (y + 1) h
        exact ⟨j, by omega, by omega, h4⟩
/-- enough slots are given: a smaller index has none of the later -/
theorem slF_full {S : St} {e y r : Nat} {x many : Int32} (hy : y + r ≤ 16) (hm : ¬ gv S e y < many) (hx : x < many) : slF S e x y r = none := by
  cases h : slF S e x y r with
  | none => rfl
  | some w =>
    obtain ⟨j, h1, h2, h3⟩ := slF_at r y h
    have hmono := gN_mono (S := S) (e := e) (y := y) (j - y)
    rw [show y + (j - y) = j by omega] at hmono
    rw [gv_N] at hm h3
    have hj := gN_le (S := S) (e := e) j
    have hlt : nI (gN S e j) < many := h3 ▸ hx
    exact absurd (Int32.lt_of_le_of_lt (nI_le hmono (by omega)) hlt) hm
