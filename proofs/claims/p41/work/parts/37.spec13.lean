/-! WORDS FOR THE NUMBERS, 13: floors by bits, shares, means. -/
theorem ddt : ∀ q, q ≤ 500 → vf_n64 (FP.ddiv (FP.i2d (nI q)) 4617315517961601024) := by unfold vf_n64; decide +kernel
noncomputable def cN (P : Nat → Prop) : Nat → Nat
  | 0 => 0
  | c + 1 => cif (P c) (cN P c + 1) (cN P c)
theorem cN_t {P : Nat → Prop} {c : Nat} (h : P c) : cN P (c + 1) = cN P c + 1 := cif_t h
theorem cN_f {P : Nat → Prop} {c : Nat} (h : ¬ P c) : cN P (c + 1) = cN P c := cif_f h
theorem cnt_N {P : Nat → Prop} : ∀ c, cnt P c = nI (cN P c)
  | 0 => rfl
  | c + 1 => by
    by_cases h : P c
    · rw [cnt_t h, cN_t h, cnt_N c, nI_1]
    · rw [cnt_f h, cN_f h, cnt_N c]
theorem cN_le {P : Nat → Prop} : ∀ c, cN P c ≤ c
  | 0 => Nat.le_refl 0
  | c + 1 => by
    have := cN_le (P := P) c
    by_cases h : P c
    · rw [cN_t h]; omega
    · rw [cN_f h]; omega
theorem cN_split {P Q R : Nat → Prop} (h1 : ∀ a, P a ↔ Q a ∨ R a) (h2 : ∀ a, Q a → ¬ R a) : ∀ c, cN P c = cN Q c + cN R c
  | 0 => rfl
  | c + 1 => by
    have ih := cN_split h1 h2 c
    by_cases hq : Q c
    · rw [cN_t ((h1 c).mpr (Or.inl hq)), cN_t hq, cN_f (h2 c hq), ih]; omega
    · by_cases hr : R c
      · rw [cN_t ((h1 c).mpr (Or.inr hr)), cN_f hq, cN_t hr, ih]; omega
      · rw [cN_f (fun z => ((h1 c).mp z).elim hq hr), cN_f hq, cN_f hr, ih]
def felP (S : St) (e a : Nat) : Prop := ¬ S 21 e a = 0
noncomputable def alF (S : St) : Nat → Int32
  | 0 => 0
  | c + 1 => alF S c + cnt (entP S c) 16
noncomputable def sdF (S : St) : Nat → Int32
  | 0 => 0
  | c + 1 => sdF S c + cnt (stP S c) 16
noncomputable def flF (S : St) : Nat → Int32
  | 0 => 0
  | c + 1 => flF S c + cnt (felP S c) 16
noncomputable def alN (S : St) : Nat → Nat
  | 0 => 0
  | c + 1 => alN S c + cN (entP S c) 16
noncomputable def flN (S : St) : Nat → Nat
  | 0 => 0
  | c + 1 => flN S c + cN (felP S c) 16
noncomputable def sdN (S : St) : Nat → Nat
  | 0 => 0
  | c + 1 => sdN S c + cN (stP S c) 16
theorem alF_N {S : St} : ∀ c, alF S c = nI (alN S c)
  | 0 => rfl
  | c + 1 => by show alF S c + cnt (entP S c) 16 = nI (alN S c + cN (entP S c) 16); rw [alF_N c, cnt_N, nI_add]
theorem flF_N {S : St} : ∀ c, flF S c = nI (flN S c)
  | 0 => rfl
  | c + 1 => by show flF S c + cnt (felP S c) 16 = nI (flN S c + cN (felP S c) 16); rw [flF_N c, cnt_N, nI_add]
theorem sdF_N {S : St} : ∀ c, sdF S c = nI (sdN S c)
  | 0 => rfl
  | c + 1 => by show sdF S c + cnt (stP S c) 16 = nI (sdN S c + cN (stP S c) 16); rw [sdF_N c, cnt_N, nI_add]
theorem share_N {S : St} (hN : NE S) : ∀ c, alN S c = sdN S c + flN S c ∧ alN S c ≤ 16 * c
  | 0 => ⟨rfl, Nat.le_refl 0⟩
  | c + 1 => by
    obtain ⟨h1, h2⟩ := share_N hN c
    have h3 := cN_split (P := entP S c) (Q := stP S c) (R := felP S c) (fun a => ⟨fun z => (Classical.em (S 21 c a = 0)).elim (fun y => Or.inl ⟨z, y⟩) Or.inr, fun z => z.elim (fun y => y.1) (fun y w => y (hN c a w).2)⟩) (fun a z y => y z.2) 16
    have h4 := cN_le (P := entP S c) 16
    show alN S c + cN (entP S c) 16 = sdN S c + cN (stP S c) 16 + (flN S c + cN (felP S c) 16) ∧ alN S c + cN (entP S c) 16 ≤ 16 * (c + 1)
    omega
noncomputable def cd_share (S : St) (n : Nat → Nat) : Nat := cif (alF S (n 3) = 0) 1 0
noncomputable def vl_share (S : St) (n : Nat → Nat) : UInt32 := FP.fdiv (FP.i2f (flF S (n 3))) (FP.i2f (alF S (n 3)))
def sumN (f : Nat → Nat) : Nat → Nat
  | 0 => 0
  | c + 1 => sumN f c + (100 - f c)
theorem sumLk_N {f : Nat → Int32} (h : ∀ y, y < 5 → 0 ≤ f y ∧ f y ≤ 100) : ∀ c, c ≤ 5 → ∃ s, s ≤ 100 * c ∧ sumLk f c = nI s
  | 0, _ => ⟨0, by omega, rfl⟩
  | c + 1, hc => by
    obtain ⟨s, hs, e⟩ := sumLk_N h c (by omega)
    obtain ⟨p, hp, ep⟩ := nI_of2 (M := 100) (n := 100) (by decide) (Int32.not_lt.mpr (h c (by omega)).1) (h c (by omega)).2
    refine ⟨s + (100 - p), by omega, ?_⟩
    show sumLk f c + (100 - f c) = _
    rw [e, ep, ← nI_add]
    congr 1
    have : (100 : Int32) = nI (p + (100 - p)) := by rw [show p + (100 - p) = 100 by omega]; rfl
    rw [this, Nat.add_comm, ← nI_add, Int32.add_sub_cancel]
theorem mean_ok {f : Nat → Int32} (h : ∀ y, y < 5 → 0 ≤ f y ∧ f y ≤ 100) : vf_n64 (FP.ddiv (FP.i2d (sumLk f 5)) 4617315517961601024) := by
  obtain ⟨s, hs, e⟩ := sumLk_N h 5 (Nat.le_refl 5)
  rw [e]; exact ddt s (by omega)
noncomputable def vl_mean (S : St) (i : Nat) : UInt64 := FP.ddiv (FP.i2d (sumLk (fMea S i 0) 5)) 4617315517961601024
theorem b_low0 {x : Int32} : x &&& 1 = 0 ↔ ¬ x &&& 1 = 1 := by
  constructor
  · intro h z; rw [h] at z; exact absurd z (by decide)
  · intro h
    refine b_ext (fun i _ => ?_)
    rw [b_and, b_one, b_0]
    by_cases hi : i = 0
    · subst hi
      have : ¬ bt x 0 = true := fun z => h (b_low.mpr z)
      simp [this]
    · simp [hi]
/-- whether all of a floor are of its land, as the reference says -/
noncomputable def flR (T : St) (y l : Int32) (i : Int32) : Nat → Int32
  | 0 => i
  | c + 1 => flR T y l i c &&& cif (bitP y (nI c) → T 5 c 0 = l) 1 0
theorem flR_0 {T : St} {y l : Int32} : ∀ c, flR T y l 0 c = 0
  | 0 => rfl
  | c + 1 => by
    show flR T y l 0 c &&& _ = 0
    rw [flR_0 c, Int32.zero_and]
theorem flR_1 {T : St} {y l : Int32} : ∀ c, (flR T y l 1 c = 1 ∧ allL T y l c) ∨ (flR T y l 1 c = 0 ∧ ¬ allL T y l c)
  | 0 => Or.inl ⟨rfl, fun _ h => absurd h (Nat.not_lt_zero _)⟩
  | c + 1 => by
    show (flR T y l 1 c &&& cif (bitP y (nI c) → T 5 c 0 = l) 1 0 = 1 ∧ _) ∨ (flR T y l 1 c &&& cif (bitP y (nI c) → T 5 c 0 = l) 1 0 = 0 ∧ _)
    by_cases hz : bitP y (nI c) → T 5 c 0 = l
    · rw [cif_t hz]
      rcases flR_1 (T := T) (y := y) (l := l) c with ⟨h, h2⟩ | ⟨h, h2⟩
      · refine Or.inl ⟨by rw [h]; rfl, fun a ha => ?_⟩
        by_cases hac : a = c
        · subst hac; exact hz
        · exact h2 a (by omega)
      · exact Or.inr ⟨by rw [h]; rfl, fun z => h2 (fun a ha => z a (by omega))⟩
    · rw [cif_f hz]
      refine Or.inr ⟨?_, fun z => hz (z c (by omega))⟩
      rcases flR_1 (T := T) (y := y) (l := l) c with ⟨h, -⟩ | ⟨h, -⟩ <;> rw [h] <;> rfl
/-- bits of a floor -/
theorem b_pow {a j : Nat} (ha : a < 32) (hj : j < 32) : bt ((1 : Int32) <<< (nI a &&& 31)) j = decide (j = a) := by
  rw [b_shl a ha 1 hj, b_one]
  by_cases h : j = a
  · subst h; simp
  · by_cases h2 : a ≤ j
    · have : ¬ j - a = 0 := by omega
      simp [h, this]
    · simp [h, h2]
theorem biF_bt {T : St} {x : Int32} {j : Nat} (hj : j < 32) : ∀ m, m ≤ 16 → (bt (biF T x m) j = true ↔ j < m ∧ T 5 j 0 = x ∧ ¬ T 11 j 0 = 0)
  | 0, _ => by
    show bt 0 j = true ↔ _
    rw [b_0]
    exact ⟨fun h => absurd h (by decide), fun h => absurd h.1 (Nat.not_lt_zero _)⟩
  | m + 1, hm => by
    have ih := biF_bt (T := T) (x := x) hj m (by omega)
    by_cases hz : T 5 m 0 = x ∧ ¬ T 11 m 0 = 0
    · rw [biF_t hz, b_or, b_pow (by omega) hj, Bool.or_eq_true, ih, decide_eq_true_eq]
      constructor
      · rintro (h | rfl)
        · exact ⟨by omega, h.2⟩
        · exact ⟨by omega, hz⟩
      · intro h
        by_cases hjm : j = m
        · exact Or.inr hjm
        · exact Or.inl ⟨by omega, h.2⟩
    · rw [biF_f hz, ih]
      constructor
      · intro h; exact ⟨by omega, h.2⟩
      · intro h
        have : ¬ j = m := fun z => hz (by rw [← z]; exact h.2)
        exact ⟨by omega, h.2⟩
/-- a floor on which o stood and i takes his place -/
def swB (v : Int32) (o i : Nat) : Int32 := v &&& (((1 : Int32) <<< (nI o &&& 31)) ^^^ (-1)) ||| ((1 : Int32) <<< (nI i &&& 31))
theorem swB_bt {v : Int32} {o i j : Nat} (ho : o < 32) (hi : i < 32) (hj : j < 32) : bt (swB v o i) j = true ↔ (bt v j = true ∧ ¬ j = o) ∨ j = i := by
  unfold swB
  rw [b_or, b_and, b_xor, b_pow ho hj, b_pow hi hj, b_m1 j hj]
  by_cases h1 : j = o <;> by_cases h2 : j = i <;> simp [h1, h2]
theorem ptF_sw {S : St} {v v2 : Int32} {o i : Nat} (hoi : ¬ o = i) (hb : ∀ a, a < 16 → (bitP v2 (nI a) ↔ (bitP v (nI a) ∧ ¬ a = o) ∨ a = i)) (ho : bitP v (nI o)) (hi : ¬ bitP v (nI i)) : ∀ c, c ≤ 16 → ptF S v2 c = ptF S v c - cif (o < c) (ptsOf S o) 0 + cif (i < c) (ptsOf S i) 0
  | 0, _ => by
    rw [cif_f (Nat.not_lt_zero _), cif_f (Nat.not_lt_zero _)]
    show (0 : Int32) = 0 - 0 + 0
    decide
  | c + 1, hc => by
    have ih := ptF_sw (S := S) hoi hb ho hi c (by omega)
    have hbc := hb c (by omega)
    by_cases h1 : c = o
    · subst h1
      rw [ptF_f (fun z => (hbc.mp z).elim (fun w => w.2 rfl) hoi), ptF_t ho, ih, cif_f (Nat.lt_irrefl c), cif_t (Nat.lt_succ_self c)]
      have e : cif (i < c + 1) (ptsOf S i) 0 = cif (i < c) (ptsOf S i) 0 := by
        by_cases h : i < c
        · rw [cif_t h, cif_t (by omega)]
        · rw [cif_f h, cif_f (by omega)]
      rw [e, Int32.add_sub_cancel, Int32.sub_zero]
    · have e1 : cif (o < c + 1) (ptsOf S o) 0 = cif (o < c) (ptsOf S o) 0 := by
        by_cases h : o < c
        · rw [cif_t h, cif_t (by omega)]
        · rw [cif_f h, cif_f (by omega)]
      by_cases h2 : c = i
      · subst h2
        rw [ptF_t (hbc.mpr (Or.inr rfl)), ptF_f hi, ih, e1, cif_f (Nat.lt_irrefl c), cif_t (Nat.lt_succ_self c), Int32.add_zero]
      · have e2 : cif (i < c + 1) (ptsOf S i) 0 = cif (i < c) (ptsOf S i) 0 := by
          by_cases h : i < c
          · rw [cif_t h, cif_t (by omega)]
          · rw [cif_f h, cif_f (by omega)]
        rw [e1, e2]
        by_cases h3 : bitP v (nI c)
        · rw [ptF_t (hbc.mpr (Or.inl ⟨h3, h1⟩)), ptF_t h3, ih]
          simp only [Int32.sub_eq_add_neg]
          ac_rfl
        · rw [ptF_f (fun z => (hbc.mp z).elim (fun w => h3 w.1) h2), ptF_f h3, ih]
theorem puF_at {S : St} {l v : Int32} : ∀ (c : Nat) {a : Nat}, puF S l v c 11 a 0 = cif (a < c ∧ S 5 a 0 = l) (cif (bitP v (nI a)) 1 0) (S 11 a 0)
  | 0, a => (cif_f (fun z => absurd z.1 (Nat.not_lt_zero _))).symm
  | c + 1, a => by
    by_cases hz : S 5 c 0 = l
    · rw [puF_t hz]
      by_cases hac : a = c
      · subst hac; rw [up3_self]; exact (cif_t ⟨by omega, hz⟩).symm
      · rw [up3_ne (fun q => hac q.2.1), puF_at c]
        by_cases h : a < c ∧ S 5 a 0 = l
        · exact (cif_t h).trans (cif_t ⟨by omega, h.2⟩).symm
        · exact (cif_f h).trans (cif_f (fun z => h ⟨by omega, z.2⟩)).symm
    · rw [puF_f hz, puF_at c]
      by_cases h : a < c ∧ S 5 a 0 = l
      · exact (cif_t h).trans (cif_t ⟨by omega, h.2⟩).symm
      · exact (cif_f h).trans (cif_f (fun z => h ⟨Nat.lt_of_le_of_ne (by omega) (fun y => hz (by rw [← y]; exact z.2)), z.2⟩)).symm
theorem puF_z {S : St} {l v : Int32} : ∀ (c : Nat) {a z : Nat}, ¬ z = 0 → puF S l v c 11 a z = S 11 a z
  | 0, _, _, _ => rfl
  | c + 1, a, z, h => by
    by_cases hz : S 5 c 0 = l
    · rw [puF_t hz, up3_ne (fun q => h q.2.2), puF_z c h]
    · rw [puF_f hz, puF_z c h]
theorem puF_sw {S : St} {l v2 : Int32} {o i m : Nat} (hm : m ≤ 16) (ho : o < m) (hi : i < m) (hoi : ¬ o = i) (h11 : ∀ a, S 11 a 0 = 0 ∨ S 11 a 0 = 1) (lo : S 5 o 0 = l) (li : S 5 i 0 = l) (hb : ∀ a, a < 16 → (bitP v2 (nI a) ↔ (bitP (biF S l m) (nI a) ∧ ¬ a = o) ∨ a = i)) : puF S l v2 m = up3 (up3 S 11 o 0 0) 11 i 0 1 := by
  funext x a z
  by_cases hx : x = 11
  · subst hx
    by_cases hz : z = 0
    · subst hz
      rw [puF_at m]
      by_cases h : a < m ∧ S 5 a 0 = l
      · rw [cif_t h]
        have hba := hb a (by omega)
        rw [bit_iff (x := biF S l m) (by omega), biF_bt (by omega) m hm] at hba
        by_cases h1 : a = i
        · subst h1; rw [up3_self, cif_t (hba.mpr (Or.inr rfl))]
        · rw [up3_ne (fun q => h1 q.2.1)]
          by_cases h2 : a = o
          · subst h2; rw [up3_self, cif_f (fun t => (hba.mp t).elim (fun w => w.2 rfl) h1)]
          · rw [up3_ne (fun q => h2 q.2.1)]
            by_cases h3 : S 11 a 0 = 0
            · rw [cif_f (fun t => (hba.mp t).elim (fun w => w.1.2.2 h3) h1), h3]
            · rw [cif_t (hba.mpr (Or.inl ⟨⟨h.1, h.2, h3⟩, h2⟩)), (h11 a).resolve_left h3]
      · rw [cif_f h, up3_ne (fun q => h (by rw [q.2.1]; exact ⟨hi, li⟩)), up3_ne (fun q => h (by rw [q.2.1]; exact ⟨ho, lo⟩))]
    · rw [puF_z m hz, up3_ne (fun q => hz q.2.2), up3_ne (fun q => hz q.2.2)]
  · rw [puF_o m hx, up3_ne (fun q => hx q.1), up3_ne (fun q => hx q.1)]
theorem en_16 {T : St} {k : Nat → Nat} (hW : WF T k) {e : Nat} : cnt (entP T e) 16 = cnt (entP T e) (k 0) := cnt_16 hW.1 (fun a ha z => absurd (ent_lt hW z).2.1 (by omega))
theorem fe_16 {T : St} {k : Nat → Nat} (hW : WF T k) (hN : NE T) {e : Nat} : cnt (felP T e) 16 = cnt (felP T e) (k 0) := cnt_16 hW.1 (fun a ha z => absurd (ent_lt hW (fun y => z (hN e a y).2)).2.1 (by omega))
theorem sumT_ext {T : St} {e m : Nat} {x : Int64} (h : ∀ a, m ≤ a → T 20 e a = -1) : ∀ d, sumT T e x (m + d) = sumT T e x m
  | 0 => rfl
  | d + 1 => by rw [← Nat.add_assoc, sumT_n (h (m + d) (by omega)), sumT_ext h d]
theorem sumT_16 {T : St} {k : Nat → Nat} (hW : WF T k) {e : Nat} {x : Int64} : sumT T e x 16 = sumT T e x (k 0) := by
  have := sumT_ext (T := T) (e := e) (m := k 0) (x := x) (fun a ha => Classical.byContradiction (fun z => absurd (ent_lt hW z).2.1 (by omega))) (16 - k 0)
  rwa [show k 0 + (16 - k 0) = 16 by have := hW.1; omega] at this
