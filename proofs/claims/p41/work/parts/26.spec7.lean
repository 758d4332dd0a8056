/-! WORDS FOR THE NUMBERS, 7: the reference's methods that write or look for. -/
theorem add_m1 (x : Int32) : x + (-1) = x - 1 := (Int32.sub_eq_add_neg x 1).symm
def KYm (T : St) (k : Nat → Nat) : Prop := ∀ q, q < k 2 → ∃ y, y < 5 ∧ T 13 q 0 = nI y
theorem ptsOf_eq {S : St} {i : Nat} : ptsOf S i = S 10 i 0 + 1 := by
  unfold ptsOf
  by_cases h : S 10 i 0 = -1
  · rw [if_pos h, h]; rfl
  · rw [if_neg h]
theorem up3_same {α : Type} {f : Nat → Nat → Nat → α} {a b c : Nat} {v : α} (h : f a b c = v) : up3 f a b c v = f := by
  funext x y z
  by_cases hz : x = a ∧ y = b ∧ z = c
  · obtain ⟨rfl, rfl, rfl⟩ := hz
    rw [up3_self, h]
  · rw [up3_ne hz]
noncomputable def bcD (T : St) (a : Nat) (kk : Int32) (m : Nat) : St := cif (T 10 a 0 = kk) T (dropS T a m)
noncomputable def bcT (kk st : Int32) : Int32 := cif (kk = -1 ∧ ¬ st = 120 ∧ ¬ st = 45) 101 st
noncomputable def bcS (T : St) (a : Nat) (kk st : Int32) (m : Nat) : St := up3 (up3 (up3 (up3 (bcD T a kk m) 10 a 0 kk) 9 a 0 (bcT kk st)) 31 a 0 (-1)) 11 a 0 (bcD T a kk m 11 a 0 &&& cif (kk = -1) 0 1)
theorem bcD_c {T : St} {a m x : Nat} {kk : Int32} (h21 : x ≠ 21) (h22 : x ≠ 22) : bcD T a kk m x = T x := by
  unfold bcD
  by_cases h : T 10 a 0 = kk
  · rw [cif_t h]
  · rw [cif_f h]; exact dropS_o m h21 h22
theorem bcS_c {T : St} {a m x : Nat} {kk st : Int32} (h9 : x ≠ 9) (h10 : x ≠ 10) (h11 : x ≠ 11) (h21 : x ≠ 21) (h22 : x ≠ 22) (h31 : x ≠ 31) : bcS T a kk st m x = T x := by
  unfold bcS
  rw [up3_c h11, up3_c h31, up3_c h9, up3_c h10, bcD_c h21 h22]
theorem ch_bc {kk st : Int32} (h : chP st) : chP (bcT kk st) := by
  unfold bcT
  by_cases hz : kk = -1 ∧ ¬ st = 120 ∧ ¬ st = 45
  · rw [cif_t hz]; exact ⟨rfl, rfl⟩
  · rw [cif_f hz]; exact h
/-- what the reference's finding says of hiding -/
noncomputable def hF (T : St) (a : Nat) : Nat → Int32
  | 0 => 0
  | c + 1 => hF T a c ||| cif (T 30 a c + 20 < T 6 a c) 1 0
def hidM (T : St) (a : Nat) (m : Nat) : Prop := ∃ y, y < m ∧ T 30 a y + 20 < T 6 a y
theorem hF_01 {T : St} {a : Nat} : ∀ c, (hF T a c = 1 ∧ hidM T a c) ∨ (hF T a c = 0 ∧ ¬ hidM T a c)
  | 0 => Or.inr ⟨rfl, fun ⟨_, h, _⟩ => absurd h (Nat.not_lt_zero _)⟩
  | c + 1 => by
    show (hF T a c ||| cif (T 30 a c + 20 < T 6 a c) 1 0 = 1 ∧ _) ∨ (hF T a c ||| cif (T 30 a c + 20 < T 6 a c) 1 0 = 0 ∧ _)
    by_cases hz : T 30 a c + 20 < T 6 a c
    · rw [cif_t hz]
      refine Or.inl ⟨?_, c, by omega, hz⟩
      rcases hF_01 c with ⟨h, -⟩ | ⟨h, -⟩ <;> rw [h] <;> rfl
    · rw [cif_f hz]
      rcases hF_01 c with ⟨h, y, hy, h2⟩ | ⟨h, h2⟩
      · exact Or.inl ⟨by rw [h]; rfl, y, by omega, h2⟩
      · refine Or.inr ⟨by rw [h]; rfl, fun ⟨y, hy, h3⟩ => ?_⟩
        by_cases hyc : y = c
        · subst hyc; exact hz h3
        · exact h2 ⟨y, by omega, h3⟩
theorem fm_o {S : St} {i : Nat} {g : Nat → Int32} : ∀ (c : Nat) {z : Nat}, c ≤ z → fm S i g c 30 i z = S 30 i z
  | 0, _, _ => rfl
  | c + 1, z, h => by
    show up3 (fm S i g c) 30 i c (g c) 30 i z = _
    rw [up3_ne (fun q => absurd q.2.2 (by omega)), fm_o c (by omega)]
theorem fm_i {S : St} {i : Nat} {g : Nat → Int32} : ∀ (c : Nat) {z : Nat}, z < c → fm S i g c 30 i z = g z
  | 0, _, h => absurd h (Nat.not_lt_zero _)
  | c + 1, z, h => by
    show up3 (fm S i g c) 30 i c (g c) 30 i z = _
    by_cases h1 : z = c
    · subst h1; exact up3_self
    · rw [up3_ne (fun q => h1 q.2.2), fm_i c (by omega)]
noncomputable def fiM (T : St) (k : Nat → Nat) (a : Nat) : St :=
  cif (hidM T a 5) (up3 (bcS (fm T a (T 6 a) 5) a (-1) 120 (k 3)) 31 a 0 ((bcS (fm T a (T 6 a) 5) a (-1) 120 (k 3)) 23 0 0 + 2))
    (up3 (bcS (fm T a (T 6 a) 5) a (kbel (fm T a (T 6 a) 5) k (fm T a (T 6 a) 5 30 a)) 99 (k 3)) 31 a 0 (-1))
def aoP (T : St) (e a : Nat) (b : Int32) (x : Nat) : Prop := ¬ T 22 e x = -1 ∧ (T 22 e x < T 22 e a ∨ (b = 1 ∧ T 22 e x = T 22 e a ∧ x < a))
noncomputable def atF (T : St) (k : Nat → Nat) (e : Nat) (x : Int32) : Nat → Int32
  | 0 => -1
  | c + 1 => cif (timeP T e c ∧ cnt (aoP T e c 1) (k 0) = x) (nI c) (atF T k e x c)
theorem atF_t {T : St} {k : Nat → Nat} {e c : Nat} {x : Int32} (h : timeP T e c ∧ cnt (aoP T e c 1) (k 0) = x) : atF T k e x (c + 1) = nI c := cif_t h
theorem atF_f {T : St} {k : Nat → Nat} {e c : Nat} {x : Int32} (h : ¬ (timeP T e c ∧ cnt (aoP T e c 1) (k 0) = x)) : atF T k e x (c + 1) = atF T k e x c := cif_f h
noncomputable def tmF (T : St) (k : Nat → Nat) (x : Int32) : Nat → Int32
  | 0 => cif (ptF T x (k 0) ≤ 12) 0 1
  | c + 1 => tmF T k x c ||| cif (bitP x (nI c) ∧ T 10 c 0 = -1) 1 0
def tmP (T : St) (k : Nat → Nat) (x : Int32) (m : Nat) : Prop := allK T x m ∧ ptF T x (k 0) ≤ 12
theorem tmF_01 {T : St} {k : Nat → Nat} {x : Int32} : ∀ c, (tmF T k x c = 1 ∧ ¬ tmP T k x c) ∨ (tmF T k x c = 0 ∧ tmP T k x c)
  | 0 => by
    show (cif (ptF T x (k 0) ≤ 12) 0 1 = (1 : Int32) ∧ _) ∨ (cif (ptF T x (k 0) ≤ 12) 0 1 = (0 : Int32) ∧ _)
    by_cases h : ptF T x (k 0) ≤ 12
    · rw [cif_t h]; exact Or.inr ⟨rfl, fun _ z => absurd z (Nat.not_lt_zero _), h⟩
    · rw [cif_f h]; exact Or.inl ⟨rfl, fun z => h z.2⟩
  | c + 1 => by
    show (tmF T k x c ||| cif (bitP x (nI c) ∧ T 10 c 0 = -1) 1 0 = 1 ∧ _) ∨ (tmF T k x c ||| cif (bitP x (nI c) ∧ T 10 c 0 = -1) 1 0 = 0 ∧ _)
    by_cases hz : bitP x (nI c) ∧ T 10 c 0 = -1
    · rw [cif_t hz]
      refine Or.inl ⟨?_, fun z => z.1 c (by omega) hz.1 hz.2⟩
      rcases tmF_01 (T := T) (k := k) (x := x) c with ⟨h, -⟩ | ⟨h, -⟩ <;> rw [h] <;> rfl
    · rw [cif_f hz]
      rcases tmF_01 (T := T) (k := k) (x := x) c with ⟨h, h2⟩ | ⟨h, h2⟩
      · exact Or.inl ⟨by rw [h]; rfl, fun z => h2 ⟨fun a ha => z.1 a (by omega), z.2⟩⟩
      · refine Or.inr ⟨by rw [h]; rfl, fun a ha hb he => ?_, h2.2⟩
        by_cases hac : a = c
        · subst hac; exact hz ⟨hb, he⟩
        · exact h2.1 a (by omega) hb he
theorem puF_11 {S : St} {land x : Int32} : ∀ (c : Nat) {y : Nat}, c ≤ y → puF S land x c 11 y 0 = S 11 y 0
  | 0, _, _ => rfl
  | c + 1, y, h => by
    by_cases hz : S 5 c 0 = land
    · rw [puF_t hz, up3_ne (fun q => absurd q.2.1 (by omega)), puF_11 c (by omega)]
    · rw [puF_f hz, puF_11 c (by omega)]
theorem ptF_congr {S S2 : St} {x : Int32} (h : S2 10 = S 10) : ∀ c, ptF S2 x c = ptF S x c
  | 0 => rfl
  | c + 1 => by
    have e : ptsOf S2 c = ptsOf S c := by rw [ptsOf_eq, ptsOf_eq, h]
    by_cases hz : bitP x (nI c)
    · rw [ptF_t hz, ptF_t hz, ptF_congr h c, e]
    · rw [ptF_f hz, ptF_f hz, ptF_congr h c]
theorem and01 {x y : Int32} (hx : x = 0 ∨ x = 1) (hy : y = 0 ∨ y = 1) : x &&& y = 0 ∨ x &&& y = 1 := by
  rcases hx with rfl | rfl <;> rcases hy with rfl | rfl <;> decide
theorem KYm_c {T T2 : St} {k : Nat → Nat} (h : KYm T k) (e : T2 13 = T 13) : KYm T2 k := fun q hq => by rw [e]; exact h q hq
