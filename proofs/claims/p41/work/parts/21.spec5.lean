/-! WORDS FOR THE NUMBERS, 5: what each method of the class answers: its code (0 a value, else which exception), its value, the numbers after it. -/
def CH (S : St) : Prop := ∀ i, chP (S 9 i 0)
def BL (S : St) : Prop := ∀ e a, S 21 e a = 0 ∨ S 21 e a = 1
def CI (S : St) (n : Nat → Nat) : Prop := WF S n ∧ NE S ∧ CH S ∧ BL S
theorem Vw_cls {cy : Nat → ClassId} {de : Nat} {ad : Ad} {S S2 : St} {n : Nat → Nat} {T : St} {k : Nat → Nat} {th : Int32} {X : Rl} (h : ∀ c, c ≠ 30 → c ≠ 31 → S2 c = S c) : Vw cy de ad S2 n T k th X = Vw cy de ad S n T k th X := by
  funext t i j
  unfold Vw
  by_cases ht : t < 13
  · rw [if_pos ht, if_pos ht]
    refine VC_congr (fun c hc => h c ?_ ?_)
    · rintro rfl
      revert hc
      exact (match t with | 0 => by decide | 1 => by decide | 2 => by decide | 3 => by decide | 4 => by decide | 5 => by decide | 6 => by decide | 7 => by decide | 8 => by decide | 9 => by decide | 10 => by decide | 11 => by decide | 12 => by decide | _ + 13 => fun z => absurd z List.not_mem_nil)
    · rintro rfl
      revert hc
      exact (match t with | 0 => by decide | 1 => by decide | 2 => by decide | 3 => by decide | 4 => by decide | 5 => by decide | 6 => by decide | 7 => by decide | 8 => by decide | 9 => by decide | 10 => by decide | 11 => by decide | 12 => by decide | _ + 13 => fun z => absurd z List.not_mem_nil)
  · rw [if_neg ht, if_neg ht]
theorem up3_congr {α : Type} {f g : Nat → Nat → Nat → α} {a b c : Nat} {v : α} {x : Nat} (h : f x = g x) : up3 f a b c v x = up3 g a b c v x := by
  funext y z
  unfold up3
  rw [h]
/-- what is found (the reference's) becomes g -/
def fm (S : St) (i : Nat) (g : Nat → Int32) : Nat → St
  | 0 => S
  | c + 1 => up3 (fm S i g c) 30 i c (g c)
theorem fm_c {S : St} {i : Nat} {g : Nat → Int32} {x : Nat} (hx : x ≠ 30) : ∀ c, fm S i g c x = S x
  | 0 => rfl
  | c + 1 => (up3_c hx).trans (fm_c hx c)
theorem KI_of {S : St} {n : Nat → Nat} (h : WF S n) : ∀ i, i < n 0 → S 10 i 0 = -1 ∨ ∃ q, q < n 2 ∧ S 10 i 0 = nI q := h.2.2.2.2.2.2.2.2.1
theorem KY_of {S : St} {n : Nat → Nat} (h : WF S n) : ∀ q, q < n 2 → ∃ y, y < 5 ∧ S 13 q 0 = nI y := h.2.2.2.2.2.2.2.2.2.2
theorem stlS_9 {S : St} {i m : Nat} {kk st : Int32} : stlS S i kk st m 9 i 0 = st := by
  unfold stlS setl
  by_cases h : kk = -1
  · rw [if_pos h, up3_ne (by omega), up3_ne (by omega), up3_self]
  · rw [if_neg h, up3_ne (by omega), up3_self]
theorem stlS_10 {S : St} {i m : Nat} {kk st : Int32} : stlS S i kk st m 10 i 0 = kk := by
  unfold stlS setl
  by_cases h : kk = -1
  · rw [if_pos h, up3_ne (by omega), up3_ne (by omega), up3_ne (by omega), up3_self]
  · rw [if_neg h, up3_ne (by omega), up3_ne (by omega), up3_self]
/-- settling changes the statuses, classes, untils, stands of one, and its entries: no other code .. -/
theorem stlS_c {S : St} {i m : Nat} {kk st : Int32} {x : Nat} (h2 : x ≠ 2) (h9 : x ≠ 9) (h10 : x ≠ 10) (h11 : x ≠ 11) (h21 : x ≠ 21) (h22 : x ≠ 22) : stlS S i kk st m x = S x := by
  have e : ∀ S1 : St, S1 x = S x → setl S1 i kk st (S 23 0 0 + 2) x = S x := fun S1 hs => by
    unfold setl
    rw [up3_c h2, up3_c h9, up3_c h10, hs]
  have e1 : (if S 10 i 0 = kk then S else dropS S i m) x = S x := by
    by_cases h : S 10 i 0 = kk
    · rw [if_pos h]
    · rw [if_neg h]; exact dropS_o m h21 h22
  unfold stlS
  by_cases h : kk = -1
  · rw [if_pos h, up3_c h11, e _ e1]
  · rw [if_neg h, e _ e1]
/-- .. and of no other athlete -/
theorem stlS_o {S : St} {i m : Nat} {kk st : Int32} {x y z : Nat} (hy : y ≠ i) (h21 : x ≠ 21) (h22 : x ≠ 22) : stlS S i kk st m x y z = S x y z := by
  have e : ∀ S1 : St, S1 x = S x → setl S1 i kk st (S 23 0 0 + 2) x y z = S x y z := fun S1 hs => by
    unfold setl
    rw [up3_ne (fun q => hy q.2.1), up3_ne (fun q => hy q.2.1), up3_ne (fun q => hy q.2.1), hs]
  have e1 : (if S 10 i 0 = kk then S else dropS S i m) x = S x := by
    by_cases h : S 10 i 0 = kk
    · rw [if_pos h]
    · rw [if_neg h]; exact dropS_o m h21 h22
  unfold stlS
  by_cases h : kk = -1
  · rw [if_pos h, up3_ne (fun q => hy q.2.1), e _ e1]
  · rw [if_neg h, e _ e1]
theorem WF_stl {S : St} {n : Nat → Nat} {i m : Nat} {kk st : Int32} (h : WF S n) (hk : kk = -1 ∨ ∃ q, q < n 2 ∧ kk = nI q) : WF (stlS S i kk st m) n :=
  WF_c h (fun j hj => by
    by_cases hz : j = i
    · subst hz; rw [stlS_10]; exact hk
    · rw [stlS_o hz (by decide) (by decide)]; exact KI_of h j hj) (stlS_c (by decide) (by decide) (by decide) (by decide) (by decide) (by decide)) (fun q => by rw [stlS_c (by decide) (by decide) (by decide) (by decide) (by decide) (by decide)])
theorem WF_sbf {S : St} {n : Nat → Nat} {i : Nat} {st : Int32} (h : WF S n) : WF (sbfS S n i st) n := WF_stl h kbel_cases
theorem WF_ex {S : St} {n : Nat → Nat} {i : Nat} (h : WF S n) : WF (exS S n i) n := by
  unfold exS
  by_cases hz : hidP S i
  · rw [cif_t hz]; exact WF_stl (WF_fi h) (Or.inl rfl)
  · rw [cif_f hz]; exact WF_sbf (WF_fi h)
theorem WF_ew {S : St} {n : Nat → Nat} {i : Nat} (h : WF S n) : WF (ewS S n i) n := by
  unfold ewS
  by_cases hz : S 9 i 0 = 120
  · rw [cif_t hz]; exact WF_stl h (Or.inl rfl)
  · rw [cif_f hz]; exact WF_sbf h
theorem ch_sbf {S : St} {n : Nat → Nat} {i : Nat} {st : Int32} (h : chP st) : chP (sbfS S n i st 9 i 0) := by
  unfold sbfS
  rw [stlS_9]
  by_cases hz : kbel S n (fMea S i 2) = -1
  · rw [cif_t hz]; exact ⟨rfl, rfl⟩
  · rw [cif_f hz]; exact h
theorem ch_ex {S : St} {n : Nat → Nat} {i : Nat} : chP (exS S n i 9 i 0) := by
  unfold exS
  by_cases hz : hidP S i
  · rw [cif_t hz, stlS_9]; exact ⟨rfl, rfl⟩
  · rw [cif_f hz]; exact ch_sbf ⟨rfl, rfl⟩
theorem fiS_c {S : St} {i x : Nat} (h1 : x ≠ 1) (h8 : x ≠ 8) : fiS S i x = S x := (up3_c h8).trans (fndS_c h1 5)
theorem exS_c {S : St} {n : Nat → Nat} {i x : Nat} (h1 : x ≠ 1) (h8 : x ≠ 8) (h2 : x ≠ 2) (h9 : x ≠ 9) (h10 : x ≠ 10) (h11 : x ≠ 11) (h21 : x ≠ 21) (h22 : x ≠ 22) : exS S n i x = S x := by
  unfold exS
  by_cases hz : hidP S i
  · rw [cif_t hz, stlS_c h2 h9 h10 h11 h21 h22, fiS_c h1 h8]
  · rw [cif_f hz]; unfold sbfS; rw [stlS_c h2 h9 h10 h11 h21 h22, fiS_c h1 h8]
-- the methods
noncomputable def cd_body (n : Nat → Nat) (x y v : Int32) : Nat := cif (ix x (n 0)) (cif (ix y 5 ∧ 0 ≤ v ∧ v ≤ 100) 0 2) 1
def up_body (S : St) (x y v : Int32) : St := up3 S 6 (ci x) (ci y) v
noncomputable def cd_show (n : Nat → Nat) (x y v : Int32) : Nat := cif (ix x (n 0)) (cif (ix y 5 ∧ (v = -1 ∨ (0 ≤ v ∧ v ≤ 100))) 0 2) 1
def up_show (S : St) (x y v : Int32) : St := up3 S 7 (ci x) (ci y) v
noncomputable def cd_found (S : St) (n : Nat → Nat) (x y : Int32) : Nat := cif (ix x (n 0)) (cif (ix y 5) (cif (S 8 (ci x) 0 = 0) 3 0) 2) 1
noncomputable def cd_ath (n : Nat → Nat) (x : Int32) : Nat := cif (ix x (n 0)) 0 1
def fairP (S : St) (i y z : Nat) : Prop := ¬ S 12 y 0 = S 12 z 0 ∧ ¬ S 12 y 0 = S 5 i 0 ∧ ¬ S 12 z 0 = S 5 i 0
noncomputable def cd_test (S : St) (n : Nat → Nat) (x y z : Int32) : Nat := cif (ix x (n 0) ∧ ix y (n 1) ∧ ix z (n 1)) (cif (fairP S (ci x) (ci y) (ci z)) (cif (S 9 (ci x) 0 = 120) 3 0) 2) 1
noncomputable def teS (S : St) (n : Nat → Nat) (i : Nat) : St := up3 (fm (sbfS (fsS S i) n i 110) i (shv S i) 5) 31 i 0 (-1)
theorem teS_c {S : St} {n : Nat → Nat} {i : Nat} : ∀ c, c ≠ 30 → c ≠ 31 → teS S n i c = sbfS (fsS S i) n i 110 c := fun c h h' => (up3_c h').trans (fm_c h 5)
noncomputable def exJ (S : St) (n : Nat → Nat) (i : Nat) : St := up3 (fm (exS S n i) i (S 6 i) 5) 31 i 0 (cif (hidP S i) (S 23 0 0 + 2) (-1))
theorem exJ_c {S : St} {n : Nat → Nat} {i : Nat} : ∀ c, c ≠ 30 → c ≠ 31 → exJ S n i c = exS S n i c := fun c h h' => (up3_c h').trans (fm_c h 5)
noncomputable def cd_watch (S : St) (n : Nat → Nat) (x : Int32) : Nat := cif (ix x (n 0)) (cif ((S 9 (ci x) 0 = 110 ∨ S 9 (ci x) 0 = 114) ∧ resP S (ci x) (n 3)) 0 2) 1
noncomputable def cd_protest (S : St) (n : Nat → Nat) (x y : Int32) : Nat := cif (ix x 6 ∧ ix y (n 0)) (cif (mayP S (ci y) ∧ 100 ≤ S 15 (ci x) 0) 0 2) 1
noncomputable def vl_protest (S : St) (n : Nat → Nat) (i : Nat) : Int32 := cif (exS S n i 10 i 0 = S 10 i 0) 0 1
noncomputable def prS (S : St) (n : Nat → Nat) (l i : Nat) : St := cif (exS S n i 10 i 0 = S 10 i 0) (up3 (exJ S n i) 15 l 0 (S 15 l 0 - 100)) (exJ S n i)
noncomputable def cd_money (x : Int32) : Nat := cif (ix x 6) 0 1
noncomputable def cd_border (n : Nat → Nat) (x y z : Int32) : Nat := cif (ix x (n 2)) (cif (0 ≤ y ∧ y ≤ z ∧ z ≤ 500) 0 2) 1
def drS (S : St) (q : Nat) (y z : Int32) : St := up3 (up3 (up3 S 13 q 2 y) 13 q 3 z) 14 q 0 (-1)
def boP (S : St) (q c : Nat) : Prop := S 10 c 0 = nI q ∧ ¬ holdsP S q (fMea S c 2)
noncomputable def boS (S : St) (m q : Nat) : Nat → St
  | 0 => S
  | c + 1 => cif (boP (boS S m q c) q c) (up3 (stlS (boS S m q c) c (nI q) 114 m) 31 c 0 ((boS S m q c) 23 0 0 + 2)) (boS S m q c)
theorem boS_t {S : St} {m q c : Nat} (h : boP (boS S m q c) q c) : boS S m q (c + 1) = up3 (stlS (boS S m q c) c (nI q) 114 m) 31 c 0 ((boS S m q c) 23 0 0 + 2) := cif_t h
theorem boS_f {S : St} {m q c : Nat} (h : ¬ boP (boS S m q c) q c) : boS S m q (c + 1) = boS S m q c := cif_f h
noncomputable def boN (S : St) (m q : Nat) : Nat → Int32
  | 0 => 0
  | c + 1 => cif (boP (boS S m q c) q c) (boN S m q c + 1) (boN S m q c)
theorem boN_t {S : St} {m q c : Nat} (h : boP (boS S m q c) q c) : boN S m q (c + 1) = boN S m q c + 1 := cif_t h
theorem boN_f {S : St} {m q c : Nat} (h : ¬ boP (boS S m q c) q c) : boN S m q (c + 1) = boN S m q c := cif_f h
theorem WF_dr {S : St} {n : Nat → Nat} {q : Nat} {y z : Int32} (h : WF S n) : WF (drS S q y z) n :=
  WF_c h (fun i hi => by
    have e : drS S q y z 10 = S 10 := by unfold drS; rw [up3_c (by decide), up3_c (by decide), up3_c (by decide)]
    rw [e]; exact KI_of h i hi) (by unfold drS; rw [up3_c (by decide), up3_c (by decide), up3_c (by decide)]) (fun p => by unfold drS; rw [up3_ne (by omega), up3_ne (by omega), up3_ne (by omega)])
theorem WF_31 {S : St} {n : Nat → Nat} {i : Nat} {v : Int32} (h : WF S n) : WF (up3 S 31 i 0 v) n := WF_codes h rfl rfl rfl
theorem WF_bo {S : St} {n : Nat → Nat} {q : Nat} (h : WF S n) (hq : q < n 2) : ∀ c, WF (boS S (n 3) q c) n
  | 0 => h
  | c + 1 => by
    by_cases hz : boP (boS S (n 3) q c) q c
    · rw [boS_t hz]; exact WF_31 (WF_stl (WF_bo h hq c) (Or.inr ⟨q, hq, rfl⟩))
    · rw [boS_f hz]; exact WF_bo h hq c
noncomputable def cd_next (S : St) : Nat := cif (S 23 0 0 < 40) 0 1
def neP (S : St) (c : Nat) : Prop := waitP S c ∧ S 2 c 0 = S 23 0 0
noncomputable def neS (S : St) (n : Nat → Nat) : Nat → St
  | 0 => S
  | c + 1 => cif (neP (neS S n c) c) (up3 (ewS (neS S n c) n c) 31 c 0 (-1)) (neS S n c)
theorem neS_t {S : St} {n : Nat → Nat} {c : Nat} (h : neP (neS S n c) c) : neS S n (c + 1) = up3 (ewS (neS S n c) n c) 31 c 0 (-1) := cif_t h
theorem neS_f {S : St} {n : Nat → Nat} {c : Nat} (h : ¬ neP (neS S n c) c) : neS S n (c + 1) = neS S n c := cif_f h
theorem WF_ne {S : St} {n : Nat → Nat} (h : WF S n) : ∀ c, WF (neS S n c) n
  | 0 => h
  | c + 1 => by
    by_cases hz : neP (neS S n c) c
    · rw [neS_t hz]; exact WF_31 (WF_ew (WF_ne h c))
    · rw [neS_f hz]; exact WF_ne h c
noncomputable def nxtS (S : St) (n : Nat → Nat) : St := neS (up3 S 23 0 0 (S 23 0 0 + 1)) n (n 0)
noncomputable def cd_until (S : St) (n : Nat → Nat) (x : Int32) : Nat := cif (ix x (n 0)) (cif (waitP S (ci x)) 0 2) 1
noncomputable def cd_factor (S : St) (n : Nat → Nat) (x y z : Int32) : Nat := cif (ix x (n 3) ∧ forP S (ci x) y) (cif (50 ≤ z ∧ z ≤ 100) (cif (S 18 (ci x) 0 = 0) 0 3) 2) 1
def up_factor (S : St) (x y z : Int32) : St := up3 S 17 (ci x) (ci y) z
noncomputable def cd_begin (S : St) (n : Nat → Nat) (x : Int32) : Nat := cif (ix x (n 3)) (cif (S 18 (ci x) 0 = 0 ∧ 3 ≤ cnt (stP S (ci x)) 16 ∧ 2 ≤ bcF (lnd S (ci x) 16)) 0 2) 1
def gdP (S : St) (e a : Nat) : Prop := ¬ S 20 e a = -1 ∧ S 13 (ci (S 20 e a)) 0 = 4
noncomputable def cd_result (S : St) (n : Nat → Nat) (x y t g : Int32) : Nat := cif (ix x (n 3) ∧ ix y (n 0)) (cif (timeIs t ∧ (gdP S (ci x) (ci y) → timeIs g)) (cif (¬ S 18 (ci x) 0 = 0 ∧ S 19 (ci x) 0 = 0 ∧ stP S (ci x) (ci y) ∧ ¬ timeP S (ci x) (ci y)) 0 3) 2) 1
def ftm (S : St) (e a : Nat) (t : Int32) : Int32 := t * S 17 e (ci (S 20 e a)) / 100
noncomputable def vl_result (S : St) (e a : Nat) (t g : Int32) : Int32 := cif (gdP S e a ∧ g < t) (-1) (ftm S e a t)
def rcS (S : St) (e a : Nat) (t : Int32) : St :=
  if S 9 a 0 = 99 then (if S 14 (ci (S 20 e a)) 0 = -1 ∨ t < S 14 (ci (S 20 e a)) 0 then up3 (up3 S 22 e a (ftm S e a t)) 14 (ci (S 20 e a)) 0 t else up3 S 22 e a (ftm S e a t)) else up3 S 22 e a (ftm S e a t)
theorem rcS_t {S : St} {e a q : Nat} {t : Int32} (zq : ci (S 20 e a) = q) (h : (up3 S 22 e a (t * S 17 e q / 100)) 9 a 0 = 99) : rcS S e a t = (if (up3 S 22 e a (t * S 17 e q / 100)) 14 q 0 = -1 ∨ t < (up3 S 22 e a (t * S 17 e q / 100)) 14 q 0 then up3 (up3 S 22 e a (t * S 17 e q / 100)) 14 q 0 t else up3 S 22 e a (t * S 17 e q / 100)) := by
  subst zq; exact if_pos h
theorem rcS_f {S : St} {e a q : Nat} {t : Int32} (zq : ci (S 20 e a) = q) (h : ¬ (up3 S 22 e a (t * S 17 e q / 100)) 9 a 0 = 99) : rcS S e a t = up3 S 22 e a (t * S 17 e q / 100) := by
  subst zq; exact if_neg h
theorem rcS_c {S : St} {e a x : Nat} {t : Int32} (h1 : x ≠ 22) (h2 : x ≠ 14) : rcS S e a t x = S x := by
  unfold rcS
  by_cases h : S 9 a 0 = 99
  · rw [if_pos h]
    by_cases h3 : S 14 (ci (S 20 e a)) 0 = -1 ∨ t < S 14 (ci (S 20 e a)) 0
    · rw [if_pos h3, up3_c h2, up3_c h1]
    · rw [if_neg h3, up3_c h1]
  · rw [if_neg h, up3_c h1]
noncomputable def reS (S : St) (e a : Nat) (t g : Int32) : St := cif (gdP S e a ∧ g < t) (fallS S e a) (rcS S e a t)
theorem rcS_22 {S : St} {e a : Nat} {t : Int32} : rcS S e a t 22 e a = ftm S e a t := by
  unfold rcS
  by_cases h : S 9 a 0 = 99
  · rw [if_pos h]
    by_cases h2 : S 14 (ci (S 20 e a)) 0 = -1 ∨ t < S 14 (ci (S 20 e a)) 0
    · rw [if_pos h2, up3_ne (by omega), up3_self]
    · rw [if_neg h2, up3_self]
  · rw [if_neg h, up3_self]
noncomputable def cd_ent (S : St) (n : Nat → Nat) (x y : Int32) : Nat := cif (ix x (n 3) ∧ ix y (n 0)) (cif (entP S (ci x) (ci y)) 0 2) 1
noncomputable def cd_time (S : St) (n : Nat → Nat) (x y : Int32) : Nat := cif (ix x (n 3) ∧ ix y (n 0)) (cif (timeP S (ci x) (ci y)) 0 2) 1
noncomputable def cd_close (S : St) (n : Nat → Nat) (x : Int32) : Nat := cif (ix x (n 3)) (cif (¬ S 18 (ci x) 0 = 0 ∧ S 19 (ci x) 0 = 0) 0 2) 1
noncomputable def cd_at (S : St) (n : Nat → Nat) (x y : Int32) : Nat := cif (ix x (n 3)) (cif (ordn S (ci x) y = none) 2 0) 1
noncomputable def vl_at (S : St) (x y : Int32) : Int32 := nI ((ordn S (ci x) y).getD 0)
noncomputable def cd_slot (S : St) (n : Nat → Nat) (x y z : Int32) : Nat := cif (ix x (n 3)) (cif (1 ≤ y ∧ y ≤ 16) (cif (z < y ∧ ¬ slF S (ci x) z 0 16 = none) 0 3) 2) 1
noncomputable def vl_slot (S : St) (x z : Int32) : Int32 := nI ((slF S (ci x) z 0 16).getD 0)
noncomputable def cd_record (S : St) (n : Nat → Nat) (x : Int32) : Nat := cif (ix x (n 2)) (cif (S 14 (ci x) 0 = -1) 2 0) 1
noncomputable def cd_floor (S : St) (n : Nat → Nat) (x y : Int32) : Nat := cif (ix x 6) (cif (belowP y (nI (n 0)) ∧ bcF y ≤ 4 ∧ allL S y x (n 0)) (cif (allK S y (n 0) ∧ ptF S y (n 0) ≤ 12) 0 3) 2) 1
noncomputable def swp (S : St) (n : Nat → Nat) (x : Int32) (o i : Nat) : Int32 := ptF S (biF S x (n 0)) (n 0) - ptsOf S o + ptsOf S i
noncomputable def cd_swap (S : St) (n : Nat → Nat) (x y z : Int32) : Nat := cif (ix x 6 ∧ ix y (n 0) ∧ ix z (n 0)) (cif ((S 5 (ci y) 0 = x ∧ ¬ S 11 (ci y) 0 = 0) ∧ (S 5 (ci z) 0 = x ∧ S 11 (ci z) 0 = 0)) (cif (¬ S 10 (ci z) 0 = -1 ∧ swp S n x (ci y) (ci z) ≤ 12) 0 3) 2) 1
def up_swap (S : St) (y z : Int32) : St := up3 (up3 S 11 (ci y) 0 0) 11 (ci z) 0 1
noncomputable def ck1 (S : St) : Nat → Int64
  | 0 => 7
  | c + 1 => 31 * (31 * ck1 S c + (S 10 c 0).toInt64) + (S 9 c 0).toInt64
noncomputable def ck2 (S : St) (x : Int64) : Nat → Int64
  | 0 => x
  | c + 1 => sumT S c (ck2 S x c) 16
noncomputable def ck3 (S : St) (x : Int64) : Nat → Int64
  | 0 => x
  | c + 1 => 31 * ck3 S x c + (S 15 c 0).toInt64
noncomputable def vl_checksum (S : St) (n : Nat → Nat) : Int64 := ck3 S (ck2 S (ck1 S (n 0)) (n 3)) 6
def soundP (S : St) (n : Nat → Nat) : Prop := (∀ i, i < n 0 → okA S i) ∧ ∀ e, e < n 3 → ∀ a, a < 16 → ¬ badE S e a
