theorem V_games {cy : Nat → ClassId} {de : Nat} {ad : Ad} {S : St} {n : Nat → Nat} {T : St} {k : Nat → Nat} {th : Int32} {X : Rl}  : Vw cy de ad S n T k th X 0 0 0 = some (.inr (7, [.ref (ad 1 0 0), .ref (ad 1 1 0), .ref (ad 1 2 0), .ref (ad 1 3 0), .ref (ad 12 0 0), .int (S 23 0 0)])) := by rfl
theorem V_list {cy : Nat → ClassId} {de : Nat} {ad : Ad} {S : St} {n : Nat → Nat} {T : St} {k : Nat → Nat} {th : Int32} {X : Rl} {i : Nat} (h : i < 4) : Vw cy de ad S n T k th X 1 i 0 = some (.inr (0, [.int (S 0 i 0), .ref (if n i = 0 then de else ad 2 i 0), .int (nI (n i))])) := by simp [Vw, VC, eList, h]
theorem V_data {cy : Nat → ClassId} {de : Nat} {ad : Ad} {S : St} {n : Nat → Nat} {T : St} {k : Nat → Nat} {th : Int32} {X : Rl} {i : Nat} (h : i < 4) (h2 : 0 < n i) : Vw cy de ad S n T k th X 2 i 0 = some (eQ (cy 6) (capL (n i)) (fData ad n i)) := by simp [Vw, VC, h, h2]
theorem V_ath {cy : Nat → ClassId} {de : Nat} {ad : Ad} {S : St} {n : Nat → Nat} {T : St} {k : Nat → Nat} {th : Int32} {X : Rl} {i : Nat} (h : i < n 4) : Vw cy de ad S n T k th X 3 i 0 = some (.inr (1, [.int (nI i), .int (S 5 i 0), .ref (ad 4 i 0), .ref (ad 4 i 1), .ref (ad 4 i 2), .int (S 8 i 0), .int (S 9 i 0), va_rf (kro ad (S 10 i 0)), .int (S 2 i 0), .int (S 11 i 0)])) := by simp [Vw, VC, eAth, h]
theorem V_mea {cy : Nat → ClassId} {de : Nat} {ad : Ad} {S : St} {n : Nat → Nat} {T : St} {k : Nat → Nat} {th : Int32} {X : Rl} {i j : Nat} (h : i < n 4) (h2 : j < 3) : Vw cy de ad S n T k th X 4 i j = some (.inr (6, [.ref (ad 5 i j)])) := by simp [Vw, VC, h, h2]
theorem V_meaA {cy : Nat → ClassId} {de : Nat} {ad : Ad} {S : St} {n : Nat → Nat} {T : St} {k : Nat → Nat} {th : Int32} {X : Rl} {i j : Nat} (h : i < n 4) (h2 : j < 3) : Vw cy de ad S n T k th X 5 i j = some (eI (cy 0) 5 (fMea S i j)) := by simp [Vw, VC, h, h2]
theorem V_cla {cy : Nat → ClassId} {de : Nat} {ad : Ad} {S : St} {n : Nat → Nat} {T : St} {k : Nat → Nat} {th : Int32} {X : Rl} {i : Nat} (h : i < n 5) : Vw cy de ad S n T k th X 6 i 0 = some (.inr (2, [.int (S 12 i 0)])) := by simp [Vw, VC, h]
theorem V_kind {cy : Nat → ClassId} {de : Nat} {ad : Ad} {S : St} {n : Nat → Nat} {T : St} {k : Nat → Nat} {th : Int32} {X : Rl} {i : Nat} (h : i < n 6) : Vw cy de ad S n T k th X 7 i 0 = some (.inr (5, [.int (nI i), .int (S 13 i 0), .int (S 13 i 1), .int (S 13 i 2), .int (S 13 i 3), .int (S 14 i 0)])) := by simp [Vw, VC, eKind, h]
theorem V_event {cy : Nat → ClassId} {de : Nat} {ad : Ad} {S : St} {n : Nat → Nat} {T : St} {k : Nat → Nat} {th : Int32} {X : Rl} {i : Nat} (h : i < n 7) : Vw cy de ad S n T k th X 8 i 0 = some (.inr (4, [.int (S 16 i 0), .ref (ad 9 i 0), .ref (ad 10 i 0), .int (S 18 i 0), .int (S 19 i 0)])) := by simp [Vw, VC, eEvent, h]
theorem V_fac {cy : Nat → ClassId} {de : Nat} {ad : Ad} {S : St} {n : Nat → Nat} {T : St} {k : Nat → Nat} {th : Int32} {X : Rl} {i : Nat} (h : i < n 7) : Vw cy de ad S n T k th X 9 i 0 = some (eI (cy 0) 8 (fun x => S 17 i x)) := by simp [Vw, VC, h]
theorem V_entA {cy : Nat → ClassId} {de : Nat} {ad : Ad} {S : St} {n : Nat → Nat} {T : St} {k : Nat → Nat} {th : Int32} {X : Rl} {i : Nat} (h : i < n 7) : Vw cy de ad S n T k th X 10 i 0 = some (eQ (cy 5) 16 (fEnt ad S i)) := by simp [Vw, VC, h]
theorem V_ent {cy : Nat → ClassId} {de : Nat} {ad : Ad} {S : St} {n : Nat → Nat} {T : St} {k : Nat → Nat} {th : Int32} {X : Rl} {i a : Nat} (h : i < n 7) (h2 : a < 16) (h3 : neg (S 20 i a) = false) : Vw cy de ad S n T k th X 11 i a = some (.inr (3, [.ref (ad 3 a 0), va_rf (kro ad (S 20 i a)), .int (S 21 i a), .int (S 22 i a)])) := by simp only [Vw, VC, eEnt]; rw [if_pos (by decide), if_pos ⟨h, h2, h3⟩]
theorem V_mon {cy : Nat → ClassId} {de : Nat} {ad : Ad} {S : St} {n : Nat → Nat} {T : St} {k : Nat → Nat} {th : Int32} {X : Rl}  : Vw cy de ad S n T k th X 12 0 0 = some (eI (cy 0) 6 (fun x => S 15 x 0)) := by rfl
theorem V_X {cy : Nat → ClassId} {de : Nat} {ad : Ad} {S : St} {n : Nat → Nat} {T : St} {k : Nat → Nat} {th : Int32} {X : Rl} {t i j : Nat} (h : 16 ≤ t) : Vw cy de ad S n T k th X t i j = X t i j := by
  simp only [Vw]; rw [if_neg (by omega), if_neg (by omega), if_neg (by omega), if_neg (by omega)]
theorem Vw_C {cy : Nat → ClassId} {de : Nat} {ad : Ad} {S S' : St} {n n' : Nat → Nat} {T : St} {k : Nat → Nat} {th : Int32} {X : Rl} {t i j : Nat} {e : va_E} (ht : t < 13) (h0 : VC cy de ad S' n' t i j = some e) (h1 : ∀ a b c, ¬ (a = t ∧ b = i ∧ c = j) → VC cy de ad S' n' a b c = VC cy de ad S n a b c) : up3 (Vw cy de ad S n T k th X) t i j (some e) = Vw cy de ad S' n' T k th X := by
  funext a b c
  by_cases hz : a = t ∧ b = i ∧ c = j
  · obtain ⟨rfl, rfl, rfl⟩ := hz
    rw [up3_self]; simp only [Vw]; rw [if_pos ht, h0]
  · rw [up3_ne hz]; simp only [Vw]; rw [h1 a b c hz]
def rc (t : Nat) : List Nat := match t with | 0 => [23] | 1 => [0] | 2 => [] | 3 => [5, 8, 9, 10, 2, 11] | 4 => [] | 5 => [6, 7, 1] | 6 => [12] | 7 => [13, 14] | 8 => [16, 18, 19] | 9 => [17] | 10 => [20] | 11 => [20, 21, 22] | 12 => [15] | _ => []
theorem up3_c {α : Type} {f : Nat → Nat → Nat → α} {a b c x : Nat} {v : α} (h : x ≠ a) : up3 f a b c v x = f x := funext fun _ => funext fun _ => if_neg (fun z => h z.1)
theorem VC_o0 {cy : Nat → ClassId} {de : Nat} {ad : Ad} {S S2 : St} {n : Nat → Nat} {a b : Nat} (e : ∀ c ∈ rc 0, S2 c = S c) : VC cy de ad S2 n 0 a b = VC cy de ad S n 0 a b := by
  (simp only [VC, eGames, e 23 (by simp [rc])])
theorem VC_o1 {cy : Nat → ClassId} {de : Nat} {ad : Ad} {S S2 : St} {n : Nat → Nat} {a b : Nat} (e : ∀ c ∈ rc 1, S2 c = S c) : VC cy de ad S2 n 1 a b = VC cy de ad S n 1 a b := by
  (simp only [VC, eList, e 0 (by simp [rc])])
theorem VC_o2 {cy : Nat → ClassId} {de : Nat} {ad : Ad} {S S2 : St} {n : Nat → Nat} {a b : Nat} (e : ∀ c ∈ rc 2, S2 c = S c) : VC cy de ad S2 n 2 a b = VC cy de ad S n 2 a b := by
  simp only [VC]
theorem VC_o3 {cy : Nat → ClassId} {de : Nat} {ad : Ad} {S S2 : St} {n : Nat → Nat} {a b : Nat} (e : ∀ c ∈ rc 3, S2 c = S c) : VC cy de ad S2 n 3 a b = VC cy de ad S n 3 a b := by
  (simp only [VC, eAth, e 5 (by simp [rc]), e 8 (by simp [rc]), e 9 (by simp [rc]), e 10 (by simp [rc]), e 2 (by simp [rc]), e 11 (by simp [rc])])
theorem VC_o4 {cy : Nat → ClassId} {de : Nat} {ad : Ad} {S S2 : St} {n : Nat → Nat} {a b : Nat} (e : ∀ c ∈ rc 4, S2 c = S c) : VC cy de ad S2 n 4 a b = VC cy de ad S n 4 a b := by
  simp only [VC]
theorem VC_o5 {cy : Nat → ClassId} {de : Nat} {ad : Ad} {S S2 : St} {n : Nat → Nat} {a b : Nat} (e : ∀ c ∈ rc 5, S2 c = S c) : VC cy de ad S2 n 5 a b = VC cy de ad S n 5 a b := by
  (unfold VC fMea; simp only [VC, e 6 (by simp [rc]), e 7 (by simp [rc]), e 1 (by simp [rc])])
theorem VC_o6 {cy : Nat → ClassId} {de : Nat} {ad : Ad} {S S2 : St} {n : Nat → Nat} {a b : Nat} (e : ∀ c ∈ rc 6, S2 c = S c) : VC cy de ad S2 n 6 a b = VC cy de ad S n 6 a b := by
  (simp only [VC, e 12 (by simp [rc])])
theorem VC_o7 {cy : Nat → ClassId} {de : Nat} {ad : Ad} {S S2 : St} {n : Nat → Nat} {a b : Nat} (e : ∀ c ∈ rc 7, S2 c = S c) : VC cy de ad S2 n 7 a b = VC cy de ad S n 7 a b := by
  (simp only [VC, eKind, e 13 (by simp [rc]), e 14 (by simp [rc])])
theorem VC_o8 {cy : Nat → ClassId} {de : Nat} {ad : Ad} {S S2 : St} {n : Nat → Nat} {a b : Nat} (e : ∀ c ∈ rc 8, S2 c = S c) : VC cy de ad S2 n 8 a b = VC cy de ad S n 8 a b := by
  (simp only [VC, eEvent, e 16 (by simp [rc]), e 18 (by simp [rc]), e 19 (by simp [rc])])
theorem VC_o9 {cy : Nat → ClassId} {de : Nat} {ad : Ad} {S S2 : St} {n : Nat → Nat} {a b : Nat} (e : ∀ c ∈ rc 9, S2 c = S c) : VC cy de ad S2 n 9 a b = VC cy de ad S n 9 a b := by
  (simp only [VC, e 17 (by simp [rc])])
theorem VC_o10 {cy : Nat → ClassId} {de : Nat} {ad : Ad} {S S2 : St} {n : Nat → Nat} {a b : Nat} (e : ∀ c ∈ rc 10, S2 c = S c) : VC cy de ad S2 n 10 a b = VC cy de ad S n 10 a b := by
  (unfold VC fEnt; simp only [VC, e 20 (by simp [rc])])
theorem VC_o11 {cy : Nat → ClassId} {de : Nat} {ad : Ad} {S S2 : St} {n : Nat → Nat} {a b : Nat} (e : ∀ c ∈ rc 11, S2 c = S c) : VC cy de ad S2 n 11 a b = VC cy de ad S n 11 a b := by
  (simp only [VC, eEnt, e 20 (by simp [rc]), e 21 (by simp [rc]), e 22 (by simp [rc])])
theorem VC_o12 {cy : Nat → ClassId} {de : Nat} {ad : Ad} {S S2 : St} {n : Nat → Nat} {a b : Nat} (e : ∀ c ∈ rc 12, S2 c = S c) : VC cy de ad S2 n 12 a b = VC cy de ad S n 12 a b := by
  (simp only [VC, e 15 (by simp [rc])])
theorem VC_oo {cy : Nat → ClassId} {de : Nat} {ad : Ad} {S : St} {n : Nat → Nat} {t a b : Nat} : VC cy de ad S n (t + 13) a b = none := by simp only [VC]
theorem VC_congr {cy : Nat → ClassId} {de : Nat} {ad : Ad} {S S2 : St} {n : Nat → Nat} {t a b : Nat} (e : ∀ c ∈ rc t, S2 c = S c) : VC cy de ad S2 n t a b = VC cy de ad S n t a b :=
  match t, e with
  | 0, e => VC_o0 e
  | 1, e => VC_o1 e
  | 2, e => VC_o2 e
  | 3, e => VC_o3 e
  | 4, e => VC_o4 e
  | 5, e => VC_o5 e
  | 6, e => VC_o6 e
  | 7, e => VC_o7 e
  | 8, e => VC_o8 e
  | 9, e => VC_o9 e
  | 10, e => VC_o10 e
  | 11, e => VC_o11 e
  | 12, e => VC_o12 e
  | _ + 13, _ => VC_oo.trans VC_oo.symm
theorem VC_other {cy : Nat → ClassId} {de : Nat} {ad : Ad} {S : St} {n : Nat → Nat} {code x y : Nat} {v : Int32} {t a b : Nat} (h : ∀ c ∈ rc t, c ≠ code) : VC cy de ad (up3 S code x y v) n t a b = VC cy de ad S n t a b := VC_congr (fun c hc => up3_c (h c hc))
def ra (f : Nat) : List Nat := match f with | 0 => [5] | 4 => [8] | 5 => [9] | 6 => [10] | 7 => [31] | 8 => [11] | 9 => [12] | 11 => [14] | 12 => [15] | 13 => [16] | 15 => [18] | 16 => [19] | _ => []
def rb (f : Nat) : List Nat := match f with | 1 => [6] | 2 => [7] | 3 => [30] | 10 => [13] | 14 => [17] | 17 => [20] | 18 => [21] | 19 => [22] | _ => []
theorem P_ath_wasFound {cy : Nat → ClassId} {de : Nat} {ad : Ad} {S : St} {n : Nat → Nat} {T : St} {k : Nat → Nat} {th : Int32} {X : Rl} {i : Nat} (h : i < n 4) {v : Int32} : up3 (Vw cy de ad S n T k th X) 3 i 0 (some (.inr (1, [.int (nI i), .int (S 5 i 0), .ref (ad 4 i 0), .ref (ad 4 i 1), .ref (ad 4 i 2), .int v, .int (S 9 i 0), va_rf (kro ad (S 10 i 0)), .int (S 2 i 0), .int (S 11 i 0)]))) = Vw cy de ad (up3 S 8 i 0 v) n T k th X := by
  have hs : ∀ b c : Nat, ¬ (b = i ∧ c = 0) → VC cy de ad (up3 S 8 i 0 v) n 3 b c = VC cy de ad S n 3 b c := by
    intro b c hz
    simp only [VC]
    by_cases hc : b < n 4 ∧ c = 0
    · have hb : ¬ b = i := fun z => hz ⟨z, hc.2⟩
      rw [if_pos hc, if_pos hc]; simp [eAth, up3, hb]
    · rw [if_neg hc, if_neg hc]
  refine Vw_C (by decide) (by simp [VC, eAth, h, up3]) (fun a b c hz => ?_)
  exact (match a, hz with | 0, _ => VC_other (by decide) | 1, _ => VC_other (by decide) | 2, _ => VC_other (by decide) | 3, hz => hs b c (fun z => hz ⟨rfl, z⟩) | 4, _ => VC_other (by decide) | 5, _ => VC_other (by decide) | 6, _ => VC_other (by decide) | 7, _ => VC_other (by decide) | 8, _ => VC_other (by decide) | 9, _ => VC_other (by decide) | 10, _ => VC_other (by decide) | 11, _ => VC_other (by decide) | 12, _ => VC_other (by decide) | _ + 13, _ => VC_oo.trans VC_oo.symm)
theorem P_ath_status {cy : Nat → ClassId} {de : Nat} {ad : Ad} {S : St} {n : Nat → Nat} {T : St} {k : Nat → Nat} {th : Int32} {X : Rl} {i : Nat} (h : i < n 4) {v : Int32} : up3 (Vw cy de ad S n T k th X) 3 i 0 (some (.inr (1, [.int (nI i), .int (S 5 i 0), .ref (ad 4 i 0), .ref (ad 4 i 1), .ref (ad 4 i 2), .int (S 8 i 0), .int v, va_rf (kro ad (S 10 i 0)), .int (S 2 i 0), .int (S 11 i 0)]))) = Vw cy de ad (up3 S 9 i 0 v) n T k th X := by
  have hs : ∀ b c : Nat, ¬ (b = i ∧ c = 0) → VC cy de ad (up3 S 9 i 0 v) n 3 b c = VC cy de ad S n 3 b c := by
    intro b c hz
    simp only [VC]
    by_cases hc : b < n 4 ∧ c = 0
    · have hb : ¬ b = i := fun z => hz ⟨z, hc.2⟩
      rw [if_pos hc, if_pos hc]; simp [eAth, up3, hb]
    · rw [if_neg hc, if_neg hc]
  refine Vw_C (by decide) (by simp [VC, eAth, h, up3]) (fun a b c hz => ?_)
  exact (match a, hz with | 0, _ => VC_other (by decide) | 1, _ => VC_other (by decide) | 2, _ => VC_other (by decide) | 3, hz => hs b c (fun z => hz ⟨rfl, z⟩) | 4, _ => VC_other (by decide) | 5, _ => VC_other (by decide) | 6, _ => VC_other (by decide) | 7, _ => VC_other (by decide) | 8, _ => VC_other (by decide) | 9, _ => VC_other (by decide) | 10, _ => VC_other (by decide) | 11, _ => VC_other (by decide) | 12, _ => VC_other (by decide) | _ + 13, _ => VC_oo.trans VC_oo.symm)
theorem P_ath_until {cy : Nat → ClassId} {de : Nat} {ad : Ad} {S : St} {n : Nat → Nat} {T : St} {k : Nat → Nat} {th : Int32} {X : Rl} {i : Nat} (h : i < n 4) {v : Int32} : up3 (Vw cy de ad S n T k th X) 3 i 0 (some (.inr (1, [.int (nI i), .int (S 5 i 0), .ref (ad 4 i 0), .ref (ad 4 i 1), .ref (ad 4 i 2), .int (S 8 i 0), .int (S 9 i 0), va_rf (kro ad (S 10 i 0)), .int v, .int (S 11 i 0)]))) = Vw cy de ad (up3 S 2 i 0 v) n T k th X := by
  have hs : ∀ b c : Nat, ¬ (b = i ∧ c = 0) → VC cy de ad (up3 S 2 i 0 v) n 3 b c = VC cy de ad S n 3 b c := by
    intro b c hz
    simp only [VC]
    by_cases hc : b < n 4 ∧ c = 0
    · have hb : ¬ b = i := fun z => hz ⟨z, hc.2⟩
      rw [if_pos hc, if_pos hc]; simp [eAth, up3, hb]
    · rw [if_neg hc, if_neg hc]
  refine Vw_C (by decide) (by simp [VC, eAth, h, up3]) (fun a b c hz => ?_)
  exact (match a, hz with | 0, _ => VC_other (by decide) | 1, _ => VC_other (by decide) | 2, _ => VC_other (by decide) | 3, hz => hs b c (fun z => hz ⟨rfl, z⟩) | 4, _ => VC_other (by decide) | 5, _ => VC_other (by decide) | 6, _ => VC_other (by decide) | 7, _ => VC_other (by decide) | 8, _ => VC_other (by decide) | 9, _ => VC_other (by decide) | 10, _ => VC_other (by decide) | 11, _ => VC_other (by decide) | 12, _ => VC_other (by decide) | _ + 13, _ => VC_oo.trans VC_oo.symm)
theorem P_ath_stands {cy : Nat → ClassId} {de : Nat} {ad : Ad} {S : St} {n : Nat → Nat} {T : St} {k : Nat → Nat} {th : Int32} {X : Rl} {i : Nat} (h : i < n 4) {v : Int32} : up3 (Vw cy de ad S n T k th X) 3 i 0 (some (.inr (1, [.int (nI i), .int (S 5 i 0), .ref (ad 4 i 0), .ref (ad 4 i 1), .ref (ad 4 i 2), .int (S 8 i 0), .int (S 9 i 0), va_rf (kro ad (S 10 i 0)), .int (S 2 i 0), .int v]))) = Vw cy de ad (up3 S 11 i 0 v) n T k th X := by
  have hs : ∀ b c : Nat, ¬ (b = i ∧ c = 0) → VC cy de ad (up3 S 11 i 0 v) n 3 b c = VC cy de ad S n 3 b c := by
    intro b c hz
    simp only [VC]
    by_cases hc : b < n 4 ∧ c = 0
    · have hb : ¬ b = i := fun z => hz ⟨z, hc.2⟩
      rw [if_pos hc, if_pos hc]; simp [eAth, up3, hb]
    · rw [if_neg hc, if_neg hc]
  refine Vw_C (by decide) (by simp [VC, eAth, h, up3]) (fun a b c hz => ?_)
  exact (match a, hz with | 0, _ => VC_other (by decide) | 1, _ => VC_other (by decide) | 2, _ => VC_other (by decide) | 3, hz => hs b c (fun z => hz ⟨rfl, z⟩) | 4, _ => VC_other (by decide) | 5, _ => VC_other (by decide) | 6, _ => VC_other (by decide) | 7, _ => VC_other (by decide) | 8, _ => VC_other (by decide) | 9, _ => VC_other (by decide) | 10, _ => VC_other (by decide) | 11, _ => VC_other (by decide) | 12, _ => VC_other (by decide) | _ + 13, _ => VC_oo.trans VC_oo.symm)
theorem P_ath_kind {cy : Nat → ClassId} {de : Nat} {ad : Ad} {S : St} {n : Nat → Nat} {T : St} {k : Nat → Nat} {th : Int32} {X : Rl} {i : Nat} (h : i < n 4) {v : Int32} : up3 (Vw cy de ad S n T k th X) 3 i 0 (some (.inr (1, [.int (nI i), .int (S 5 i 0), .ref (ad 4 i 0), .ref (ad 4 i 1), .ref (ad 4 i 2), .int (S 8 i 0), .int (S 9 i 0), va_rf (kro ad v), .int (S 2 i 0), .int (S 11 i 0)]))) = Vw cy de ad (up3 S 10 i 0 v) n T k th X := by
  have hs : ∀ b c : Nat, ¬ (b = i ∧ c = 0) → VC cy de ad (up3 S 10 i 0 v) n 3 b c = VC cy de ad S n 3 b c := by
    intro b c hz
    simp only [VC]
    by_cases hc : b < n 4 ∧ c = 0
    · have hb : ¬ b = i := fun z => hz ⟨z, hc.2⟩
      rw [if_pos hc, if_pos hc]; simp [eAth, up3, hb]
    · rw [if_neg hc, if_neg hc]
  refine Vw_C (by decide) (by simp only [VC, h, and_self, if_true, eAth, up3_self]; rfl) (fun a b c hz => ?_)
  exact (match a, hz with | 0, _ => VC_other (by decide) | 1, _ => VC_other (by decide) | 2, _ => VC_other (by decide) | 3, hz => hs b c (fun z => hz ⟨rfl, z⟩) | 4, _ => VC_other (by decide) | 5, _ => VC_other (by decide) | 6, _ => VC_other (by decide) | 7, _ => VC_other (by decide) | 8, _ => VC_other (by decide) | 9, _ => VC_other (by decide) | 10, _ => VC_other (by decide) | 11, _ => VC_other (by decide) | 12, _ => VC_other (by decide) | _ + 13, _ => VC_oo.trans VC_oo.symm)
theorem P_mea0 {cy : Nat → ClassId} {de : Nat} {ad : Ad} {S : St} {n : Nat → Nat} {T : St} {k : Nat → Nat} {th : Int32} {X : Rl} {i : Nat} (h : i < n 4) {x : Nat} {v : Int32} : up3 (Vw cy de ad S n T k th X) 5 i 0 (some (eI (cy 0) 5 (upd (fMea S i 0) x v))) = Vw cy de ad (up3 S 6 i x v) n T k th X := by
  have hs : ∀ b c : Nat, ¬ (b = i ∧ c = 0) → VC cy de ad (up3 S 6 i x v) n 5 b c = VC cy de ad S n 5 b c := by
    intro b c hz
    simp only [VC]
    by_cases hc : b < n 4 ∧ c < 3
    · rw [if_pos hc, if_pos hc]; refine congrArg (fun f => some (eI (cy 0) 5 f)) (funext fun y => ?_)
      by_cases h1 : b = i
      · have h2 : ¬ c = 0 := fun z => hz ⟨h1, z⟩
        have h3 : c = 0 ∨ c = 1 ∨ c = 2 := by omega
        rcases h3 with rfl | rfl | rfl <;> first | exact absurd rfl h2 | simp [fMea, up3]
      · simp [fMea, up3, h1]
    · rw [if_neg hc, if_neg hc]
  refine Vw_C (by decide) (by simp only [VC]; rw [if_pos ⟨h, by decide⟩]; exact congrArg (fun f => some (eI (cy 0) 5 f)) (funext fun y => by simp [fMea, upd, up3])) (fun a b c hz => ?_)
  exact (match a, hz with | 0, _ => VC_other (by decide) | 1, _ => VC_other (by decide) | 2, _ => VC_other (by decide) | 3, _ => VC_other (by decide) | 4, _ => VC_other (by decide) | 5, hz => hs b c (fun z => hz ⟨rfl, z⟩) | 6, _ => VC_other (by decide) | 7, _ => VC_other (by decide) | 8, _ => VC_other (by decide) | 9, _ => VC_other (by decide) | 10, _ => VC_other (by decide) | 11, _ => VC_other (by decide) | 12, _ => VC_other (by decide) | _ + 13, _ => VC_oo.trans VC_oo.symm)
theorem P_mea1 {cy : Nat → ClassId} {de : Nat} {ad : Ad} {S : St} {n : Nat → Nat} {T : St} {k : Nat → Nat} {th : Int32} {X : Rl} {i : Nat} (h : i < n 4) {x : Nat} {v : Int32} : up3 (Vw cy de ad S n T k th X) 5 i 1 (some (eI (cy 0) 5 (upd (fMea S i 1) x v))) = Vw cy de ad (up3 S 7 i x v) n T k th X := by
  have hs : ∀ b c : Nat, ¬ (b = i ∧ c = 1) → VC cy de ad (up3 S 7 i x v) n 5 b c = VC cy de ad S n 5 b c := by
    intro b c hz
    simp only [VC]
    by_cases hc : b < n 4 ∧ c < 3
    · rw [if_pos hc, if_pos hc]; refine congrArg (fun f => some (eI (cy 0) 5 f)) (funext fun y => ?_)
      by_cases h1 : b = i
      · have h2 : ¬ c = 1 := fun z => hz ⟨h1, z⟩
        have h3 : c = 0 ∨ c = 1 ∨ c = 2 := by omega
        rcases h3 with rfl | rfl | rfl <;> first | exact absurd rfl h2 | simp [fMea, up3]
      · simp [fMea, up3, h1]
    · rw [if_neg hc, if_neg hc]
  refine Vw_C (by decide) (by simp only [VC]; rw [if_pos ⟨h, by decide⟩]; exact congrArg (fun f => some (eI (cy 0) 5 f)) (funext fun y => by simp [fMea, upd, up3])) (fun a b c hz => ?_)
  exact (match a, hz with | 0, _ => VC_other (by decide) | 1, _ => VC_other (by decide) | 2, _ => VC_other (by decide) | 3, _ => VC_other (by decide) | 4, _ => VC_other (by decide) | 5, hz => hs b c (fun z => hz ⟨rfl, z⟩) | 6, _ => VC_other (by decide) | 7, _ => VC_other (by decide) | 8, _ => VC_other (by decide) | 9, _ => VC_other (by decide) | 10, _ => VC_other (by decide) | 11, _ => VC_other (by decide) | 12, _ => VC_other (by decide) | _ + 13, _ => VC_oo.trans VC_oo.symm)
theorem P_mea2 {cy : Nat → ClassId} {de : Nat} {ad : Ad} {S : St} {n : Nat → Nat} {T : St} {k : Nat → Nat} {th : Int32} {X : Rl} {i : Nat} (h : i < n 4) {x : Nat} {v : Int32} : up3 (Vw cy de ad S n T k th X) 5 i 2 (some (eI (cy 0) 5 (upd (fMea S i 2) x v))) = Vw cy de ad (up3 S 1 i x v) n T k th X := by
  have hs : ∀ b c : Nat, ¬ (b = i ∧ c = 2) → VC cy de ad (up3 S 1 i x v) n 5 b c = VC cy de ad S n 5 b c := by
    intro b c hz
    simp only [VC]
    by_cases hc : b < n 4 ∧ c < 3
    · rw [if_pos hc, if_pos hc]; refine congrArg (fun f => some (eI (cy 0) 5 f)) (funext fun y => ?_)
      by_cases h1 : b = i
      · have h2 : ¬ c = 2 := fun z => hz ⟨h1, z⟩
        have h3 : c = 0 ∨ c = 1 ∨ c = 2 := by omega
        rcases h3 with rfl | rfl | rfl <;> first | exact absurd rfl h2 | simp [fMea, up3]
      · simp [fMea, up3, h1]
    · rw [if_neg hc, if_neg hc]
  refine Vw_C (by decide) (by simp only [VC]; rw [if_pos ⟨h, by decide⟩]; exact congrArg (fun f => some (eI (cy 0) 5 f)) (funext fun y => by simp [fMea, upd, up3])) (fun a b c hz => ?_)
  exact (match a, hz with | 0, _ => VC_other (by decide) | 1, _ => VC_other (by decide) | 2, _ => VC_other (by decide) | 3, _ => VC_other (by decide) | 4, _ => VC_other (by decide) | 5, hz => hs b c (fun z => hz ⟨rfl, z⟩) | 6, _ => VC_other (by decide) | 7, _ => VC_other (by decide) | 8, _ => VC_other (by decide) | 9, _ => VC_other (by decide) | 10, _ => VC_other (by decide) | 11, _ => VC_other (by decide) | 12, _ => VC_other (by decide) | _ + 13, _ => VC_oo.trans VC_oo.symm)
theorem P_year {cy : Nat → ClassId} {de : Nat} {ad : Ad} {S : St} {n : Nat → Nat} {T : St} {k : Nat → Nat} {th : Int32} {X : Rl} {v : Int32} : up3 (Vw cy de ad S n T k th X) 0 0 0 (some (.inr (7, [.ref (ad 1 0 0), .ref (ad 1 1 0), .ref (ad 1 2 0), .ref (ad 1 3 0), .ref (ad 12 0 0), .int v]))) = Vw cy de ad (up3 S 23 0 0 v) n T k th X := by
  have hs : ∀ b c : Nat, ¬ (b = 0 ∧ c = 0) → VC cy de ad (up3 S 23 0 0 v) n 0 b c = VC cy de ad S n 0 b c := by
    intro b c hz
    simp only [VC]
    rw [if_neg hz, if_neg hz]
  refine Vw_C (by decide) (by simp [VC, eGames, up3]) (fun a b c hz => ?_)
  exact (match a, hz with | 0, hz => hs b c (fun z => hz ⟨rfl, z⟩) | 1, _ => VC_other (by decide) | 2, _ => VC_other (by decide) | 3, _ => VC_other (by decide) | 4, _ => VC_other (by decide) | 5, _ => VC_other (by decide) | 6, _ => VC_other (by decide) | 7, _ => VC_other (by decide) | 8, _ => VC_other (by decide) | 9, _ => VC_other (by decide) | 10, _ => VC_other (by decide) | 11, _ => VC_other (by decide) | 12, _ => VC_other (by decide) | _ + 13, _ => VC_oo.trans VC_oo.symm)
theorem P_mon {cy : Nat → ClassId} {de : Nat} {ad : Ad} {S : St} {n : Nat → Nat} {T : St} {k : Nat → Nat} {th : Int32} {X : Rl} {x : Nat} {v : Int32} : up3 (Vw cy de ad S n T k th X) 12 0 0 (some (eI (cy 0) 6 (upd (fun x => S 15 x 0) x v))) = Vw cy de ad (up3 S 15 x 0 v) n T k th X := by
  have hs : ∀ b c : Nat, ¬ (b = 0 ∧ c = 0) → VC cy de ad (up3 S 15 x 0 v) n 12 b c = VC cy de ad S n 12 b c := by
    intro b c hz
    simp only [VC]
    rw [if_neg hz, if_neg hz]
  refine Vw_C (by decide) (by simp only [VC, and_self, if_true]; exact congrArg (fun f => some (eI (cy 0) 6 f)) (funext fun y => by simp [upd, up3])) (fun a b c hz => ?_)
  exact (match a, hz with | 0, _ => VC_other (by decide) | 1, _ => VC_other (by decide) | 2, _ => VC_other (by decide) | 3, _ => VC_other (by decide) | 4, _ => VC_other (by decide) | 5, _ => VC_other (by decide) | 6, _ => VC_other (by decide) | 7, _ => VC_other (by decide) | 8, _ => VC_other (by decide) | 9, _ => VC_other (by decide) | 10, _ => VC_other (by decide) | 11, _ => VC_other (by decide) | 12, hz => hs b c (fun z => hz ⟨rfl, z⟩) | _ + 13, _ => VC_oo.trans VC_oo.symm)
theorem P_kind_leastSum {cy : Nat → ClassId} {de : Nat} {ad : Ad} {S : St} {n : Nat → Nat} {T : St} {k : Nat → Nat} {th : Int32} {X : Rl} {i : Nat} (h : i < n 6) {v : Int32} : up3 (Vw cy de ad S n T k th X) 7 i 0 (some (.inr (5, [.int (nI i), .int (S 13 i 0), .int (S 13 i 1), .int v, .int (S 13 i 3), .int (S 14 i 0)]))) = Vw cy de ad (up3 S 13 i 2 v) n T k th X := by
  have hs : ∀ b c : Nat, ¬ (b = i ∧ c = 0) → VC cy de ad (up3 S 13 i 2 v) n 7 b c = VC cy de ad S n 7 b c := by
    intro b c hz
    simp only [VC]
    by_cases hc : b < n 6 ∧ c = 0
    · have hb : ¬ b = i := fun z => hz ⟨z, hc.2⟩
      rw [if_pos hc, if_pos hc]; simp [eKind, up3, hb]
    · rw [if_neg hc, if_neg hc]
  refine Vw_C (by decide) (by simp [VC, eKind, h, up3]) (fun a b c hz => ?_)
  exact (match a, hz with | 0, _ => VC_other (by decide) | 1, _ => VC_other (by decide) | 2, _ => VC_other (by decide) | 3, _ => VC_other (by decide) | 4, _ => VC_other (by decide) | 5, _ => VC_other (by decide) | 6, _ => VC_other (by decide) | 7, hz => hs b c (fun z => hz ⟨rfl, z⟩) | 8, _ => VC_other (by decide) | 9, _ => VC_other (by decide) | 10, _ => VC_other (by decide) | 11, _ => VC_other (by decide) | 12, _ => VC_other (by decide) | _ + 13, _ => VC_oo.trans VC_oo.symm)
theorem P_kind_greatestSum {cy : Nat → ClassId} {de : Nat} {ad : Ad} {S : St} {n : Nat → Nat} {T : St} {k : Nat → Nat} {th : Int32} {X : Rl} {i : Nat} (h : i < n 6) {v : Int32} : up3 (Vw cy de ad S n T k th X) 7 i 0 (some (.inr (5, [.int (nI i), .int (S 13 i 0), .int (S 13 i 1), .int (S 13 i 2), .int v, .int (S 14 i 0)]))) = Vw cy de ad (up3 S 13 i 3 v) n T k th X := by
  have hs : ∀ b c : Nat, ¬ (b = i ∧ c = 0) → VC cy de ad (up3 S 13 i 3 v) n 7 b c = VC cy de ad S n 7 b c := by
    intro b c hz
    simp only [VC]
    by_cases hc : b < n 6 ∧ c = 0
    · have hb : ¬ b = i := fun z => hz ⟨z, hc.2⟩
      rw [if_pos hc, if_pos hc]; simp [eKind, up3, hb]
    · rw [if_neg hc, if_neg hc]
  refine Vw_C (by decide) (by simp [VC, eKind, h, up3]) (fun a b c hz => ?_)
  exact (match a, hz with | 0, _ => VC_other (by decide) | 1, _ => VC_other (by decide) | 2, _ => VC_other (by decide) | 3, _ => VC_other (by decide) | 4, _ => VC_other (by decide) | 5, _ => VC_other (by decide) | 6, _ => VC_other (by decide) | 7, hz => hs b c (fun z => hz ⟨rfl, z⟩) | 8, _ => VC_other (by decide) | 9, _ => VC_other (by decide) | 10, _ => VC_other (by decide) | 11, _ => VC_other (by decide) | 12, _ => VC_other (by decide) | _ + 13, _ => VC_oo.trans VC_oo.symm)
theorem P_kind_leastTime {cy : Nat → ClassId} {de : Nat} {ad : Ad} {S : St} {n : Nat → Nat} {T : St} {k : Nat → Nat} {th : Int32} {X : Rl} {i : Nat} (h : i < n 6) {v : Int32} : up3 (Vw cy de ad S n T k th X) 7 i 0 (some (.inr (5, [.int (nI i), .int (S 13 i 0), .int (S 13 i 1), .int (S 13 i 2), .int (S 13 i 3), .int v]))) = Vw cy de ad (up3 S 14 i 0 v) n T k th X := by
  have hs : ∀ b c : Nat, ¬ (b = i ∧ c = 0) → VC cy de ad (up3 S 14 i 0 v) n 7 b c = VC cy de ad S n 7 b c := by
    intro b c hz
    simp only [VC]
    by_cases hc : b < n 6 ∧ c = 0
    · have hb : ¬ b = i := fun z => hz ⟨z, hc.2⟩
      rw [if_pos hc, if_pos hc]; simp [eKind, up3, hb]
    · rw [if_neg hc, if_neg hc]
  refine Vw_C (by decide) (by simp [VC, eKind, h, up3]) (fun a b c hz => ?_)
  exact (match a, hz with | 0, _ => VC_other (by decide) | 1, _ => VC_other (by decide) | 2, _ => VC_other (by decide) | 3, _ => VC_other (by decide) | 4, _ => VC_other (by decide) | 5, _ => VC_other (by decide) | 6, _ => VC_other (by decide) | 7, hz => hs b c (fun z => hz ⟨rfl, z⟩) | 8, _ => VC_other (by decide) | 9, _ => VC_other (by decide) | 10, _ => VC_other (by decide) | 11, _ => VC_other (by decide) | 12, _ => VC_other (by decide) | _ + 13, _ => VC_oo.trans VC_oo.symm)
theorem P_event_began {cy : Nat → ClassId} {de : Nat} {ad : Ad} {S : St} {n : Nat → Nat} {T : St} {k : Nat → Nat} {th : Int32} {X : Rl} {i : Nat} (h : i < n 7) {v : Int32} : up3 (Vw cy de ad S n T k th X) 8 i 0 (some (.inr (4, [.int (S 16 i 0), .ref (ad 9 i 0), .ref (ad 10 i 0), .int v, .int (S 19 i 0)]))) = Vw cy de ad (up3 S 18 i 0 v) n T k th X := by
  have hs : ∀ b c : Nat, ¬ (b = i ∧ c = 0) → VC cy de ad (up3 S 18 i 0 v) n 8 b c = VC cy de ad S n 8 b c := by
    intro b c hz
    simp only [VC]
    by_cases hc : b < n 7 ∧ c = 0
    · have hb : ¬ b = i := fun z => hz ⟨z, hc.2⟩
      rw [if_pos hc, if_pos hc]; simp [eEvent, up3, hb]
    · rw [if_neg hc, if_neg hc]
  refine Vw_C (by decide) (by simp [VC, eEvent, h, up3]) (fun a b c hz => ?_)
  exact (match a, hz with | 0, _ => VC_other (by decide) | 1, _ => VC_other (by decide) | 2, _ => VC_other (by decide) | 3, _ => VC_other (by decide) | 4, _ => VC_other (by decide) | 5, _ => VC_other (by decide) | 6, _ => VC_other (by decide) | 7, _ => VC_other (by decide) | 8, hz => hs b c (fun z => hz ⟨rfl, z⟩) | 9, _ => VC_other (by decide) | 10, _ => VC_other (by decide) | 11, _ => VC_other (by decide) | 12, _ => VC_other (by decide) | _ + 13, _ => VC_oo.trans VC_oo.symm)
theorem P_event_closed {cy : Nat → ClassId} {de : Nat} {ad : Ad} {S : St} {n : Nat → Nat} {T : St} {k : Nat → Nat} {th : Int32} {X : Rl} {i : Nat} (h : i < n 7) {v : Int32} : up3 (Vw cy de ad S n T k th X) 8 i 0 (some (.inr (4, [.int (S 16 i 0), .ref (ad 9 i 0), .ref (ad 10 i 0), .int (S 18 i 0), .int v]))) = Vw cy de ad (up3 S 19 i 0 v) n T k th X := by
  have hs : ∀ b c : Nat, ¬ (b = i ∧ c = 0) → VC cy de ad (up3 S 19 i 0 v) n 8 b c = VC cy de ad S n 8 b c := by
    intro b c hz
    simp only [VC]
    by_cases hc : b < n 7 ∧ c = 0
    · have hb : ¬ b = i := fun z => hz ⟨z, hc.2⟩
      rw [if_pos hc, if_pos hc]; simp [eEvent, up3, hb]
    · rw [if_neg hc, if_neg hc]
  refine Vw_C (by decide) (by simp [VC, eEvent, h, up3]) (fun a b c hz => ?_)
  exact (match a, hz with | 0, _ => VC_other (by decide) | 1, _ => VC_other (by decide) | 2, _ => VC_other (by decide) | 3, _ => VC_other (by decide) | 4, _ => VC_other (by decide) | 5, _ => VC_other (by decide) | 6, _ => VC_other (by decide) | 7, _ => VC_other (by decide) | 8, hz => hs b c (fun z => hz ⟨rfl, z⟩) | 9, _ => VC_other (by decide) | 10, _ => VC_other (by decide) | 11, _ => VC_other (by decide) | 12, _ => VC_other (by decide) | _ + 13, _ => VC_oo.trans VC_oo.symm)
theorem P_fac {cy : Nat → ClassId} {de : Nat} {ad : Ad} {S : St} {n : Nat → Nat} {T : St} {k : Nat → Nat} {th : Int32} {X : Rl} {i : Nat} (h : i < n 7) {x : Nat} {v : Int32} : up3 (Vw cy de ad S n T k th X) 9 i 0 (some (eI (cy 0) 8 (upd (fun x => S 17 i x) x v))) = Vw cy de ad (up3 S 17 i x v) n T k th X := by
  have hs : ∀ b c : Nat, ¬ (b = i ∧ c = 0) → VC cy de ad (up3 S 17 i x v) n 9 b c = VC cy de ad S n 9 b c := by
    intro b c hz
    simp only [VC]
    by_cases hc : b < n 7 ∧ c = 0
    · have hb : ¬ b = i := fun z => hz ⟨z, hc.2⟩
      rw [if_pos hc, if_pos hc]; simp [up3, hb]
    · rw [if_neg hc, if_neg hc]
  refine Vw_C (by decide) (by simp only [VC, h, and_self, if_true]; exact congrArg (fun f => some (eI (cy 0) 8 f)) (funext fun y => by simp [upd, up3])) (fun a b c hz => ?_)
  exact (match a, hz with | 0, _ => VC_other (by decide) | 1, _ => VC_other (by decide) | 2, _ => VC_other (by decide) | 3, _ => VC_other (by decide) | 4, _ => VC_other (by decide) | 5, _ => VC_other (by decide) | 6, _ => VC_other (by decide) | 7, _ => VC_other (by decide) | 8, _ => VC_other (by decide) | 9, hz => hs b c (fun z => hz ⟨rfl, z⟩) | 10, _ => VC_other (by decide) | 11, _ => VC_other (by decide) | 12, _ => VC_other (by decide) | _ + 13, _ => VC_oo.trans VC_oo.symm)
theorem P_ent_fell {cy : Nat → ClassId} {de : Nat} {ad : Ad} {S : St} {n : Nat → Nat} {T : St} {k : Nat → Nat} {th : Int32} {X : Rl} {i aa : Nat} (h : i < n 7) (h2 : aa < 16) (h3 : neg (S 20 i aa) = false) {v : Int32} : up3 (Vw cy de ad S n T k th X) 11 i aa (some (.inr (3, [.ref (ad 3 aa 0), va_rf (kro ad (S 20 i aa)), .int v, .int (S 22 i aa)]))) = Vw cy de ad (up3 S 21 i aa v) n T k th X := by
  have hs : ∀ b c : Nat, ¬ (b = i ∧ c = aa) → VC cy de ad (up3 S 21 i aa v) n 11 b c = VC cy de ad S n 11 b c := by
    intro b c hz
    simp only [VC]
    show (if b < n 7 ∧ c < 16 ∧ neg (S 20 b c) = false then some (eEnt ad (up3 S 21 i aa v) b c) else none) = _
    by_cases hc : b < n 7 ∧ c < 16 ∧ neg (S 20 b c) = false
    · rw [if_pos hc, if_pos ⟨hc.1, hc.2.1, hc.2.2⟩]; simp [eEnt, up3, hz]
    · rw [if_neg hc, if_neg hc]
  refine Vw_C (by decide) (by simp only [VC, eEnt]; rw [if_pos ⟨h, h2, h3⟩]; simp [up3]) (fun a b c hz => ?_)
  exact (match a, hz with | 0, _ => VC_other (by decide) | 1, _ => VC_other (by decide) | 2, _ => VC_other (by decide) | 3, _ => VC_other (by decide) | 4, _ => VC_other (by decide) | 5, _ => VC_other (by decide) | 6, _ => VC_other (by decide) | 7, _ => VC_other (by decide) | 8, _ => VC_other (by decide) | 9, _ => VC_other (by decide) | 10, _ => VC_other (by decide) | 11, hz => hs b c (fun z => hz ⟨rfl, z⟩) | 12, _ => VC_other (by decide) | _ + 13, _ => VC_oo.trans VC_oo.symm)
theorem P_ent_factoredTime {cy : Nat → ClassId} {de : Nat} {ad : Ad} {S : St} {n : Nat → Nat} {T : St} {k : Nat → Nat} {th : Int32} {X : Rl} {i aa : Nat} (h : i < n 7) (h2 : aa < 16) (h3 : neg (S 20 i aa) = false) {v : Int32} : up3 (Vw cy de ad S n T k th X) 11 i aa (some (.inr (3, [.ref (ad 3 aa 0), va_rf (kro ad (S 20 i aa)), .int (S 21 i aa), .int v]))) = Vw cy de ad (up3 S 22 i aa v) n T k th X := by
  have hs : ∀ b c : Nat, ¬ (b = i ∧ c = aa) → VC cy de ad (up3 S 22 i aa v) n 11 b c = VC cy de ad S n 11 b c := by
    intro b c hz
    simp only [VC]
    show (if b < n 7 ∧ c < 16 ∧ neg (S 20 b c) = false then some (eEnt ad (up3 S 22 i aa v) b c) else none) = _
    by_cases hc : b < n 7 ∧ c < 16 ∧ neg (S 20 b c) = false
    · rw [if_pos hc, if_pos ⟨hc.1, hc.2.1, hc.2.2⟩]; simp [eEnt, up3, hz]
    · rw [if_neg hc, if_neg hc]
  refine Vw_C (by decide) (by simp only [VC, eEnt]; rw [if_pos ⟨h, h2, h3⟩]; simp [up3]) (fun a b c hz => ?_)
  exact (match a, hz with | 0, _ => VC_other (by decide) | 1, _ => VC_other (by decide) | 2, _ => VC_other (by decide) | 3, _ => VC_other (by decide) | 4, _ => VC_other (by decide) | 5, _ => VC_other (by decide) | 6, _ => VC_other (by decide) | 7, _ => VC_other (by decide) | 8, _ => VC_other (by decide) | 9, _ => VC_other (by decide) | 10, _ => VC_other (by decide) | 11, hz => hs b c (fun z => hz ⟨rfl, z⟩) | 12, _ => VC_other (by decide) | _ + 13, _ => VC_oo.trans VC_oo.symm)