theorem V_games {cy : Nat → ClassId} {de : Nat} {ad : Ad} {S : St} {n : Nat → Nat} {T : St} {k : Nat → Nat} {th : Int32} {X : Rl}  : Vw cy de ad S n T k th X 0 0 0 = some (.inr (7, [.ref (ad 1 0 0), .ref (ad 1 1 0), .ref (ad 1 2 0), .ref (ad 1 3 0), .ref (ad 12 0 0), .int (S 23 0 0)])) := by rfl
theorem V_list {cy : Nat → ClassId} {de : Nat} {ad : Ad} {S : St} {n : Nat → Nat} {T : St} {k : Nat → Nat} {th : Int32} {X : Rl} {i : Nat} (h : i < 4) : Vw cy de ad S n T k th X 1 i 0 = some (.inr (0, [.int (S 0 i 0), .ref (if n i = 0 then de else ad 2 i 0), .int (nI (n i))])) := by simp [Vw, VC, eList, h]
theorem V_data {cy : Nat → ClassId} {de : Nat} {ad : Ad} {S : St} {n : Nat → Nat} {T : St} {k : Nat → Nat} {th : Int32} {X : Rl} {i : Nat} (h : i < 4) (h2 : 0 < n i) : Vw cy de ad S n T k th X 2 i 0 = some (eQ (cy 6) (capL (n i)) (fData ad n i)) := by simp [Vw, VC, h, h2]
theorem V_ath {cy : Nat → ClassId} {de : Nat} {ad : Ad} {S : St} {n : Nat → Nat} {T : St} {k : Nat → Nat} {th : Int32} {X : Rl} {i : Nat} (h : i < n 4) : Vw cy de ad S n T k th X 3 i 0 = some (.inr (1, [.int (nI i), .int (S 5 i 0), .ref (ad 4 i 0), .ref (ad 4 i 1), .ref (ad 4 i 2), .int (S 8 i 0), .int (S 9 i 0), va_rf (kro ad (S 10 i 0)), .int (S 2 i 0), .int (S 11 i 0)])) := by simp [Vw, VC, eAth, h]
theorem V_mea {cy : Nat → ClassId} {de : Nat} {ad : Ad} {S : St} {n : Nat → Nat} {T : St} {k : Nat → Nat} {th : Int32} {X : Rl} {i j : Nat} (h : i < n 4) (h2 : j < 3) : Vw cy de ad S n T k th X 4 i j = some (.inr (6, [.ref (ad 5 i j)])) := by simp [Vw, VC, h, h2]
theorem V_meaA {cy : Nat → ClassId} {de : Nat} {ad : Ad} {S : St} {n : Nat → Nat} {T : St} {k : Nat → Nat} {th : Int32} {X : Rl} {i j : Nat} (h : i < n 4) (h2 : j < 3) : Vw cy de ad S n T k th X 5 i j = some (eI (cy 0) 5 (fMea S i j)) := by simp [Vw, VC, h, h2]
theorem V_cla {cy : Nat → ClassId} {de : Nat} {ad : Ad} {S : St} {n : Nat → Nat} {T : St} {k : Nat → Nat} {th : Int32} {X : Rl} {i : Nat} (h : i < n 5) : Vw cy de ad S n T k th X 6 i 0 = some (.inr (2, [.int (S 12 i 0)])) := by simp [Vw, VC, h]
theorem V_kind {cy : Nat → ClassId} {de : Nat} {ad : Ad} {S : St} {n : Nat → Nat} {T : St} {k : Nat → Nat} {th : Int32} {X : Rl} {i : Nat} (h : i < n 6) : Vw cy de ad S n T k th X 7 i 0 = some (.inr (5, [.int (nI i), .int (S 13 i 0), .int (S 13 i 1), .int (S 13 i 2), .int (S 13 i 3), .int (S 14 i 0)])) := by simp [Vw, VC, eKind, h]
theorem V_event {cy : Nat → ClassId} {de : Nat} {ad : Ad} {S : St} {n : Nat → Nat} {T : St} {k : Nat → Nat} {th : Int32} {X : Rl} {i : Nat} (h : i < n 7) : Vw cy de ad S n T k th X 8 i 0 = some (.inr (4, [.int (S 16 i 0), .ref (ad 9 i 0), .ref (ad 10 i 0), .int (S 18 i 0), .int (S 19 i 0)])) := by simp [Vw, VC, eEvent, h]
theorem V_fac {cy : Nat → ClassId} {de : Nat} {ad : Ad} {S : St} {n : Nat → Nat} {T : St} {k : Nat → Nat} {th : Int32} {X : Rl} {i : Nat} (h : i < n 7) : Vw cy de ad S n T k th X 9 i 0 = some (eI (cy 0) 8 (fun x => S 17 i x)) := by simp [Vw, VC, h]
theorem V_entA {cy : Nat → ClassId} {de : Nat} {ad : Ad} {S : St} {n : Nat → Nat} {T : St} {k : Nat → Nat} {th : Int32} {X : Rl} {i : Nat} (h : i < n 7) : Vw cy de ad S n T k th X 10 i 0 = some (eQ (cy 5) 16 (fEnt ad S i)) := by simp [Vw, VC, h]
theorem V_ent {cy : Nat → ClassId} {de : Nat} {ad : Ad} {S : St} {n : Nat → Nat} {T : St} {k : Nat → Nat} {th : Int32} {X : Rl} {i a : Nat} (h : i < n 7) (h2 : a < 16) (h3 : neg (S 20 i a) = false) : Vw cy de ad S n T k th X 11 i a = some (.inr (3, [.ref (ad 3 a 0), va_rf (kro ad (S 20 i a)), .int (S 21 i a), .int (S 22 i a)])) := by simp only [Vw, VC, eEnt]; rw [if_pos (by decide), if_pos ⟨h, h2, h3⟩]
theorem V_mon {cy : Nat → ClassId} {de : Nat} {ad : Ad} {S : St} {n : Nat → Nat} {T : St} {k : Nat → Nat} {th : Int32} {X : Rl}  : Vw cy de ad S n T k th X 12 0 0 = some (eI (cy 0) 6 (fun x => S 15 x 0)) := by rfl
theorem V_model {cy : Nat → ClassId} {de : Nat} {ad : Ad} {S : St} {n : Nat → Nat} {T : St} {k : Nat → Nat} {th : Int32} {X : Rl}  : Vw cy de ad S n T k th X 13 0 0 = some (.inr (8, [.ref (ad 14 0 0), .ref (ad 14 1 0), .ref (ad 14 2 0), .ref (ad 14 3 0), .ref (ad 14 4 0), .ref (ad 14 5 0), .ref (ad 14 6 0), .ref (ad 14 7 0), .ref (ad 14 8 0), .ref (ad 14 9 0), .ref (ad 14 10 0), .ref (ad 14 11 0), .ref (ad 14 12 0), .ref (ad 14 13 0), .ref (ad 14 14 0), .ref (ad 14 15 0), .ref (ad 14 16 0), .ref (ad 14 17 0), .ref (ad 14 18 0), .ref (ad 14 19 0), .int (nI (k 0)), .int (nI (k 1)), .int (nI (k 2)), .int (nI (k 3)), .int (T 23 0 0), .int th])) := by rfl
theorem V_m0 {cy : Nat → ClassId} {de : Nat} {ad : Ad} {S : St} {n : Nat → Nat} {T : St} {k : Nat → Nat} {th : Int32} {X : Rl}  : Vw cy de ad S n T k th X 14 0 0 = some (eI (cy 0) 16 (fun x => T 5 x 0)) := by rfl
theorem V_m4 {cy : Nat → ClassId} {de : Nat} {ad : Ad} {S : St} {n : Nat → Nat} {T : St} {k : Nat → Nat} {th : Int32} {X : Rl}  : Vw cy de ad S n T k th X 14 4 0 = some (eI (cy 1) 16 (fun x => T 8 x 0)) := by rfl
theorem V_m5 {cy : Nat → ClassId} {de : Nat} {ad : Ad} {S : St} {n : Nat → Nat} {T : St} {k : Nat → Nat} {th : Int32} {X : Rl}  : Vw cy de ad S n T k th X 14 5 0 = some (eI (cy 2) 16 (fun x => T 9 x 0)) := by rfl
theorem V_m6 {cy : Nat → ClassId} {de : Nat} {ad : Ad} {S : St} {n : Nat → Nat} {T : St} {k : Nat → Nat} {th : Int32} {X : Rl}  : Vw cy de ad S n T k th X 14 6 0 = some (eI (cy 0) 16 (fun x => T 10 x 0)) := by rfl
theorem V_m7 {cy : Nat → ClassId} {de : Nat} {ad : Ad} {S : St} {n : Nat → Nat} {T : St} {k : Nat → Nat} {th : Int32} {X : Rl}  : Vw cy de ad S n T k th X 14 7 0 = some (eI (cy 0) 16 (fun x => T 31 x 0)) := by rfl
theorem V_m8 {cy : Nat → ClassId} {de : Nat} {ad : Ad} {S : St} {n : Nat → Nat} {T : St} {k : Nat → Nat} {th : Int32} {X : Rl}  : Vw cy de ad S n T k th X 14 8 0 = some (eI (cy 1) 16 (fun x => T 11 x 0)) := by rfl
theorem V_m9 {cy : Nat → ClassId} {de : Nat} {ad : Ad} {S : St} {n : Nat → Nat} {T : St} {k : Nat → Nat} {th : Int32} {X : Rl}  : Vw cy de ad S n T k th X 14 9 0 = some (eI (cy 0) 8 (fun x => T 12 x 0)) := by rfl
theorem V_m11 {cy : Nat → ClassId} {de : Nat} {ad : Ad} {S : St} {n : Nat → Nat} {T : St} {k : Nat → Nat} {th : Int32} {X : Rl}  : Vw cy de ad S n T k th X 14 11 0 = some (eI (cy 0) 8 (fun x => T 14 x 0)) := by rfl
theorem V_m12 {cy : Nat → ClassId} {de : Nat} {ad : Ad} {S : St} {n : Nat → Nat} {T : St} {k : Nat → Nat} {th : Int32} {X : Rl}  : Vw cy de ad S n T k th X 14 12 0 = some (eI (cy 0) 6 (fun x => T 15 x 0)) := by rfl
theorem V_m13 {cy : Nat → ClassId} {de : Nat} {ad : Ad} {S : St} {n : Nat → Nat} {T : St} {k : Nat → Nat} {th : Int32} {X : Rl}  : Vw cy de ad S n T k th X 14 13 0 = some (eI (cy 0) 8 (fun x => T 16 x 0)) := by rfl
theorem V_m15 {cy : Nat → ClassId} {de : Nat} {ad : Ad} {S : St} {n : Nat → Nat} {T : St} {k : Nat → Nat} {th : Int32} {X : Rl}  : Vw cy de ad S n T k th X 14 15 0 = some (eI (cy 1) 8 (fun x => T 18 x 0)) := by rfl
theorem V_m16 {cy : Nat → ClassId} {de : Nat} {ad : Ad} {S : St} {n : Nat → Nat} {T : St} {k : Nat → Nat} {th : Int32} {X : Rl}  : Vw cy de ad S n T k th X 14 16 0 = some (eI (cy 1) 8 (fun x => T 19 x 0)) := by rfl
theorem V_o1 {cy : Nat → ClassId} {de : Nat} {ad : Ad} {S : St} {n : Nat → Nat} {T : St} {k : Nat → Nat} {th : Int32} {X : Rl}  : Vw cy de ad S n T k th X 14 1 0 = some (eQ (cy 7) 16 (fun x => some (ad 15 1 x))) := by rfl
theorem V_o2 {cy : Nat → ClassId} {de : Nat} {ad : Ad} {S : St} {n : Nat → Nat} {T : St} {k : Nat → Nat} {th : Int32} {X : Rl}  : Vw cy de ad S n T k th X 14 2 0 = some (eQ (cy 7) 16 (fun x => some (ad 15 2 x))) := by rfl
theorem V_o3 {cy : Nat → ClassId} {de : Nat} {ad : Ad} {S : St} {n : Nat → Nat} {T : St} {k : Nat → Nat} {th : Int32} {X : Rl}  : Vw cy de ad S n T k th X 14 3 0 = some (eQ (cy 7) 16 (fun x => some (ad 15 3 x))) := by rfl
theorem V_o10 {cy : Nat → ClassId} {de : Nat} {ad : Ad} {S : St} {n : Nat → Nat} {T : St} {k : Nat → Nat} {th : Int32} {X : Rl}  : Vw cy de ad S n T k th X 14 10 0 = some (eQ (cy 7) 8 (fun x => some (ad 15 10 x))) := by rfl
theorem V_o14 {cy : Nat → ClassId} {de : Nat} {ad : Ad} {S : St} {n : Nat → Nat} {T : St} {k : Nat → Nat} {th : Int32} {X : Rl}  : Vw cy de ad S n T k th X 14 14 0 = some (eQ (cy 7) 8 (fun x => some (ad 15 14 x))) := by rfl
theorem V_o17 {cy : Nat → ClassId} {de : Nat} {ad : Ad} {S : St} {n : Nat → Nat} {T : St} {k : Nat → Nat} {th : Int32} {X : Rl}  : Vw cy de ad S n T k th X 14 17 0 = some (eQ (cy 7) 8 (fun x => some (ad 15 17 x))) := by rfl
theorem V_o18 {cy : Nat → ClassId} {de : Nat} {ad : Ad} {S : St} {n : Nat → Nat} {T : St} {k : Nat → Nat} {th : Int32} {X : Rl}  : Vw cy de ad S n T k th X 14 18 0 = some (eQ (cy 8) 8 (fun x => some (ad 15 18 x))) := by rfl
theorem V_o19 {cy : Nat → ClassId} {de : Nat} {ad : Ad} {S : St} {n : Nat → Nat} {T : St} {k : Nat → Nat} {th : Int32} {X : Rl}  : Vw cy de ad S n T k th X 14 19 0 = some (eQ (cy 7) 8 (fun x => some (ad 15 19 x))) := by rfl
theorem V_r1 {cy : Nat → ClassId} {de : Nat} {ad : Ad} {S : St} {n : Nat → Nat} {T : St} {k : Nat → Nat} {th : Int32} {X : Rl} {x : Nat} (h : x < 16) : Vw cy de ad S n T k th X 15 1 x = some (eI (cy 0) 5 (fun y => T 6 x y)) := by simp [Vw, VB, h]
theorem V_r2 {cy : Nat → ClassId} {de : Nat} {ad : Ad} {S : St} {n : Nat → Nat} {T : St} {k : Nat → Nat} {th : Int32} {X : Rl} {x : Nat} (h : x < 16) : Vw cy de ad S n T k th X 15 2 x = some (eI (cy 0) 5 (fun y => T 7 x y)) := by simp [Vw, VB, h]
theorem V_r3 {cy : Nat → ClassId} {de : Nat} {ad : Ad} {S : St} {n : Nat → Nat} {T : St} {k : Nat → Nat} {th : Int32} {X : Rl} {x : Nat} (h : x < 16) : Vw cy de ad S n T k th X 15 3 x = some (eI (cy 0) 5 (fun y => T 30 x y)) := by simp [Vw, VB, h]
theorem V_r10 {cy : Nat → ClassId} {de : Nat} {ad : Ad} {S : St} {n : Nat → Nat} {T : St} {k : Nat → Nat} {th : Int32} {X : Rl} {x : Nat} (h : x < 8) : Vw cy de ad S n T k th X 15 10 x = some (eI (cy 0) 4 (fun y => T 13 x y)) := by simp [Vw, VB, h]
theorem V_r14 {cy : Nat → ClassId} {de : Nat} {ad : Ad} {S : St} {n : Nat → Nat} {T : St} {k : Nat → Nat} {th : Int32} {X : Rl} {x : Nat} (h : x < 8) : Vw cy de ad S n T k th X 15 14 x = some (eI (cy 0) 8 (fun y => T 17 x y)) := by simp [Vw, VB, h]
theorem V_r17 {cy : Nat → ClassId} {de : Nat} {ad : Ad} {S : St} {n : Nat → Nat} {T : St} {k : Nat → Nat} {th : Int32} {X : Rl} {x : Nat} (h : x < 8) : Vw cy de ad S n T k th X 15 17 x = some (eI (cy 0) 16 (fun y => T 20 x y)) := by simp [Vw, VB, h]
theorem V_r18 {cy : Nat → ClassId} {de : Nat} {ad : Ad} {S : St} {n : Nat → Nat} {T : St} {k : Nat → Nat} {th : Int32} {X : Rl} {x : Nat} (h : x < 8) : Vw cy de ad S n T k th X 15 18 x = some (eI (cy 1) 16 (fun y => T 21 x y)) := by simp [Vw, VB, h]
theorem V_r19 {cy : Nat → ClassId} {de : Nat} {ad : Ad} {S : St} {n : Nat → Nat} {T : St} {k : Nat → Nat} {th : Int32} {X : Rl} {x : Nat} (h : x < 8) : Vw cy de ad S n T k th X 15 19 x = some (eI (cy 0) 16 (fun y => T 22 x y)) := by simp [Vw, VB, h]
theorem V_X {cy : Nat → ClassId} {de : Nat} {ad : Ad} {S : St} {n : Nat → Nat} {T : St} {k : Nat → Nat} {th : Int32} {X : Rl} {t i j : Nat} (h : 16 ≤ t) : Vw cy de ad S n T k th X t i j = X t i j := by
  simp only [Vw]; rw [if_neg (by omega), if_neg (by omega), if_neg (by omega), if_neg (by omega)]
theorem Vw_C {cy : Nat → ClassId} {de : Nat} {ad : Ad} {S S' : St} {n n' : Nat → Nat} {T : St} {k : Nat → Nat} {th : Int32} {X : Rl} {t i j : Nat} {e : va_E} (ht : t < 13) (h0 : VC cy de ad S' n' t i j = some e) (h1 : ∀ a b c, ¬ (a = t ∧ b = i ∧ c = j) → VC cy de ad S' n' a b c = VC cy de ad S n a b c) : up3 (Vw cy de ad S n T k th X) t i j (some e) = Vw cy de ad S' n' T k th X := by
  funext a b c
  by_cases hz : a = t ∧ b = i ∧ c = j
  · obtain ⟨rfl, rfl, rfl⟩ := hz
    rw [up3_self]; simp only [Vw]; rw [if_pos ht, h0]
  · rw [up3_ne hz]; simp only [Vw]; rw [h1 a b c hz]
theorem Vw_A {cy : Nat → ClassId} {de : Nat} {ad : Ad} {S : St} {n : Nat → Nat} {T T' : St} {k : Nat → Nat} {th : Int32} {X : Rl} {f : Nat} {e : va_E} (h0 : VA cy ad T' f = some e) (h1 : ∀ b, ¬ b = f → VA cy ad T' b = VA cy ad T b) (h2 : ∀ b c, VB cy T' b c = VB cy T b c) (h3 : T' 23 0 0 = T 23 0 0) : up3 (Vw cy de ad S n T k th X) 14 f 0 (some e) = Vw cy de ad S n T' k th X := by
  funext a b c
  by_cases hz : a = 14 ∧ b = f ∧ c = 0
  · obtain ⟨rfl, rfl, rfl⟩ := hz
    rw [up3_self]; simp only [Vw]; rw [h0]; rfl
  · rw [up3_ne hz]; simp only [Vw, eModel]; rw [h2 b c, h3]
    by_cases hb : b = f
    · subst hb
      by_cases ha : a = 14
      · subst ha
        have hc : ¬ c = 0 := fun z => hz ⟨rfl, rfl, z⟩
        simp [hc]
      · simp [ha]
    · rw [h1 b hb]
theorem Vw_B {cy : Nat → ClassId} {de : Nat} {ad : Ad} {S : St} {n : Nat → Nat} {T T' : St} {k : Nat → Nat} {th : Int32} {X : Rl} {f x : Nat} {e : va_E} (h0 : VB cy T' f x = some e) (h1 : ∀ b c, ¬ (b = f ∧ c = x) → VB cy T' b c = VB cy T b c) (h2 : ∀ b, VA cy ad T' b = VA cy ad T b) (h3 : T' 23 0 0 = T 23 0 0) : up3 (Vw cy de ad S n T k th X) 15 f x (some e) = Vw cy de ad S n T' k th X := by
  funext a b c
  by_cases hz : a = 15 ∧ b = f ∧ c = x
  · obtain ⟨rfl, rfl, rfl⟩ := hz
    rw [up3_self]; simp only [Vw]; rw [h0]; rfl
  · rw [up3_ne hz]; simp only [Vw, eModel]; rw [h2 b, h3]
    by_cases ha : a = 15
    · subst ha
      rw [h1 b c (fun z => hz ⟨rfl, z.1, z.2⟩)]
    · simp [ha]
theorem Vw_M {cy : Nat → ClassId} {de : Nat} {ad : Ad} {S : St} {n : Nat → Nat} {T T' : St} {k k' : Nat → Nat} {th th' : Int32} {X : Rl} {e : va_E} (h0 : eModel ad T' k' th' = e) (h1 : ∀ b, VA cy ad T' b = VA cy ad T b) (h2 : ∀ b c, VB cy T' b c = VB cy T b c) : up3 (Vw cy de ad S n T k th X) 13 0 0 (some e) = Vw cy de ad S n T' k' th' X := by
  funext a b c
  by_cases hz : a = 13 ∧ b = 0 ∧ c = 0
  · obtain ⟨rfl, rfl, rfl⟩ := hz
    rw [up3_self]; simp only [Vw]; rw [← h0]; rfl
  · rw [up3_ne hz]; simp only [Vw]; rw [h1, h2]
    by_cases ha : a = 13
    · subst ha
      have hbc : ¬ (b = 0 ∧ c = 0) := fun z => hz ⟨rfl, z⟩
      simp [hbc]
    · simp [ha]
def rc (t : Nat) : List Nat := match t with | 0 => [23] | 1 => [0] | 2 => [] | 3 => [5, 8, 9, 10, 2, 11] | 4 => [] | 5 => [6, 7, 1] | 6 => [12] | 7 => [13, 14] | 8 => [16, 18, 19] | 9 => [17] | 10 => [20] | 11 => [20, 21, 22] | 12 => [15] | _ => []
theorem up3_c {α : Type} {f : Nat → Nat → Nat → α} {a b c x : Nat} {v : α} (h : x ≠ a) : up3 f a b c v x = f x := funext fun _ => funext fun _ => if_neg (fun z => h z.1)
theorem VC_o0 {cy : Nat → ClassId} {de : Nat} {ad : Ad} {S S2 : St} {n : Nat → Nat} {a b : Nat} (e : ∀ c ∈ rc 0, S2 c = S c) : VC cy de ad S2 n 0 a b = VC cy de ad S n 0 a b := by
  (simp only [VC, eGames, e 23 (by simp [rc])])
theorem VC_o1 {cy : Nat → ClassId} {de : Nat} {ad : Ad} {S S2 : St} {n : Nat → Nat} {a b : Nat} (e : ∀ c ∈ rc 1, S2 c = S c) : VC cy de ad S2 n 1 a b = VC cy de ad S n 1 a b := by
  (simp only [VC, eList, e 0 (by simp [rc])])
theorem VC_o2 {cy : Nat → ClassId} {de : Nat} {ad : Ad} {S S2 : St} {n : Nat → Nat} {a b : Nat} (e : ∀ c ∈ rc 2, S2 c = S c) : VC cy de ad S2 n 2 a b = VC cy de ad S n 2 a b := by
  simp only [VC]
theorem VC_o3 {cy : Nat → ClassId} {de : Nat} {ad : Ad} {S S2 : St} {n : Nat → Nat} {a b : Nat} (e : ∀ c ∈ rc 3, S2 c = S c) : VC cy de ad S2 n 3 a b = VC cy de ad S n 3 a b := by
  (simp only [VC, eAth, e 5 (by simp [rc]), e 8 (by simp [rc]), e 9 (by simp [rc]), e 10 (by simp [rc]), e 2 (by simp [rc]), e 11 (by simp [rc])])
theorem VC_o4 {cy : Nat → ClassId} {de : Nat} {ad : Ad} {S S2 : St} {n : Nat → Nat} {a b : Nat} (e : ∀ c ∈ rc 4, S2 c = S c) : VC cy de ad S2 n 4 a b = VC cy de ad S n 4 a b := by
  simp only [VC]
theorem VC_o5 {cy : Nat → ClassId} {de : Nat} {ad : Ad} {S S2 : St} {n : Nat → Nat} {a b : Nat} (e : ∀ c ∈ rc 5, S2 c = S c) : VC cy de ad S2 n 5 a b = VC cy de ad S n 5 a b := by
  (unfold VC fMea; simp only [VC, e 6 (by simp [rc]), e 7 (by simp [rc]), e 1 (by simp [rc])])
theorem VC_o6 {cy : Nat → ClassId} {de : Nat} {ad : Ad} {S S2 : St} {n : Nat → Nat} {a b : Nat} (e : ∀ c ∈ rc 6, S2 c = S c) : VC cy de ad S2 n 6 a b = VC cy de ad S n 6 a b := by
  (simp only [VC, e 12 (by simp [rc])])
theorem VC_o7 {cy : Nat → ClassId} {de : Nat} {ad : Ad} {S S2 : St} {n : Nat → Nat} {a b : Nat} (e : ∀ c ∈ rc 7, S2 c = S c) : VC cy de ad S2 n 7 a b = VC cy de ad S n 7 a b := by
  (simp only [VC, eKind, e 13 (by simp [rc]), e 14 (by simp [rc])])
theorem VC_o8 {cy : Nat → ClassId} {de : Nat} {ad : Ad} {S S2 : St} {n : Nat → Nat} {a b : Nat} (e : ∀ c ∈ rc 8, S2 c = S c) : VC cy de ad S2 n 8 a b = VC cy de ad S n 8 a b := by
  (simp only [VC, eEvent, e 16 (by simp [rc]), e 18 (by simp [rc]), e 19 (by simp [rc])])
theorem VC_o9 {cy : Nat → ClassId} {de : Nat} {ad : Ad} {S S2 : St} {n : Nat → Nat} {a b : Nat} (e : ∀ c ∈ rc 9, S2 c = S c) : VC cy de ad S2 n 9 a b = VC cy de ad S n 9 a b := by
  (simp only [VC, e 17 (by simp [rc])])
theorem VC_o10 {cy : Nat → ClassId} {de : Nat} {ad : Ad} {S S2 : St} {n : Nat → Nat} {a b : Nat} (e : ∀ c ∈ rc 10, S2 c = S c) : VC cy de ad S2 n 10 a b = VC cy de ad S n 10 a b := by
  (unfold VC fEnt; simp only [VC, e 20 (by simp [rc])])
theorem VC_o11 {cy : Nat → ClassId} {de : Nat} {ad : Ad} {S S2 : St} {n : Nat → Nat} {a b : Nat} (e : ∀ c ∈ rc 11, S2 c = S c) : VC cy de ad S2 n 11 a b = VC cy de ad S n 11 a b := by
  (simp only [VC, eEnt, e 20 (by simp [rc]), e 21 (by simp [rc]), e 22 (by simp [rc])])
theorem VC_o12 {cy : Nat → ClassId} {de : Nat} {ad : Ad} {S S2 : St} {n : Nat → Nat} {a b : Nat} (e : ∀ c ∈ rc 12, S2 c = S c) : VC cy de ad S2 n 12 a b = VC cy de ad S n 12 a b := by
  (simp only [VC, e 15 (by simp [rc])])
theorem VC_oo {cy : Nat → ClassId} {de : Nat} {ad : Ad} {S : St} {n : Nat → Nat} {t a b : Nat} : VC cy de ad S n (t + 13) a b = none := by simp only [VC]
theorem VC_congr {cy : Nat → ClassId} {de : Nat} {ad : Ad} {S S2 : St} {n : Nat → Nat} {t a b : Nat} (e : ∀ c ∈ rc t, S2 c = S c) : VC cy de ad S2 n t a b = VC cy de ad S n t a b :=
  match t, e with
  | 0, e => VC_o0 e
  | 1, e => VC_o1 e
  | 2, e => VC_o2 e
  | 3, e => VC_o3 e
  | 4, e => VC_o4 e
  | 5, e => VC_o5 e
  | 6, e => VC_o6 e
  | 7, e => VC_o7 e
  | 8, e => VC_o8 e
  | 9, e => VC_o9 e
  | 10, e => VC_o10 e
  | 11, e => VC_o11 e
  | 12, e => VC_o12 e
  | _ + 13, _ => VC_oo.trans VC_oo.symm
theorem VC_other {cy : Nat → ClassId} {de : Nat} {ad : Ad} {S : St} {n : Nat → Nat} {code x y : Nat} {v : Int32} {t a b : Nat} (h : ∀ c ∈ rc t, c ≠ code) : VC cy de ad (up3 S code x y v) n t a b = VC cy de ad S n t a b := VC_congr (fun c hc => up3_c (h c hc))
def ra (f : Nat) : List Nat := match f with | 0 => [5] | 4 => [8] | 5 => [9] | 6 => [10] | 7 => [31] | 8 => [11] | 9 => [12] | 11 => [14] | 12 => [15] | 13 => [16] | 15 => [18] | 16 => [19] | _ => []
def rb (f : Nat) : List Nat := match f with | 1 => [6] | 2 => [7] | 3 => [30] | 10 => [13] | 14 => [17] | 17 => [20] | 18 => [21] | 19 => [22] | _ => []
theorem VA_other {cy : Nat → ClassId} {ad : Ad} {T : St} {code x y : Nat} {v : Int32} {f : Nat} (h : ∀ c ∈ ra f, c ≠ code) : VA cy ad (up3 T code x y v) f = VA cy ad T f := by
  have e : ∀ c ∈ ra f, up3 T code x y v c = T c := fun c hc => up3_c (h c hc)
  match f, e with
  | 0, e => simp only [VA, e 5 (by simp [ra])]
  | 1, e => rfl
  | 2, e => rfl
  | 3, e => rfl
  | 4, e => simp only [VA, e 8 (by simp [ra])]
  | 5, e => simp only [VA, e 9 (by simp [ra])]
  | 6, e => simp only [VA, e 10 (by simp [ra])]
  | 7, e => simp only [VA, e 31 (by simp [ra])]
  | 8, e => simp only [VA, e 11 (by simp [ra])]
  | 9, e => simp only [VA, e 12 (by simp [ra])]
  | 10, e => rfl
  | 11, e => simp only [VA, e 14 (by simp [ra])]
  | 12, e => simp only [VA, e 15 (by simp [ra])]
  | 13, e => simp only [VA, e 16 (by simp [ra])]
  | 14, e => rfl
  | 15, e => simp only [VA, e 18 (by simp [ra])]
  | 16, e => simp only [VA, e 19 (by simp [ra])]
  | 17, e => rfl
  | 18, e => rfl
  | 19, e => rfl
  | _ + 20, _ => rfl
theorem VB_other {cy : Nat → ClassId} {T : St} {code x y : Nat} {v : Int32} {f b : Nat} (h : ∀ c ∈ rb f, c ≠ code) : VB cy (up3 T code x y v) f b = VB cy T f b := by
  have e : ∀ c ∈ rb f, up3 T code x y v c = T c := fun c hc => up3_c (h c hc)
  match f, e with
  | 0, e => rfl
  | 1, e => simp only [VB, e 6 (by simp [rb])]
  | 2, e => simp only [VB, e 7 (by simp [rb])]
  | 3, e => simp only [VB, e 30 (by simp [rb])]
  | 4, e => rfl
  | 5, e => rfl
  | 6, e => rfl
  | 7, e => rfl
  | 8, e => rfl
  | 9, e => rfl
  | 10, e => simp only [VB, e 13 (by simp [rb])]
  | 11, e => rfl
  | 12, e => rfl
  | 13, e => rfl
  | 14, e => simp only [VB, e 17 (by simp [rb])]
  | 15, e => rfl
  | 16, e => rfl
  | 17, e => simp only [VB, e 20 (by simp [rb])]
  | 18, e => simp only [VB, e 21 (by simp [rb])]
  | 19, e => simp only [VB, e 22 (by simp [rb])]
  | _ + 20, _ => rfl
theorem P_ath_wasFound {cy : Nat → ClassId} {de : Nat} {ad : Ad} {S : St} {n : Nat → Nat} {T : St} {k : Nat → Nat} {th : Int32} {X : Rl} {i : Nat} (h : i < n 4) {v : Int32} : up3 (Vw cy de ad S n T k th X) 3 i 0 (some (.inr (1, [.int (nI i), .int (S 5 i 0), .ref (ad 4 i 0), .ref (ad 4 i 1), .ref (ad 4 i 2), .int v, .int (S 9 i 0), va_rf (kro ad (S 10 i 0)), .int (S 2 i 0), .int (S 11 i 0)]))) = Vw cy de ad (up3 S 8 i 0 v) n T k th X := by
  have hs : ∀ b c : Nat, ¬ (b = i ∧ c = 0) → VC cy de ad (up3 S 8 i 0 v) n 3 b c = VC cy de ad S n 3 b c := by
    intro b c hz
    simp only [VC]
    by_cases hc : b < n 4 ∧ c = 0
    · have hb : ¬ b = i := fun z => hz ⟨z, hc.2⟩
      rw [if_pos hc, if_pos hc]; simp [eAth, up3, hb]
    · rw [if_neg hc, if_neg hc]
  refine Vw_C (by decide) (by simp [VC, eAth, h, up3]) (fun a b c hz => ?_)
  exact (match a, hz with | 0, _ => VC_other (by decide) | 1, _ => VC_other (by decide) | 2, _ => VC_other (by decide) | 3, hz => hs b c (fun z => hz ⟨rfl, z⟩) | 4, _ => VC_other (by decide) | 5, _ => VC_other (by decide) | 6, _ => VC_other (by decide) | 7, _ => VC_other (by decide) | 8, _ => VC_other (by decide) | 9, _ => VC_other (by decide) | 10, _ => VC_other (by decide) | 11, _ => VC_other (by decide) | 12, _ => VC_other (by decide) | _ + 13, _ => VC_oo.trans VC_oo.symm)
theorem P_ath_status {cy : Nat → ClassId} {de : Nat} {ad : Ad} {S : St} {n : Nat → Nat} {T : St} {k : Nat → Nat} {th : Int32} {X : Rl} {i : Nat} (h : i < n 4) {v : Int32} : up3 (Vw cy de ad S n T k th X) 3 i 0 (some (.inr (1, [.int (nI i), .int (S 5 i 0), .ref (ad 4 i 0), .ref (ad 4 i 1), .ref (ad 4 i 2), .int (S 8 i 0), .int v, va_rf (kro ad (S 10 i 0)), .int (S 2 i 0), .int (S 11 i 0)]))) = Vw cy de ad (up3 S 9 i 0 v) n T k th X := by
  have hs : ∀ b c : Nat, ¬ (b = i ∧ c = 0) → VC cy de ad (up3 S 9 i 0 v) n 3 b c = VC cy de ad S n 3 b c := by
    intro b c hz
    simp only [VC]
    by_cases hc : b < n 4 ∧ c = 0
    · have hb : ¬ b = i := fun z => hz ⟨z, hc.2⟩
      rw [if_pos hc, if_pos hc]; simp [eAth, up3, hb]
    · rw [if_neg hc, if_neg hc]
  refine Vw_C (by decide) (by simp [VC, eAth, h, up3]) (fun a b c hz => ?_)
  exact (match a, hz with | 0, _ => VC_other (by decide) | 1, _ => VC_other (by decide) | 2, _ => VC_other (by decide) | 3, hz => hs b c (fun z => hz ⟨rfl, z⟩) | 4, _ => VC_other (by decide) | 5, _ => VC_other (by decide) | 6, _ => VC_other (by decide) | 7, _ => VC_other (by decide) | 8, _ => VC_other (by decide) | 9, _ => VC_other (by decide) | 10, _ => VC_other (by decide) | 11, _ => VC_other (by decide) | 12, _ => VC_other (by decide) | _ + 13, _ => VC_oo.trans VC_oo.symm)
theorem P_ath_until {cy : Nat → ClassId} {de : Nat} {ad : Ad} {S : St} {n : Nat → Nat} {T : St} {k : Nat → Nat} {th : Int32} {X : Rl} {i : Nat} (h : i < n 4) {v : Int32} : up3 (Vw cy de ad S n T k th X) 3 i 0 (some (.inr (1, [.int (nI i), .int (S 5 i 0), .ref (ad 4 i 0), .ref (ad 4 i 1), .ref (ad 4 i 2), .int (S 8 i 0), .int (S 9 i 0), va_rf (kro ad (S 10 i 0)), .int v, .int (S 11 i 0)]))) = Vw cy de ad (up3 S 2 i 0 v) n T k th X := by
  have hs : ∀ b c : Nat, ¬ (b = i ∧ c = 0) → VC cy de ad (up3 S 2 i 0 v) n 3 b c = VC cy de ad S n 3 b c := by
    intro b c hz
    simp only [VC]
    by_cases hc : b < n 4 ∧ c = 0
    · have hb : ¬ b = i := fun z => hz ⟨z, hc.2⟩
      rw [if_pos hc, if_pos hc]; simp [eAth, up3, hb]
    · rw [if_neg hc, if_neg hc]
  refine Vw_C (by decide) (by simp [VC, eAth, h, up3]) (fun a b c hz => ?_)
  exact (match a, hz with | 0, _ => VC_other (by decide) | 1, _ => VC_other (by decide) | 2, _ => VC_other (by decide) | 3, hz => hs b c (fun z => hz ⟨rfl, z⟩) | 4, _ => VC_other (by decide) | 5, _ => VC_other (by decide) | 6, _ => VC_other (by decide) | 7, _ => VC_other (by decide) | 8, _ => VC_other (by decide) | 9, _ => VC_other (by decide) | 10, _ => VC_other (by decide) | 11, _ => VC_other (by decide) | 12, _ => VC_other (by decide) | _ + 13, _ => VC_oo.trans VC_oo.symm)
theorem P_ath_stands {cy : Nat → ClassId} {de : Nat} {ad : Ad} {S : St} {n : Nat → Nat} {T : St} {k : Nat → Nat} {th : Int32} {X : Rl} {i : Nat} (h : i < n 4) {v : Int32} : up3 (Vw cy de ad S n T k th X) 3 i 0 (some (.inr (1, [.int (nI i), .int (S 5 i 0), .ref (ad 4 i 0), .ref (ad 4 i 1), .ref (ad 4 i 2), .int (S 8 i 0), .int (S 9 i 0), va_rf (kro ad (S 10 i 0)), .int (S 2 i 0), .int v]))) = Vw cy de ad (up3 S 11 i 0 v) n T k th X := by
  have hs : ∀ b c : Nat, ¬ (b = i ∧ c = 0) → VC cy de ad (up3 S 11 i 0 v) n 3 b c = VC cy de ad S n 3 b c := by
    intro b c hz
    simp only [VC]
    by_cases hc : b < n 4 ∧ c = 0
    · have hb : ¬ b = i := fun z => hz ⟨z, hc.2⟩
      rw [if_pos hc, if_pos hc]; simp [eAth, up3, hb]
    · rw [if_neg hc, if_neg hc]
  refine Vw_C (by decide) (by simp [VC, eAth, h, up3]) (fun a b c hz => ?_)
  exact (match a, hz with | 0, _ => VC_other (by decide) | 1, _ => VC_other (by decide) | 2, _ => VC_other (by decide) | 3, hz => hs b c (fun z => hz ⟨rfl, z⟩) | 4, _ => VC_other (by decide) | 5, _ => VC_other (by decide) | 6, _ => VC_other (by decide) | 7, _ => VC_other (by decide) | 8, _ => VC_other (by decide) | 9, _ => VC_other (by decide) | 10, _ => VC_other (by decide) | 11, _ => VC_other (by decide) | 12, _ => VC_other (by decide) | _ + 13, _ => VC_oo.trans VC_oo.symm)
theorem P_ath_kind {cy : Nat → ClassId} {de : Nat} {ad : Ad} {S : St} {n : Nat → Nat} {T : St} {k : Nat → Nat} {th : Int32} {X : Rl} {i : Nat} (h : i < n 4) {v : Int32} : up3 (Vw cy de ad S n T k th X) 3 i 0 (some (.inr (1, [.int (nI i), .int (S 5 i 0), .ref (ad 4 i 0), .ref (ad 4 i 1), .ref (ad 4 i 2), .int (S 8 i 0), .int (S 9 i 0), va_rf (kro ad v), .int (S 2 i 0), .int (S 11 i 0)]))) = Vw cy de ad (up3 S 10 i 0 v) n T k th X := by
  have hs : ∀ b c : Nat, ¬ (b = i ∧ c = 0) → VC cy de ad (up3 S 10 i 0 v) n 3 b c = VC cy de ad S n 3 b c := by
    intro b c hz
    simp only [VC]
    by_cases hc : b < n 4 ∧ c = 0
    · have hb : ¬ b = i := fun z => hz ⟨z, hc.2⟩
      rw [if_pos hc, if_pos hc]; simp [eAth, up3, hb]
    · rw [if_neg hc, if_neg hc]
  refine Vw_C (by decide) (by simp only [VC, h, and_self, if_true, eAth, up3_self]; rfl) (fun a b c hz => ?_)
  exact (match a, hz with | 0, _ => VC_other (by decide) | 1, _ => VC_other (by decide) | 2, _ => VC_other (by decide) | 3, hz => hs b c (fun z => hz ⟨rfl, z⟩) | 4, _ => VC_other (by decide) | 5, _ => VC_other (by decide) | 6, _ => VC_other (by decide) | 7, _ => VC_other (by decide) | 8, _ => VC_other (by decide) | 9, _ => VC_other (by decide) | 10, _ => VC_other (by decide) | 11, _ => VC_other (by decide) | 12, _ => VC_other (by decide) | _ + 13, _ => VC_oo.trans VC_oo.symm)
theorem P_mea0 {cy : Nat → ClassId} {de : Nat} {ad : Ad} {S : St} {n : Nat → Nat} {T : St} {k : Nat → Nat} {th : Int32} {X : Rl} {i : Nat} (h : i < n 4) {x : Nat} {v : Int32} : up3 (Vw cy de ad S n T k th X) 5 i 0 (some (eI (cy 0) 5 (upd (fMea S i 0) x v))) = Vw cy de ad (up3 S 6 i x v) n T k th X := by
  have hs : ∀ b c : Nat, ¬ (b = i ∧ c = 0) → VC cy de ad (up3 S 6 i x v) n 5 b c = VC cy de ad S n 5 b c := by
    intro b c hz
    simp only [VC]
    by_cases hc : b < n 4 ∧ c < 3
    · rw [if_pos hc, if_pos hc]; refine congrArg (fun f => some (eI (cy 0) 5 f)) (funext fun y => ?_)
      by_cases h1 : b = i
      · have h2 : ¬ c = 0 := fun z => hz ⟨h1, z⟩
        have h3 : c = 0 ∨ c = 1 ∨ c = 2 := by omega
        rcases h3 with rfl | rfl | rfl <;> first | exact absurd rfl h2 | simp [fMea, up3]
      · simp [fMea, up3, h1]
    · rw [if_neg hc, if_neg hc]
  refine Vw_C (by decide) (by simp only [VC]; rw [if_pos ⟨h, by decide⟩]; exact congrArg (fun f => some (eI (cy 0) 5 f)) (funext fun y => by simp [fMea, upd, up3])) (fun a b c hz => ?_)
  exact (match a, hz with | 0, _ => VC_other (by decide) | 1, _ => VC_other (by decide) | 2, _ => VC_other (by decide) | 3, _ => VC_other (by decide) | 4, _ => VC_other (by decide) | 5, hz => hs b c (fun z => hz ⟨rfl, z⟩) | 6, _ => VC_other (by decide) | 7, _ => VC_other (by decide) | 8, _ => VC_other (by decide) | 9, _ => VC_other (by decide) | 10, _ => VC_other (by decide) | 11, _ => VC_other (by decide) | 12, _ => VC_other (by decide) | _ + 13, _ => VC_oo.trans VC_oo.symm)
theorem P_mea1 {cy : Nat → ClassId} {de : Nat} {ad : Ad} {S : St} {n : Nat → Nat} {T : St} {k : Nat → Nat} {th : Int32} {X : Rl} {i : Nat} (h : i < n 4) {x : Nat} {v : Int32} : up3 (Vw cy de ad S n T k th X) 5 i 1 (some (eI (cy 0) 5 (upd (fMea S i 1) x v))) = Vw cy de ad (up3 S 7 i x v) n T k th X := by
  have hs : ∀ b c : Nat, ¬ (b = i ∧ c = 1) → VC cy de ad (up3 S 7 i x v) n 5 b c = VC cy de ad S n 5 b c := by
    intro b c hz
    simp only [VC]
    by_cases hc : b < n 4 ∧ c < 3
    · rw [if_pos hc, if_pos hc]; refine congrArg (fun f => some (eI (cy 0) 5 f)) (funext fun y => ?_)
      by_cases h1 : b = i
      · have h2 : ¬ c = 1 := fun z => hz ⟨h1, z⟩
        have h3 : c = 0 ∨ c = 1 ∨ c = 2 := by omega
        rcases h3 with rfl | rfl | rfl <;> first | exact absurd rfl h2 | simp [fMea, up3]
      · simp [fMea, up3, h1]
    · rw [if_neg hc, if_neg hc]
  refine Vw_C (by decide) (by simp only [VC]; rw [if_pos ⟨h, by decide⟩]; exact congrArg (fun f => some (eI (cy 0) 5 f)) (funext fun y => by simp [fMea, upd, up3])) (fun a b c hz => ?_)
  exact (match a, hz with | 0, _ => VC_other (by decide) | 1, _ => VC_other (by decide) | 2, _ => VC_other (by decide) | 3, _ => VC_other (by decide) | 4, _ => VC_other (by decide) | 5, hz => hs b c (fun z => hz ⟨rfl, z⟩) | 6, _ => VC_other (by decide) | 7, _ => VC_other (by decide) | 8, _ => VC_other (by decide) | 9, _ => VC_other (by decide) | 10, _ => VC_other (by decide) | 11, _ => VC_other (by decide) | 12, _ => VC_other (by decide) | _ + 13, _ => VC_oo.trans VC_oo.symm)
theorem P_mea2 {cy : Nat → ClassId} {de : Nat} {ad : Ad} {S : St} {n : Nat → Nat} {T : St} {k : Nat → Nat} {th : Int32} {X : Rl} {i : Nat} (h : i < n 4) {x : Nat} {v : Int32} : up3 (Vw cy de ad S n T k th X) 5 i 2 (some (eI (cy 0) 5 (upd (fMea S i 2) x v))) = Vw cy de ad (up3 S 1 i x v) n T k th X := by
  have hs : ∀ b c : Nat, ¬ (b = i ∧ c = 2) → VC cy de ad (up3 S 1 i x v) n 5 b c = VC cy de ad S n 5 b c := by
    intro b c hz
    simp only [VC]
    by_cases hc : b < n 4 ∧ c < 3
    · rw [if_pos hc, if_pos hc]; refine congrArg (fun f => some (eI (cy 0) 5 f)) (funext fun y => ?_)
      by_cases h1 : b = i
      · have h2 : ¬ c = 2 := fun z => hz ⟨h1, z⟩
        have h3 : c = 0 ∨ c = 1 ∨ c = 2 := by omega
        rcases h3 with rfl | rfl | rfl <;> first | exact absurd rfl h2 | simp [fMea, up3]
      · simp [fMea, up3, h1]
    · rw [if_neg hc, if_neg hc]
  refine Vw_C (by decide) (by simp only [VC]; rw [if_pos ⟨h, by decide⟩]; exact congrArg (fun f => some (eI (cy 0) 5 f)) (funext fun y => by simp [fMea, upd, up3])) (fun a b c hz => ?_)
  exact (match a, hz with | 0, _ => VC_other (by decide) | 1, _ => VC_other (by decide) | 2, _ => VC_other (by decide) | 3, _ => VC_other (by decide) | 4, _ => VC_other (by decide) | 5, hz => hs b c (fun z => hz ⟨rfl, z⟩) | 6, _ => VC_other (by decide) | 7, _ => VC_other (by decide) | 8, _ => VC_other (by decide) | 9, _ => VC_other (by decide) | 10, _ => VC_other (by decide) | 11, _ => VC_other (by decide) | 12, _ => VC_other (by decide) | _ + 13, _ => VC_oo.trans VC_oo.symm)
theorem P_year {cy : Nat → ClassId} {de : Nat} {ad : Ad} {S : St} {n : Nat → Nat} {T : St} {k : Nat → Nat} {th : Int32} {X : Rl} {v : Int32} : up3 (Vw cy de ad S n T k th X) 0 0 0 (some (.inr (7, [.ref (ad 1 0 0), .ref (ad 1 1 0), .ref (ad 1 2 0), .ref (ad 1 3 0), .ref (ad 12 0 0), .int v]))) = Vw cy de ad (up3 S 23 0 0 v) n T k th X := by
  have hs : ∀ b c : Nat, ¬ (b = 0 ∧ c = 0) → VC cy de ad (up3 S 23 0 0 v) n 0 b c = VC cy de ad S n 0 b c := by
    intro b c hz
    simp only [VC]
    rw [if_neg hz, if_neg hz]
  refine Vw_C (by decide) (by simp [VC, eGames, up3]) (fun a b c hz => ?_)
  exact (match a, hz with | 0, hz => hs b c (fun z => hz ⟨rfl, z⟩) | 1, _ => VC_other (by decide) | 2, _ => VC_other (by decide) | 3, _ => VC_other (by decide) | 4, _ => VC_other (by decide) | 5, _ => VC_other (by decide) | 6, _ => VC_other (by decide) | 7, _ => VC_other (by decide) | 8, _ => VC_other (by decide) | 9, _ => VC_other (by decide) | 10, _ => VC_other (by decide) | 11, _ => VC_other (by decide) | 12, _ => VC_other (by decide) | _ + 13, _ => VC_oo.trans VC_oo.symm)
theorem P_mon {cy : Nat → ClassId} {de : Nat} {ad : Ad} {S : St} {n : Nat → Nat} {T : St} {k : Nat → Nat} {th : Int32} {X : Rl} {x : Nat} {v : Int32} : up3 (Vw cy de ad S n T k th X) 12 0 0 (some (eI (cy 0) 6 (upd (fun x => S 15 x 0) x v))) = Vw cy de ad (up3 S 15 x 0 v) n T k th X := by
  have hs : ∀ b c : Nat, ¬ (b = 0 ∧ c = 0) → VC cy de ad (up3 S 15 x 0 v) n 12 b c = VC cy de ad S n 12 b c := by
    intro b c hz
    simp only [VC]
    rw [if_neg hz, if_neg hz]
  refine Vw_C (by decide) (by simp only [VC, and_self, if_true]; exact congrArg (fun f => some (eI (cy 0) 6 f)) (funext fun y => by simp [upd, up3])) (fun a b c hz => ?_)
  exact (match a, hz with | 0, _ => VC_other (by decide) | 1, _ => VC_other (by decide) | 2, _ => VC_other (by decide) | 3, _ => VC_other (by decide) | 4, _ => VC_other (by decide) | 5, _ => VC_other (by decide) | 6, _ => VC_other (by decide) | 7, _ => VC_other (by decide) | 8, _ => VC_other (by decide) | 9, _ => VC_other (by decide) | 10, _ => VC_other (by decide) | 11, _ => VC_other (by decide) | 12, hz => hs b c (fun z => hz ⟨rfl, z⟩) | _ + 13, _ => VC_oo.trans VC_oo.symm)
theorem P_kind_leastSum {cy : Nat → ClassId} {de : Nat} {ad : Ad} {S : St} {n : Nat → Nat} {T : St} {k : Nat → Nat} {th : Int32} {X : Rl} {i : Nat} (h : i < n 6) {v : Int32} : up3 (Vw cy de ad S n T k th X) 7 i 0 (some (.inr (5, [.int (nI i), .int (S 13 i 0), .int (S 13 i 1), .int v, .int (S 13 i 3), .int (S 14 i 0)]))) = Vw cy de ad (up3 S 13 i 2 v) n T k th X := by
  have hs : ∀ b c : Nat, ¬ (b = i ∧ c = 0) → VC cy de ad (up3 S 13 i 2 v) n 7 b c = VC cy de ad S n 7 b c := by
    intro b c hz
    simp only [VC]
    by_cases hc : b < n 6 ∧ c = 0
    · have hb : ¬ b = i := fun z => hz ⟨z, hc.2⟩
      rw [if_pos hc, if_pos hc]; simp [eKind, up3, hb]
    · rw [if_neg hc, if_neg hc]
  refine Vw_C (by decide) (by simp [VC, eKind, h, up3]) (fun a b c hz => ?_)
  exact (match a, hz with | 0, _ => VC_other (by decide) | 1, _ => VC_other (by decide) | 2, _ => VC_other (by decide) | 3, _ => VC_other (by decide) | 4, _ => VC_other (by decide) | 5, _ => VC_other (by decide) | 6, _ => VC_other (by decide) | 7, hz => hs b c (fun z => hz ⟨rfl, z⟩) | 8, _ => VC_other (by decide) | 9, _ => VC_other (by decide) | 10, _ => VC_other (by decide) | 11, _ => VC_other (by decide) | 12, _ => VC_other (by decide) | _ + 13, _ => VC_oo.trans VC_oo.symm)
theorem P_kind_greatestSum {cy : Nat → ClassId} {de : Nat} {ad : Ad} {S : St} {n : Nat → Nat} {T : St} {k : Nat → Nat} {th : Int32} {X : Rl} {i : Nat} (h : i < n 6) {v : Int32} : up3 (Vw cy de ad S n T k th X) 7 i 0 (some (.inr (5, [.int (nI i), .int (S 13 i 0), .int (S 13 i 1), .int (S 13 i 2), .int v, .int (S 14 i 0)]))) = Vw cy de ad (up3 S 13 i 3 v) n T k th X := by
  have hs : ∀ b c : Nat, ¬ (b = i ∧ c = 0) → VC cy de ad (up3 S 13 i 3 v) n 7 b c = VC cy de ad S n 7 b c := by
    intro b c hz
    simp only [VC]
    by_cases hc : b < n 6 ∧ c = 0
    · have hb : ¬ b = i := fun z => hz ⟨z, hc.2⟩
      rw [if_pos hc, if_pos hc]; simp [eKind, up3, hb]
    · rw [if_neg hc, if_neg hc]
  refine Vw_C (by decide) (by simp [VC, eKind, h, up3]) (fun a b c hz => ?_)
  exact (match a, hz with | 0, _ => VC_other (by decide) | 1, _ => VC_other (by decide) | 2, _ => VC_other (by decide) | 3, _ => VC_other (by decide) | 4, _ => VC_other (by decide) | 5, _ => VC_other (by decide) | 6, _ => VC_other (by decide) | 7, hz => hs b c (fun z => hz ⟨rfl, z⟩) | 8, _ => VC_other (by decide) | 9, _ => VC_other (by decide) | 10, _ => VC_other (by decide) | 11, _ => VC_other (by decide) | 12, _ => VC_other (by decide) | _ + 13, _ => VC_oo.trans VC_oo.symm)
theorem P_kind_leastTime {cy : Nat → ClassId} {de : Nat} {ad : Ad} {S : St} {n : Nat → Nat} {T : St} {k : Nat → Nat} {th : Int32} {X : Rl} {i : Nat} (h : i < n 6) {v : Int32} : up3 (Vw cy de ad S n T k th X) 7 i 0 (some (.inr (5, [.int (nI i), .int (S 13 i 0), .int (S 13 i 1), .int (S 13 i 2), .int (S 13 i 3), .int v]))) = Vw cy de ad (up3 S 14 i 0 v) n T k th X := by
  have hs : ∀ b c : Nat, ¬ (b = i ∧ c = 0) → VC cy de ad (up3 S 14 i 0 v) n 7 b c = VC cy de ad S n 7 b c := by
    intro b c hz
    simp only [VC]
    by_cases hc : b < n 6 ∧ c = 0
    · have hb : ¬ b = i := fun z => hz ⟨z, hc.2⟩
      rw [if_pos hc, if_pos hc]; simp [eKind, up3, hb]
    · rw [if_neg hc, if_neg hc]
  refine Vw_C (by decide) (by simp [VC, eKind, h, up3]) (fun a b c hz => ?_)
  exact (match a, hz with | 0, _ => VC_other (by decide) | 1, _ => VC_other (by decide) | 2, _ => VC_other (by decide) | 3, _ => VC_other (by decide) | 4, _ => VC_other (by decide) | 5, _ => VC_other (by decide) | 6, _ => VC_other (by decide) | 7, hz => hs b c (fun z => hz ⟨rfl, z⟩) | 8, _ => VC_other (by decide) | 9, _ => VC_other (by decide) | 10, _ => VC_other (by decide) | 11, _ => VC_other (by decide) | 12, _ => VC_other (by decide) | _ + 13, _ => VC_oo.trans VC_oo.symm)
theorem P_event_began {cy : Nat → ClassId} {de : Nat} {ad : Ad} {S : St} {n : Nat → Nat} {T : St} {k : Nat → Nat} {th : Int32} {X : Rl} {i : Nat} (h : i < n 7) {v : Int32} : up3 (Vw cy de ad S n T k th X) 8 i 0 (some (.inr (4, [.int (S 16 i 0), .ref (ad 9 i 0), .ref (ad 10 i 0), .int v, .int (S 19 i 0)]))) = Vw cy de ad (up3 S 18 i 0 v) n T k th X := by
  have hs : ∀ b c : Nat, ¬ (b = i ∧ c = 0) → VC cy de ad (up3 S 18 i 0 v) n 8 b c = VC cy de ad S n 8 b c := by
    intro b c hz
    simp only [VC]
    by_cases hc : b < n 7 ∧ c = 0
    · have hb : ¬ b = i := fun z => hz ⟨z, hc.2⟩
      rw [if_pos hc, if_pos hc]; simp [eEvent, up3, hb]
    · rw [if_neg hc, if_neg hc]
  refine Vw_C (by decide) (by simp [VC, eEvent, h, up3]) (fun a b c hz => ?_)
  exact (match a, hz with | 0, _ => VC_other (by decide) | 1, _ => VC_other (by decide) | 2, _ => VC_other (by decide) | 3, _ => VC_other (by decide) | 4, _ => VC_other (by decide) | 5, _ => VC_other (by decide) | 6, _ => VC_other (by decide) | 7, _ => VC_other (by decide) | 8, hz => hs b c (fun z => hz ⟨rfl, z⟩) | 9, _ => VC_other (by decide) | 10, _ => VC_other (by decide) | 11, _ => VC_other (by decide) | 12, _ => VC_other (by decide) | _ + 13, _ => VC_oo.trans VC_oo.symm)
theorem P_event_closed {cy : Nat → ClassId} {de : Nat} {ad : Ad} {S : St} {n : Nat → Nat} {T : St} {k : Nat → Nat} {th : Int32} {X : Rl} {i : Nat} (h : i < n 7) {v : Int32} : up3 (Vw cy de ad S n T k th X) 8 i 0 (some (.inr (4, [.int (S 16 i 0), .ref (ad 9 i 0), .ref (ad 10 i 0), .int (S 18 i 0), .int v]))) = Vw cy de ad (up3 S 19 i 0 v) n T k th X := by
  have hs : ∀ b c : Nat, ¬ (b = i ∧ c = 0) → VC cy de ad (up3 S 19 i 0 v) n 8 b c = VC cy de ad S n 8 b c := by
    intro b c hz
    simp only [VC]
    by_cases hc : b < n 7 ∧ c = 0
    · have hb : ¬ b = i := fun z => hz ⟨z, hc.2⟩
      rw [if_pos hc, if_pos hc]; simp [eEvent, up3, hb]
    · rw [if_neg hc, if_neg hc]
  refine Vw_C (by decide) (by simp [VC, eEvent, h, up3]) (fun a b c hz => ?_)
  exact (match a, hz with | 0, _ => VC_other (by decide) | 1, _ => VC_other (by decide) | 2, _ => VC_other (by decide) | 3, _ => VC_other (by decide) | 4, _ => VC_other (by decide) | 5, _ => VC_other (by decide) | 6, _ => VC_other (by decide) | 7, _ => VC_other (by decide) | 8, hz => hs b c (fun z => hz ⟨rfl, z⟩) | 9, _ => VC_other (by decide) | 10, _ => VC_other (by decide) | 11, _ => VC_other (by decide) | 12, _ => VC_other (by decide) | _ + 13, _ => VC_oo.trans VC_oo.symm)
theorem P_fac {cy : Nat → ClassId} {de : Nat} {ad : Ad} {S : St} {n : Nat → Nat} {T : St} {k : Nat → Nat} {th : Int32} {X : Rl} {i : Nat} (h : i < n 7) {x : Nat} {v : Int32} : up3 (Vw cy de ad S n T k th X) 9 i 0 (some (eI (cy 0) 8 (upd (fun x => S 17 i x) x v))) = Vw cy de ad (up3 S 17 i x v) n T k th X := by
  have hs : ∀ b c : Nat, ¬ (b = i ∧ c = 0) → VC cy de ad (up3 S 17 i x v) n 9 b c = VC cy de ad S n 9 b c := by
    intro b c hz
    simp only [VC]
    by_cases hc : b < n 7 ∧ c = 0
    · have hb : ¬ b = i := fun z => hz ⟨z, hc.2⟩
      rw [if_pos hc, if_pos hc]; simp [up3, hb]
    · rw [if_neg hc, if_neg hc]
  refine Vw_C (by decide) (by simp only [VC, h, and_self, if_true]; exact congrArg (fun f => some (eI (cy 0) 8 f)) (funext fun y => by simp [upd, up3])) (fun a b c hz => ?_)
  exact (match a, hz with | 0, _ => VC_other (by decide) | 1, _ => VC_other (by decide) | 2, _ => VC_other (by decide) | 3, _ => VC_other (by decide) | 4, _ => VC_other (by decide) | 5, _ => VC_other (by decide) | 6, _ => VC_other (by decide) | 7, _ => VC_other (by decide) | 8, _ => VC_other (by decide) | 9, hz => hs b c (fun z => hz ⟨rfl, z⟩) | 10, _ => VC_other (by decide) | 11, _ => VC_other (by decide) | 12, _ => VC_other (by decide) | _ + 13, _ => VC_oo.trans VC_oo.symm)
theorem P_ent_fell {cy : Nat → ClassId} {de : Nat} {ad : Ad} {S : St} {n : Nat → Nat} {T : St} {k : Nat → Nat} {th : Int32} {X : Rl} {i aa : Nat} (h : i < n 7) (h2 : aa < 16) (h3 : neg (S 20 i aa) = false) {v : Int32} : up3 (Vw cy de ad S n T k th X) 11 i aa (some (.inr (3, [.ref (ad 3 aa 0), va_rf (kro ad (S 20 i aa)), .int v, .int (S 22 i aa)]))) = Vw cy de ad (up3 S 21 i aa v) n T k th X := by
  have hs : ∀ b c : Nat, ¬ (b = i ∧ c = aa) → VC cy de ad (up3 S 21 i aa v) n 11 b c = VC cy de ad S n 11 b c := by
    intro b c hz
    simp only [VC]
    show (if b < n 7 ∧ c < 16 ∧ neg (S 20 b c) = false then some (eEnt ad (up3 S 21 i aa v) b c) else none) = _
    by_cases hc : b < n 7 ∧ c < 16 ∧ neg (S 20 b c) = false
    · rw [if_pos hc, if_pos ⟨hc.1, hc.2.1, hc.2.2⟩]; simp [eEnt, up3, hz]
    · rw [if_neg hc, if_neg hc]
  refine Vw_C (by decide) (by simp only [VC, eEnt]; rw [if_pos ⟨h, h2, h3⟩]; simp [up3]) (fun a b c hz => ?_)
  exact (match a, hz with | 0, _ => VC_other (by decide) | 1, _ => VC_other (by decide) | 2, _ => VC_other (by decide) | 3, _ => VC_other (by decide) | 4, _ => VC_other (by decide) | 5, _ => VC_other (by decide) | 6, _ => VC_other (by decide) | 7, _ => VC_other (by decide) | 8, _ => VC_other (by decide) | 9, _ => VC_other (by decide) | 10, _ => VC_other (by decide) | 11, hz => hs b c (fun z => hz ⟨rfl, z⟩) | 12, _ => VC_other (by decide) | _ + 13, _ => VC_oo.trans VC_oo.symm)
theorem P_ent_factoredTime {cy : Nat → ClassId} {de : Nat} {ad : Ad} {S : St} {n : Nat → Nat} {T : St} {k : Nat → Nat} {th : Int32} {X : Rl} {i aa : Nat} (h : i < n 7) (h2 : aa < 16) (h3 : neg (S 20 i aa) = false) {v : Int32} : up3 (Vw cy de ad S n T k th X) 11 i aa (some (.inr (3, [.ref (ad 3 aa 0), va_rf (kro ad (S 20 i aa)), .int (S 21 i aa), .int v]))) = Vw cy de ad (up3 S 22 i aa v) n T k th X := by
  have hs : ∀ b c : Nat, ¬ (b = i ∧ c = aa) → VC cy de ad (up3 S 22 i aa v) n 11 b c = VC cy de ad S n 11 b c := by
    intro b c hz
    simp only [VC]
    show (if b < n 7 ∧ c < 16 ∧ neg (S 20 b c) = false then some (eEnt ad (up3 S 22 i aa v) b c) else none) = _
    by_cases hc : b < n 7 ∧ c < 16 ∧ neg (S 20 b c) = false
    · rw [if_pos hc, if_pos ⟨hc.1, hc.2.1, hc.2.2⟩]; simp [eEnt, up3, hz]
    · rw [if_neg hc, if_neg hc]
  refine Vw_C (by decide) (by simp only [VC, eEnt]; rw [if_pos ⟨h, h2, h3⟩]; simp [up3]) (fun a b c hz => ?_)
  exact (match a, hz with | 0, _ => VC_other (by decide) | 1, _ => VC_other (by decide) | 2, _ => VC_other (by decide) | 3, _ => VC_other (by decide) | 4, _ => VC_other (by decide) | 5, _ => VC_other (by decide) | 6, _ => VC_other (by decide) | 7, _ => VC_other (by decide) | 8, _ => VC_other (by decide) | 9, _ => VC_other (by decide) | 10, _ => VC_other (by decide) | 11, hz => hs b c (fun z => hz ⟨rfl, z⟩) | 12, _ => VC_other (by decide) | _ + 13, _ => VC_oo.trans VC_oo.symm)
theorem P_m0 {cy : Nat → ClassId} {de : Nat} {ad : Ad} {S : St} {n : Nat → Nat} {T : St} {k : Nat → Nat} {th : Int32} {X : Rl} {x : Nat} {v : Int32} : up3 (Vw cy de ad S n T k th X) 14 0 0 (some (eI (cy 0) 16 (upd (fun x => T 5 x 0) x v))) = Vw cy de ad S n (up3 T 5 x 0 v) k th X := by
  refine Vw_A (by simp only [VA]; congr 4; funext y; simp [upd, up3]) (fun b hb => ?_) (fun b c => ?_) rfl
  · exact (match b, hb with | 0, hb => absurd rfl hb | 1, _ => VA_other (by decide) | 2, _ => VA_other (by decide) | 3, _ => VA_other (by decide) | 4, _ => VA_other (by decide) | 5, _ => VA_other (by decide) | 6, _ => VA_other (by decide) | 7, _ => VA_other (by decide) | 8, _ => VA_other (by decide) | 9, _ => VA_other (by decide) | 10, _ => VA_other (by decide) | 11, _ => VA_other (by decide) | 12, _ => VA_other (by decide) | 13, _ => VA_other (by decide) | 14, _ => VA_other (by decide) | 15, _ => VA_other (by decide) | 16, _ => VA_other (by decide) | 17, _ => VA_other (by decide) | 18, _ => VA_other (by decide) | 19, _ => VA_other (by decide) | _ + 20, _ => rfl)
  · exact (match b with | 0 => VB_other (by decide) | 1 => VB_other (by decide) | 2 => VB_other (by decide) | 3 => VB_other (by decide) | 4 => VB_other (by decide) | 5 => VB_other (by decide) | 6 => VB_other (by decide) | 7 => VB_other (by decide) | 8 => VB_other (by decide) | 9 => VB_other (by decide) | 10 => VB_other (by decide) | 11 => VB_other (by decide) | 12 => VB_other (by decide) | 13 => VB_other (by decide) | 14 => VB_other (by decide) | 15 => VB_other (by decide) | 16 => VB_other (by decide) | 17 => VB_other (by decide) | 18 => VB_other (by decide) | 19 => VB_other (by decide) | _ + 20 => rfl)
theorem P_m4 {cy : Nat → ClassId} {de : Nat} {ad : Ad} {S : St} {n : Nat → Nat} {T : St} {k : Nat → Nat} {th : Int32} {X : Rl} {x : Nat} {v : Int32} : up3 (Vw cy de ad S n T k th X) 14 4 0 (some (eI (cy 1) 16 (upd (fun x => T 8 x 0) x v))) = Vw cy de ad S n (up3 T 8 x 0 v) k th X := by
  refine Vw_A (by simp only [VA]; congr 4; funext y; simp [upd, up3]) (fun b hb => ?_) (fun b c => ?_) rfl
  · exact (match b, hb with | 0, _ => VA_other (by decide) | 1, _ => VA_other (by decide) | 2, _ => VA_other (by decide) | 3, _ => VA_other (by decide) | 4, hb => absurd rfl hb | 5, _ => VA_other (by decide) | 6, _ => VA_other (by decide) | 7, _ => VA_other (by decide) | 8, _ => VA_other (by decide) | 9, _ => VA_other (by decide) | 10, _ => VA_other (by decide) | 11, _ => VA_other (by decide) | 12, _ => VA_other (by decide) | 13, _ => VA_other (by decide) | 14, _ => VA_other (by decide) | 15, _ => VA_other (by decide) | 16, _ => VA_other (by decide) | 17, _ => VA_other (by decide) | 18, _ => VA_other (by decide) | 19, _ => VA_other (by decide) | _ + 20, _ => rfl)
  · exact (match b with | 0 => VB_other (by decide) | 1 => VB_other (by decide) | 2 => VB_other (by decide) | 3 => VB_other (by decide) | 4 => VB_other (by decide) | 5 => VB_other (by decide) | 6 => VB_other (by decide) | 7 => VB_other (by decide) | 8 => VB_other (by decide) | 9 => VB_other (by decide) | 10 => VB_other (by decide) | 11 => VB_other (by decide) | 12 => VB_other (by decide) | 13 => VB_other (by decide) | 14 => VB_other (by decide) | 15 => VB_other (by decide) | 16 => VB_other (by decide) | 17 => VB_other (by decide) | 18 => VB_other (by decide) | 19 => VB_other (by decide) | _ + 20 => rfl)
theorem P_m5 {cy : Nat → ClassId} {de : Nat} {ad : Ad} {S : St} {n : Nat → Nat} {T : St} {k : Nat → Nat} {th : Int32} {X : Rl} {x : Nat} {v : Int32} : up3 (Vw cy de ad S n T k th X) 14 5 0 (some (eI (cy 2) 16 (upd (fun x => T 9 x 0) x v))) = Vw cy de ad S n (up3 T 9 x 0 v) k th X := by
  refine Vw_A (by simp only [VA]; congr 4; funext y; simp [upd, up3]) (fun b hb => ?_) (fun b c => ?_) rfl
  · exact (match b, hb with | 0, _ => VA_other (by decide) | 1, _ => VA_other (by decide) | 2, _ => VA_other (by decide) | 3, _ => VA_other (by decide) | 4, _ => VA_other (by decide) | 5, hb => absurd rfl hb | 6, _ => VA_other (by decide) | 7, _ => VA_other (by decide) | 8, _ => VA_other (by decide) | 9, _ => VA_other (by decide) | 10, _ => VA_other (by decide) | 11, _ => VA_other (by decide) | 12, _ => VA_other (by decide) | 13, _ => VA_other (by decide) | 14, _ => VA_other (by decide) | 15, _ => VA_other (by decide) | 16, _ => VA_other (by decide) | 17, _ => VA_other (by decide) | 18, _ => VA_other (by decide) | 19, _ => VA_other (by decide) | _ + 20, _ => rfl)
  · exact (match b with | 0 => VB_other (by decide) | 1 => VB_other (by decide) | 2 => VB_other (by decide) | 3 => VB_other (by decide) | 4 => VB_other (by decide) | 5 => VB_other (by decide) | 6 => VB_other (by decide) | 7 => VB_other (by decide) | 8 => VB_other (by decide) | 9 => VB_other (by decide) | 10 => VB_other (by decide) | 11 => VB_other (by decide) | 12 => VB_other (by decide) | 13 => VB_other (by decide) | 14 => VB_other (by decide) | 15 => VB_other (by decide) | 16 => VB_other (by decide) | 17 => VB_other (by decide) | 18 => VB_other (by decide) | 19 => VB_other (by decide) | _ + 20 => rfl)
theorem P_m6 {cy : Nat → ClassId} {de : Nat} {ad : Ad} {S : St} {n : Nat → Nat} {T : St} {k : Nat → Nat} {th : Int32} {X : Rl} {x : Nat} {v : Int32} : up3 (Vw cy de ad S n T k th X) 14 6 0 (some (eI (cy 0) 16 (upd (fun x => T 10 x 0) x v))) = Vw cy de ad S n (up3 T 10 x 0 v) k th X := by
  refine Vw_A (by simp only [VA]; congr 4; funext y; simp [upd, up3]) (fun b hb => ?_) (fun b c => ?_) rfl
  · exact (match b, hb with | 0, _ => VA_other (by decide) | 1, _ => VA_other (by decide) | 2, _ => VA_other (by decide) | 3, _ => VA_other (by decide) | 4, _ => VA_other (by decide) | 5, _ => VA_other (by decide) | 6, hb => absurd rfl hb | 7, _ => VA_other (by decide) | 8, _ => VA_other (by decide) | 9, _ => VA_other (by decide) | 10, _ => VA_other (by decide) | 11, _ => VA_other (by decide) | 12, _ => VA_other (by decide) | 13, _ => VA_other (by decide) | 14, _ => VA_other (by decide) | 15, _ => VA_other (by decide) | 16, _ => VA_other (by decide) | 17, _ => VA_other (by decide) | 18, _ => VA_other (by decide) | 19, _ => VA_other (by decide) | _ + 20, _ => rfl)
  · exact (match b with | 0 => VB_other (by decide) | 1 => VB_other (by decide) | 2 => VB_other (by decide) | 3 => VB_other (by decide) | 4 => VB_other (by decide) | 5 => VB_other (by decide) | 6 => VB_other (by decide) | 7 => VB_other (by decide) | 8 => VB_other (by decide) | 9 => VB_other (by decide) | 10 => VB_other (by decide) | 11 => VB_other (by decide) | 12 => VB_other (by decide) | 13 => VB_other (by decide) | 14 => VB_other (by decide) | 15 => VB_other (by decide) | 16 => VB_other (by decide) | 17 => VB_other (by decide) | 18 => VB_other (by decide) | 19 => VB_other (by decide) | _ + 20 => rfl)
theorem P_m7 {cy : Nat → ClassId} {de : Nat} {ad : Ad} {S : St} {n : Nat → Nat} {T : St} {k : Nat → Nat} {th : Int32} {X : Rl} {x : Nat} {v : Int32} : up3 (Vw cy de ad S n T k th X) 14 7 0 (some (eI (cy 0) 16 (upd (fun x => T 31 x 0) x v))) = Vw cy de ad S n (up3 T 31 x 0 v) k th X := by
  refine Vw_A (by simp only [VA]; congr 4; funext y; simp [upd, up3]) (fun b hb => ?_) (fun b c => ?_) rfl
  · exact (match b, hb with | 0, _ => VA_other (by decide) | 1, _ => VA_other (by decide) | 2, _ => VA_other (by decide) | 3, _ => VA_other (by decide) | 4, _ => VA_other (by decide) | 5, _ => VA_other (by decide) | 6, _ => VA_other (by decide) | 7, hb => absurd rfl hb | 8, _ => VA_other (by decide) | 9, _ => VA_other (by decide) | 10, _ => VA_other (by decide) | 11, _ => VA_other (by decide) | 12, _ => VA_other (by decide) | 13, _ => VA_other (by decide) | 14, _ => VA_other (by decide) | 15, _ => VA_other (by decide) | 16, _ => VA_other (by decide) | 17, _ => VA_other (by decide) | 18, _ => VA_other (by decide) | 19, _ => VA_other (by decide) | _ + 20, _ => rfl)
  · exact (match b with | 0 => VB_other (by decide) | 1 => VB_other (by decide) | 2 => VB_other (by decide) | 3 => VB_other (by decide) | 4 => VB_other (by decide) | 5 => VB_other (by decide) | 6 => VB_other (by decide) | 7 => VB_other (by decide) | 8 => VB_other (by decide) | 9 => VB_other (by decide) | 10 => VB_other (by decide) | 11 => VB_other (by decide) | 12 => VB_other (by decide) | 13 => VB_other (by decide) | 14 => VB_other (by decide) | 15 => VB_other (by decide) | 16 => VB_other (by decide) | 17 => VB_other (by decide) | 18 => VB_other (by decide) | 19 => VB_other (by decide) | _ + 20 => rfl)
theorem P_m8 {cy : Nat → ClassId} {de : Nat} {ad : Ad} {S : St} {n : Nat → Nat} {T : St} {k : Nat → Nat} {th : Int32} {X : Rl} {x : Nat} {v : Int32} : up3 (Vw cy de ad S n T k th X) 14 8 0 (some (eI (cy 1) 16 (upd (fun x => T 11 x 0) x v))) = Vw cy de ad S n (up3 T 11 x 0 v) k th X := by
  refine Vw_A (by simp only [VA]; congr 4; funext y; simp [upd, up3]) (fun b hb => ?_) (fun b c => ?_) rfl
  · exact (match b, hb with | 0, _ => VA_other (by decide) | 1, _ => VA_other (by decide) | 2, _ => VA_other (by decide) | 3, _ => VA_other (by decide) | 4, _ => VA_other (by decide) | 5, _ => VA_other (by decide) | 6, _ => VA_other (by decide) | 7, _ => VA_other (by decide) | 8, hb => absurd rfl hb | 9, _ => VA_other (by decide) | 10, _ => VA_other (by decide) | 11, _ => VA_other (by decide) | 12, _ => VA_other (by decide) | 13, _ => VA_other (by decide) | 14, _ => VA_other (by decide) | 15, _ => VA_other (by decide) | 16, _ => VA_other (by decide) | 17, _ => VA_other (by decide) | 18, _ => VA_other (by decide) | 19, _ => VA_other (by decide) | _ + 20, _ => rfl)
  · exact (match b with | 0 => VB_other (by decide) | 1 => VB_other (by decide) | 2 => VB_other (by decide) | 3 => VB_other (by decide) | 4 => VB_other (by decide) | 5 => VB_other (by decide) | 6 => VB_other (by decide) | 7 => VB_other (by decide) | 8 => VB_other (by decide) | 9 => VB_other (by decide) | 10 => VB_other (by decide) | 11 => VB_other (by decide) | 12 => VB_other (by decide) | 13 => VB_other (by decide) | 14 => VB_other (by decide) | 15 => VB_other (by decide) | 16 => VB_other (by decide) | 17 => VB_other (by decide) | 18 => VB_other (by decide) | 19 => VB_other (by decide) | _ + 20 => rfl)
theorem P_m9 {cy : Nat → ClassId} {de : Nat} {ad : Ad} {S : St} {n : Nat → Nat} {T : St} {k : Nat → Nat} {th : Int32} {X : Rl} {x : Nat} {v : Int32} : up3 (Vw cy de ad S n T k th X) 14 9 0 (some (eI (cy 0) 8 (upd (fun x => T 12 x 0) x v))) = Vw cy de ad S n (up3 T 12 x 0 v) k th X := by
  refine Vw_A (by simp only [VA]; congr 4; funext y; simp [upd, up3]) (fun b hb => ?_) (fun b c => ?_) rfl
  · exact (match b, hb with | 0, _ => VA_other (by decide) | 1, _ => VA_other (by decide) | 2, _ => VA_other (by decide) | 3, _ => VA_other (by decide) | 4, _ => VA_other (by decide) | 5, _ => VA_other (by decide) | 6, _ => VA_other (by decide) | 7, _ => VA_other (by decide) | 8, _ => VA_other (by decide) | 9, hb => absurd rfl hb | 10, _ => VA_other (by decide) | 11, _ => VA_other (by decide) | 12, _ => VA_other (by decide) | 13, _ => VA_other (by decide) | 14, _ => VA_other (by decide) | 15, _ => VA_other (by decide) | 16, _ => VA_other (by decide) | 17, _ => VA_other (by decide) | 18, _ => VA_other (by decide) | 19, _ => VA_other (by decide) | _ + 20, _ => rfl)
  · exact (match b with | 0 => VB_other (by decide) | 1 => VB_other (by decide) | 2 => VB_other (by decide) | 3 => VB_other (by decide) | 4 => VB_other (by decide) | 5 => VB_other (by decide) | 6 => VB_other (by decide) | 7 => VB_other (by decide) | 8 => VB_other (by decide) | 9 => VB_other (by decide) | 10 => VB_other (by decide) | 11 => VB_other (by decide) | 12 => VB_other (by decide) | 13 => VB_other (by decide) | 14 => VB_other (by decide) | 15 => VB_other (by decide) | 16 => VB_other (by decide) | 17 => VB_other (by decide) | 18 => VB_other (by decide) | 19 => VB_other (by decide) | _ + 20 => rfl)
theorem P_m11 {cy : Nat → ClassId} {de : Nat} {ad : Ad} {S : St} {n : Nat → Nat} {T : St} {k : Nat → Nat} {th : Int32} {X : Rl} {x : Nat} {v : Int32} : up3 (Vw cy de ad S n T k th X) 14 11 0 (some (eI (cy 0) 8 (upd (fun x => T 14 x 0) x v))) = Vw cy de ad S n (up3 T 14 x 0 v) k th X := by
  refine Vw_A (by simp only [VA]; congr 4; funext y; simp [upd, up3]) (fun b hb => ?_) (fun b c => ?_) rfl
  · exact (match b, hb with | 0, _ => VA_other (by decide) | 1, _ => VA_other (by decide) | 2, _ => VA_other (by decide) | 3, _ => VA_other (by decide) | 4, _ => VA_other (by decide) | 5, _ => VA_other (by decide) | 6, _ => VA_other (by decide) | 7, _ => VA_other (by decide) | 8, _ => VA_other (by decide) | 9, _ => VA_other (by decide) | 10, _ => VA_other (by decide) | 11, hb => absurd rfl hb | 12, _ => VA_other (by decide) | 13, _ => VA_other (by decide) | 14, _ => VA_other (by decide) | 15, _ => VA_other (by decide) | 16, _ => VA_other (by decide) | 17, _ => VA_other (by decide) | 18, _ => VA_other (by decide) | 19, _ => VA_other (by decide) | _ + 20, _ => rfl)
  · exact (match b with | 0 => VB_other (by decide) | 1 => VB_other (by decide) | 2 => VB_other (by decide) | 3 => VB_other (by decide) | 4 => VB_other (by decide) | 5 => VB_other (by decide) | 6 => VB_other (by decide) | 7 => VB_other (by decide) | 8 => VB_other (by decide) | 9 => VB_other (by decide) | 10 => VB_other (by decide) | 11 => VB_other (by decide) | 12 => VB_other (by decide) | 13 => VB_other (by decide) | 14 => VB_other (by decide) | 15 => VB_other (by decide) | 16 => VB_other (by decide) | 17 => VB_other (by decide) | 18 => VB_other (by decide) | 19 => VB_other (by decide) | _ + 20 => rfl)
theorem P_m12 {cy : Nat → ClassId} {de : Nat} {ad : Ad} {S : St} {n : Nat → Nat} {T : St} {k : Nat → Nat} {th : Int32} {X : Rl} {x : Nat} {v : Int32} : up3 (Vw cy de ad S n T k th X) 14 12 0 (some (eI (cy 0) 6 (upd (fun x => T 15 x 0) x v))) = Vw cy de ad S n (up3 T 15 x 0 v) k th X := by
  refine Vw_A (by simp only [VA]; congr 4; funext y; simp [upd, up3]) (fun b hb => ?_) (fun b c => ?_) rfl
  · exact (match b, hb with | 0, _ => VA_other (by decide) | 1, _ => VA_other (by decide) | 2, _ => VA_other (by decide) | 3, _ => VA_other (by decide) | 4, _ => VA_other (by decide) | 5, _ => VA_other (by decide) | 6, _ => VA_other (by decide) | 7, _ => VA_other (by decide) | 8, _ => VA_other (by decide) | 9, _ => VA_other (by decide) | 10, _ => VA_other (by decide) | 11, _ => VA_other (by decide) | 12, hb => absurd rfl hb | 13, _ => VA_other (by decide) | 14, _ => VA_other (by decide) | 15, _ => VA_other (by decide) | 16, _ => VA_other (by decide) | 17, _ => VA_other (by decide) | 18, _ => VA_other (by decide) | 19, _ => VA_other (by decide) | _ + 20, _ => rfl)
  · exact (match b with | 0 => VB_other (by decide) | 1 => VB_other (by decide) | 2 => VB_other (by decide) | 3 => VB_other (by decide) | 4 => VB_other (by decide) | 5 => VB_other (by decide) | 6 => VB_other (by decide) | 7 => VB_other (by decide) | 8 => VB_other (by decide) | 9 => VB_other (by decide) | 10 => VB_other (by decide) | 11 => VB_other (by decide) | 12 => VB_other (by decide) | 13 => VB_other (by decide) | 14 => VB_other (by decide) | 15 => VB_other (by decide) | 16 => VB_other (by decide) | 17 => VB_other (by decide) | 18 => VB_other (by decide) | 19 => VB_other (by decide) | _ + 20 => rfl)
theorem P_m13 {cy : Nat → ClassId} {de : Nat} {ad : Ad} {S : St} {n : Nat → Nat} {T : St} {k : Nat → Nat} {th : Int32} {X : Rl} {x : Nat} {v : Int32} : up3 (Vw cy de ad S n T k th X) 14 13 0 (some (eI (cy 0) 8 (upd (fun x => T 16 x 0) x v))) = Vw cy de ad S n (up3 T 16 x 0 v) k th X := by
  refine Vw_A (by simp only [VA]; congr 4; funext y; simp [upd, up3]) (fun b hb => ?_) (fun b c => ?_) rfl
  · exact (match b, hb with | 0, _ => VA_other (by decide) | 1, _ => VA_other (by decide) | 2, _ => VA_other (by decide) | 3, _ => VA_other (by decide) | 4, _ => VA_other (by decide) | 5, _ => VA_other (by decide) | 6, _ => VA_other (by decide) | 7, _ => VA_other (by decide) | 8, _ => VA_other (by decide) | 9, _ => VA_other (by decide) | 10, _ => VA_other (by decide) | 11, _ => VA_other (by decide) | 12, _ => VA_other (by decide) | 13, hb => absurd rfl hb | 14, _ => VA_other (by decide) | 15, _ => VA_other (by decide) | 16, _ => VA_other (by decide) | 17, _ => VA_other (by decide) | 18, _ => VA_other (by decide) | 19, _ => VA_other (by decide) | _ + 20, _ => rfl)
  · exact (match b with | 0 => VB_other (by decide) | 1 => VB_other (by decide) | 2 => VB_other (by decide) | 3 => VB_other (by decide) | 4 => VB_other (by decide) | 5 => VB_other (by decide) | 6 => VB_other (by decide) | 7 => VB_other (by decide) | 8 => VB_other (by decide) | 9 => VB_other (by decide) | 10 => VB_other (by decide) | 11 => VB_other (by decide) | 12 => VB_other (by decide) | 13 => VB_other (by decide) | 14 => VB_other (by decide) | 15 => VB_other (by decide) | 16 => VB_other (by decide) | 17 => VB_other (by decide) | 18 => VB_other (by decide) | 19 => VB_other (by decide) | _ + 20 => rfl)
theorem P_m15 {cy : Nat → ClassId} {de : Nat} {ad : Ad} {S : St} {n : Nat → Nat} {T : St} {k : Nat → Nat} {th : Int32} {X : Rl} {x : Nat} {v : Int32} : up3 (Vw cy de ad S n T k th X) 14 15 0 (some (eI (cy 1) 8 (upd (fun x => T 18 x 0) x v))) = Vw cy de ad S n (up3 T 18 x 0 v) k th X := by
  refine Vw_A (by simp only [VA]; congr 4; funext y; simp [upd, up3]) (fun b hb => ?_) (fun b c => ?_) rfl
  · exact (match b, hb with | 0, _ => VA_other (by decide) | 1, _ => VA_other (by decide) | 2, _ => VA_other (by decide) | 3, _ => VA_other (by decide) | 4, _ => VA_other (by decide) | 5, _ => VA_other (by decide) | 6, _ => VA_other (by decide) | 7, _ => VA_other (by decide) | 8, _ => VA_other (by decide) | 9, _ => VA_other (by decide) | 10, _ => VA_other (by decide) | 11, _ => VA_other (by decide) | 12, _ => VA_other (by decide) | 13, _ => VA_other (by decide) | 14, _ => VA_other (by decide) | 15, hb => absurd rfl hb | 16, _ => VA_other (by decide) | 17, _ => VA_other (by decide) | 18, _ => VA_other (by decide) | 19, _ => VA_other (by decide) | _ + 20, _ => rfl)
  · exact (match b with | 0 => VB_other (by decide) | 1 => VB_other (by decide) | 2 => VB_other (by decide) | 3 => VB_other (by decide) | 4 => VB_other (by decide) | 5 => VB_other (by decide) | 6 => VB_other (by decide) | 7 => VB_other (by decide) | 8 => VB_other (by decide) | 9 => VB_other (by decide) | 10 => VB_other (by decide) | 11 => VB_other (by decide) | 12 => VB_other (by decide) | 13 => VB_other (by decide) | 14 => VB_other (by decide) | 15 => VB_other (by decide) | 16 => VB_other (by decide) | 17 => VB_other (by decide) | 18 => VB_other (by decide) | 19 => VB_other (by decide) | _ + 20 => rfl)
theorem P_m16 {cy : Nat → ClassId} {de : Nat} {ad : Ad} {S : St} {n : Nat → Nat} {T : St} {k : Nat → Nat} {th : Int32} {X : Rl} {x : Nat} {v : Int32} : up3 (Vw cy de ad S n T k th X) 14 16 0 (some (eI (cy 1) 8 (upd (fun x => T 19 x 0) x v))) = Vw cy de ad S n (up3 T 19 x 0 v) k th X := by
  refine Vw_A (by simp only [VA]; congr 4; funext y; simp [upd, up3]) (fun b hb => ?_) (fun b c => ?_) rfl
  · exact (match b, hb with | 0, _ => VA_other (by decide) | 1, _ => VA_other (by decide) | 2, _ => VA_other (by decide) | 3, _ => VA_other (by decide) | 4, _ => VA_other (by decide) | 5, _ => VA_other (by decide) | 6, _ => VA_other (by decide) | 7, _ => VA_other (by decide) | 8, _ => VA_other (by decide) | 9, _ => VA_other (by decide) | 10, _ => VA_other (by decide) | 11, _ => VA_other (by decide) | 12, _ => VA_other (by decide) | 13, _ => VA_other (by decide) | 14, _ => VA_other (by decide) | 15, _ => VA_other (by decide) | 16, hb => absurd rfl hb | 17, _ => VA_other (by decide) | 18, _ => VA_other (by decide) | 19, _ => VA_other (by decide) | _ + 20, _ => rfl)
  · exact (match b with | 0 => VB_other (by decide) | 1 => VB_other (by decide) | 2 => VB_other (by decide) | 3 => VB_other (by decide) | 4 => VB_other (by decide) | 5 => VB_other (by decide) | 6 => VB_other (by decide) | 7 => VB_other (by decide) | 8 => VB_other (by decide) | 9 => VB_other (by decide) | 10 => VB_other (by decide) | 11 => VB_other (by decide) | 12 => VB_other (by decide) | 13 => VB_other (by decide) | 14 => VB_other (by decide) | 15 => VB_other (by decide) | 16 => VB_other (by decide) | 17 => VB_other (by decide) | 18 => VB_other (by decide) | 19 => VB_other (by decide) | _ + 20 => rfl)
theorem P_r1 {cy : Nat → ClassId} {de : Nat} {ad : Ad} {S : St} {n : Nat → Nat} {T : St} {k : Nat → Nat} {th : Int32} {X : Rl} {y : Nat} (h : y < 16) {x : Nat} {v : Int32} : up3 (Vw cy de ad S n T k th X) 15 1 y (some (eI (cy 0) 5 (upd (fun x => T 6 y x) x v))) = Vw cy de ad S n (up3 T 6 y x v) k th X := by
  refine Vw_B (by simp only [VB]; rw [if_pos h]; congr 4; funext z; simp [upd, up3]) (fun b c hb => ?_) (fun b => ?_) rfl
  · exact (match b, hb with | 0, _ => VB_other (by decide) | 1, hb => (by have h1 : ¬ c = y := fun z => hb ⟨rfl, z⟩; simp [VB, up3, h1]) | 2, _ => VB_other (by decide) | 3, _ => VB_other (by decide) | 4, _ => VB_other (by decide) | 5, _ => VB_other (by decide) | 6, _ => VB_other (by decide) | 7, _ => VB_other (by decide) | 8, _ => VB_other (by decide) | 9, _ => VB_other (by decide) | 10, _ => VB_other (by decide) | 11, _ => VB_other (by decide) | 12, _ => VB_other (by decide) | 13, _ => VB_other (by decide) | 14, _ => VB_other (by decide) | 15, _ => VB_other (by decide) | 16, _ => VB_other (by decide) | 17, _ => VB_other (by decide) | 18, _ => VB_other (by decide) | 19, _ => VB_other (by decide) | _ + 20, _ => rfl)
  · exact (match b with | 0 => VA_other (by decide) | 1 => VA_other (by decide) | 2 => VA_other (by decide) | 3 => VA_other (by decide) | 4 => VA_other (by decide) | 5 => VA_other (by decide) | 6 => VA_other (by decide) | 7 => VA_other (by decide) | 8 => VA_other (by decide) | 9 => VA_other (by decide) | 10 => VA_other (by decide) | 11 => VA_other (by decide) | 12 => VA_other (by decide) | 13 => VA_other (by decide) | 14 => VA_other (by decide) | 15 => VA_other (by decide) | 16 => VA_other (by decide) | 17 => VA_other (by decide) | 18 => VA_other (by decide) | 19 => VA_other (by decide) | _ + 20 => rfl)
theorem P_r2 {cy : Nat → ClassId} {de : Nat} {ad : Ad} {S : St} {n : Nat → Nat} {T : St} {k : Nat → Nat} {th : Int32} {X : Rl} {y : Nat} (h : y < 16) {x : Nat} {v : Int32} : up3 (Vw cy de ad S n T k th X) 15 2 y (some (eI (cy 0) 5 (upd (fun x => T 7 y x) x v))) = Vw cy de ad S n (up3 T 7 y x v) k th X := by
  refine Vw_B (by simp only [VB]; rw [if_pos h]; congr 4; funext z; simp [upd, up3]) (fun b c hb => ?_) (fun b => ?_) rfl
  · exact (match b, hb with | 0, _ => VB_other (by decide) | 1, _ => VB_other (by decide) | 2, hb => (by have h1 : ¬ c = y := fun z => hb ⟨rfl, z⟩; simp [VB, up3, h1]) | 3, _ => VB_other (by decide) | 4, _ => VB_other (by decide) | 5, _ => VB_other (by decide) | 6, _ => VB_other (by decide) | 7, _ => VB_other (by decide) | 8, _ => VB_other (by decide) | 9, _ => VB_other (by decide) | 10, _ => VB_other (by decide) | 11, _ => VB_other (by decide) | 12, _ => VB_other (by decide) | 13, _ => VB_other (by decide) | 14, _ => VB_other (by decide) | 15, _ => VB_other (by decide) | 16, _ => VB_other (by decide) | 17, _ => VB_other (by decide) | 18, _ => VB_other (by decide) | 19, _ => VB_other (by decide) | _ + 20, _ => rfl)
  · exact (match b with | 0 => VA_other (by decide) | 1 => VA_other (by decide) | 2 => VA_other (by decide) | 3 => VA_other (by decide) | 4 => VA_other (by decide) | 5 => VA_other (by decide) | 6 => VA_other (by decide) | 7 => VA_other (by decide) | 8 => VA_other (by decide) | 9 => VA_other (by decide) | 10 => VA_other (by decide) | 11 => VA_other (by decide) | 12 => VA_other (by decide) | 13 => VA_other (by decide) | 14 => VA_other (by decide) | 15 => VA_other (by decide) | 16 => VA_other (by decide) | 17 => VA_other (by decide) | 18 => VA_other (by decide) | 19 => VA_other (by decide) | _ + 20 => rfl)
theorem P_r3 {cy : Nat → ClassId} {de : Nat} {ad : Ad} {S : St} {n : Nat → Nat} {T : St} {k : Nat → Nat} {th : Int32} {X : Rl} {y : Nat} (h : y < 16) {x : Nat} {v : Int32} : up3 (Vw cy de ad S n T k th X) 15 3 y (some (eI (cy 0) 5 (upd (fun x => T 30 y x) x v))) = Vw cy de ad S n (up3 T 30 y x v) k th X := by
  refine Vw_B (by simp only [VB]; rw [if_pos h]; congr 4; funext z; simp [upd, up3]) (fun b c hb => ?_) (fun b => ?_) rfl
  · exact (match b, hb with | 0, _ => VB_other (by decide) | 1, _ => VB_other (by decide) | 2, _ => VB_other (by decide) | 3, hb => (by have h1 : ¬ c = y := fun z => hb ⟨rfl, z⟩; simp [VB, up3, h1]) | 4, _ => VB_other (by decide) | 5, _ => VB_other (by decide) | 6, _ => VB_other (by decide) | 7, _ => VB_other (by decide) | 8, _ => VB_other (by decide) | 9, _ => VB_other (by decide) | 10, _ => VB_other (by decide) | 11, _ => VB_other (by decide) | 12, _ => VB_other (by decide) | 13, _ => VB_other (by decide) | 14, _ => VB_other (by decide) | 15, _ => VB_other (by decide) | 16, _ => VB_other (by decide) | 17, _ => VB_other (by decide) | 18, _ => VB_other (by decide) | 19, _ => VB_other (by decide) | _ + 20, _ => rfl)
  · exact (match b with | 0 => VA_other (by decide) | 1 => VA_other (by decide) | 2 => VA_other (by decide) | 3 => VA_other (by decide) | 4 => VA_other (by decide) | 5 => VA_other (by decide) | 6 => VA_other (by decide) | 7 => VA_other (by decide) | 8 => VA_other (by decide) | 9 => VA_other (by decide) | 10 => VA_other (by decide) | 11 => VA_other (by decide) | 12 => VA_other (by decide) | 13 => VA_other (by decide) | 14 => VA_other (by decide) | 15 => VA_other (by decide) | 16 => VA_other (by decide) | 17 => VA_other (by decide) | 18 => VA_other (by decide) | 19 => VA_other (by decide) | _ + 20 => rfl)
theorem P_r10 {cy : Nat → ClassId} {de : Nat} {ad : Ad} {S : St} {n : Nat → Nat} {T : St} {k : Nat → Nat} {th : Int32} {X : Rl} {y : Nat} (h : y < 8) {x : Nat} {v : Int32} : up3 (Vw cy de ad S n T k th X) 15 10 y (some (eI (cy 0) 4 (upd (fun x => T 13 y x) x v))) = Vw cy de ad S n (up3 T 13 y x v) k th X := by
  refine Vw_B (by simp only [VB]; rw [if_pos h]; congr 4; funext z; simp [upd, up3]) (fun b c hb => ?_) (fun b => ?_) rfl
  · exact (match b, hb with | 0, _ => VB_other (by decide) | 1, _ => VB_other (by decide) | 2, _ => VB_other (by decide) | 3, _ => VB_other (by decide) | 4, _ => VB_other (by decide) | 5, _ => VB_other (by decide) | 6, _ => VB_other (by decide) | 7, _ => VB_other (by decide) | 8, _ => VB_other (by decide) | 9, _ => VB_other (by decide) | 10, hb => (by have h1 : ¬ c = y := fun z => hb ⟨rfl, z⟩; simp [VB, up3, h1]) | 11, _ => VB_other (by decide) | 12, _ => VB_other (by decide) | 13, _ => VB_other (by decide) | 14, _ => VB_other (by decide) | 15, _ => VB_other (by decide) | 16, _ => VB_other (by decide) | 17, _ => VB_other (by decide) | 18, _ => VB_other (by decide) | 19, _ => VB_other (by decide) | _ + 20, _ => rfl)
  · exact (match b with | 0 => VA_other (by decide) | 1 => VA_other (by decide) | 2 => VA_other (by decide) | 3 => VA_other (by decide) | 4 => VA_other (by decide) | 5 => VA_other (by decide) | 6 => VA_other (by decide) | 7 => VA_other (by decide) | 8 => VA_other (by decide) | 9 => VA_other (by decide) | 10 => VA_other (by decide) | 11 => VA_other (by decide) | 12 => VA_other (by decide) | 13 => VA_other (by decide) | 14 => VA_other (by decide) | 15 => VA_other (by decide) | 16 => VA_other (by decide) | 17 => VA_other (by decide) | 18 => VA_other (by decide) | 19 => VA_other (by decide) | _ + 20 => rfl)
theorem P_r14 {cy : Nat → ClassId} {de : Nat} {ad : Ad} {S : St} {n : Nat → Nat} {T : St} {k : Nat → Nat} {th : Int32} {X : Rl} {y : Nat} (h : y < 8) {x : Nat} {v : Int32} : up3 (Vw cy de ad S n T k th X) 15 14 y (some (eI (cy 0) 8 (upd (fun x => T 17 y x) x v))) = Vw cy de ad S n (up3 T 17 y x v) k th X := by
  refine Vw_B (by simp only [VB]; rw [if_pos h]; congr 4; funext z; simp [upd, up3]) (fun b c hb => ?_) (fun b => ?_) rfl
  · exact (match b, hb with | 0, _ => VB_other (by decide) | 1, _ => VB_other (by decide) | 2, _ => VB_other (by decide) | 3, _ => VB_other (by decide) | 4, _ => VB_other (by decide) | 5, _ => VB_other (by decide) | 6, _ => VB_other (by decide) | 7, _ => VB_other (by decide) | 8, _ => VB_other (by decide) | 9, _ => VB_other (by decide) | 10, _ => VB_other (by decide) | 11, _ => VB_other (by decide) | 12, _ => VB_other (by decide) | 13, _ => VB_other (by decide) | 14, hb => (by have h1 : ¬ c = y := fun z => hb ⟨rfl, z⟩; simp [VB, up3, h1]) | 15, _ => VB_other (by decide) | 16, _ => VB_other (by decide) | 17, _ => VB_other (by decide) | 18, _ => VB_other (by decide) | 19, _ => VB_other (by decide) | _ + 20, _ => rfl)
  · exact (match b with | 0 => VA_other (by decide) | 1 => VA_other (by decide) | 2 => VA_other (by decide) | 3 => VA_other (by decide) | 4 => VA_other (by decide) | 5 => VA_other (by decide) | 6 => VA_other (by decide) | 7 => VA_other (by decide) | 8 => VA_other (by decide) | 9 => VA_other (by decide) | 10 => VA_other (by decide) | 11 => VA_other (by decide) | 12 => VA_other (by decide) | 13 => VA_other (by decide) | 14 => VA_other (by decide) | 15 => VA_other (by decide) | 16 => VA_other (by decide) | 17 => VA_other (by decide) | 18 => VA_other (by decide) | 19 => VA_other (by decide) | _ + 20 => rfl)
theorem P_r17 {cy : Nat → ClassId} {de : Nat} {ad : Ad} {S : St} {n : Nat → Nat} {T : St} {k : Nat → Nat} {th : Int32} {X : Rl} {y : Nat} (h : y < 8) {x : Nat} {v : Int32} : up3 (Vw cy de ad S n T k th X) 15 17 y (some (eI (cy 0) 16 (upd (fun x => T 20 y x) x v))) = Vw cy de ad S n (up3 T 20 y x v) k th X := by
  refine Vw_B (by simp only [VB]; rw [if_pos h]; congr 4; funext z; simp [upd, up3]) (fun b c hb => ?_) (fun b => ?_) rfl
  · exact (match b, hb with | 0, _ => VB_other (by decide) | 1, _ => VB_other (by decide) | 2, _ => VB_other (by decide) | 3, _ => VB_other (by decide) | 4, _ => VB_other (by decide) | 5, _ => VB_other (by decide) | 6, _ => VB_other (by decide) | 7, _ => VB_other (by decide) | 8, _ => VB_other (by decide) | 9, _ => VB_other (by decide) | 10, _ => VB_other (by decide) | 11, _ => VB_other (by decide) | 12, _ => VB_other (by decide) | 13, _ => VB_other (by decide) | 14, _ => VB_other (by decide) | 15, _ => VB_other (by decide) | 16, _ => VB_other (by decide) | 17, hb => (by have h1 : ¬ c = y := fun z => hb ⟨rfl, z⟩; simp [VB, up3, h1]) | 18, _ => VB_other (by decide) | 19, _ => VB_other (by decide) | _ + 20, _ => rfl)
  · exact (match b with | 0 => VA_other (by decide) | 1 => VA_other (by decide) | 2 => VA_other (by decide) | 3 => VA_other (by decide) | 4 => VA_other (by decide) | 5 => VA_other (by decide) | 6 => VA_other (by decide) | 7 => VA_other (by decide) | 8 => VA_other (by decide) | 9 => VA_other (by decide) | 10 => VA_other (by decide) | 11 => VA_other (by decide) | 12 => VA_other (by decide) | 13 => VA_other (by decide) | 14 => VA_other (by decide) | 15 => VA_other (by decide) | 16 => VA_other (by decide) | 17 => VA_other (by decide) | 18 => VA_other (by decide) | 19 => VA_other (by decide) | _ + 20 => rfl)
theorem P_r18 {cy : Nat → ClassId} {de : Nat} {ad : Ad} {S : St} {n : Nat → Nat} {T : St} {k : Nat → Nat} {th : Int32} {X : Rl} {y : Nat} (h : y < 8) {x : Nat} {v : Int32} : up3 (Vw cy de ad S n T k th X) 15 18 y (some (eI (cy 1) 16 (upd (fun x => T 21 y x) x v))) = Vw cy de ad S n (up3 T 21 y x v) k th X := by
  refine Vw_B (by simp only [VB]; rw [if_pos h]; congr 4; funext z; simp [upd, up3]) (fun b c hb => ?_) (fun b => ?_) rfl
  · exact (match b, hb with | 0, _ => VB_other (by decide) | 1, _ => VB_other (by decide) | 2, _ => VB_other (by decide) | 3, _ => VB_other (by decide) | 4, _ => VB_other (by decide) | 5, _ => VB_other (by decide) | 6, _ => VB_other (by decide) | 7, _ => VB_other (by decide) | 8, _ => VB_other (by decide) | 9, _ => VB_other (by decide) | 10, _ => VB_other (by decide) | 11, _ => VB_other (by decide) | 12, _ => VB_other (by decide) | 13, _ => VB_other (by decide) | 14, _ => VB_other (by decide) | 15, _ => VB_other (by decide) | 16, _ => VB_other (by decide) | 17, _ => VB_other (by decide) | 18, hb => (by have h1 : ¬ c = y := fun z => hb ⟨rfl, z⟩; simp [VB, up3, h1]) | 19, _ => VB_other (by decide) | _ + 20, _ => rfl)
  · exact (match b with | 0 => VA_other (by decide) | 1 => VA_other (by decide) | 2 => VA_other (by decide) | 3 => VA_other (by decide) | 4 => VA_other (by decide) | 5 => VA_other (by decide) | 6 => VA_other (by decide) | 7 => VA_other (by decide) | 8 => VA_other (by decide) | 9 => VA_other (by decide) | 10 => VA_other (by decide) | 11 => VA_other (by decide) | 12 => VA_other (by decide) | 13 => VA_other (by decide) | 14 => VA_other (by decide) | 15 => VA_other (by decide) | 16 => VA_other (by decide) | 17 => VA_other (by decide) | 18 => VA_other (by decide) | 19 => VA_other (by decide) | _ + 20 => rfl)
theorem P_r19 {cy : Nat → ClassId} {de : Nat} {ad : Ad} {S : St} {n : Nat → Nat} {T : St} {k : Nat → Nat} {th : Int32} {X : Rl} {y : Nat} (h : y < 8) {x : Nat} {v : Int32} : up3 (Vw cy de ad S n T k th X) 15 19 y (some (eI (cy 0) 16 (upd (fun x => T 22 y x) x v))) = Vw cy de ad S n (up3 T 22 y x v) k th X := by
  refine Vw_B (by simp only [VB]; rw [if_pos h]; congr 4; funext z; simp [upd, up3]) (fun b c hb => ?_) (fun b => ?_) rfl
  · exact (match b, hb with | 0, _ => VB_other (by decide) | 1, _ => VB_other (by decide) | 2, _ => VB_other (by decide) | 3, _ => VB_other (by decide) | 4, _ => VB_other (by decide) | 5, _ => VB_other (by decide) | 6, _ => VB_other (by decide) | 7, _ => VB_other (by decide) | 8, _ => VB_other (by decide) | 9, _ => VB_other (by decide) | 10, _ => VB_other (by decide) | 11, _ => VB_other (by decide) | 12, _ => VB_other (by decide) | 13, _ => VB_other (by decide) | 14, _ => VB_other (by decide) | 15, _ => VB_other (by decide) | 16, _ => VB_other (by decide) | 17, _ => VB_other (by decide) | 18, _ => VB_other (by decide) | 19, hb => (by have h1 : ¬ c = y := fun z => hb ⟨rfl, z⟩; simp [VB, up3, h1]) | _ + 20, _ => rfl)
  · exact (match b with | 0 => VA_other (by decide) | 1 => VA_other (by decide) | 2 => VA_other (by decide) | 3 => VA_other (by decide) | 4 => VA_other (by decide) | 5 => VA_other (by decide) | 6 => VA_other (by decide) | 7 => VA_other (by decide) | 8 => VA_other (by decide) | 9 => VA_other (by decide) | 10 => VA_other (by decide) | 11 => VA_other (by decide) | 12 => VA_other (by decide) | 13 => VA_other (by decide) | 14 => VA_other (by decide) | 15 => VA_other (by decide) | 16 => VA_other (by decide) | 17 => VA_other (by decide) | 18 => VA_other (by decide) | 19 => VA_other (by decide) | _ + 20 => rfl)
theorem P_k0 {cy : Nat → ClassId} {de : Nat} {ad : Ad} {S : St} {n : Nat → Nat} {T : St} {k : Nat → Nat} {th : Int32} {X : Rl} {v : Int32} {w : Nat} (hv : v = nI w) : up3 (Vw cy de ad S n T k th X) 13 0 0 (some (.inr (8, [.ref (ad 14 0 0), .ref (ad 14 1 0), .ref (ad 14 2 0), .ref (ad 14 3 0), .ref (ad 14 4 0), .ref (ad 14 5 0), .ref (ad 14 6 0), .ref (ad 14 7 0), .ref (ad 14 8 0), .ref (ad 14 9 0), .ref (ad 14 10 0), .ref (ad 14 11 0), .ref (ad 14 12 0), .ref (ad 14 13 0), .ref (ad 14 14 0), .ref (ad 14 15 0), .ref (ad 14 16 0), .ref (ad 14 17 0), .ref (ad 14 18 0), .ref (ad 14 19 0), .int v, .int (nI (k 1)), .int (nI (k 2)), .int (nI (k 3)), .int (T 23 0 0), .int th]))) = Vw cy de ad S n T (fun x => if x = 0 then w else k x) th X := by
  subst hv
  exact Vw_M rfl (fun _ => rfl) (fun _ _ => rfl)
theorem P_k1 {cy : Nat → ClassId} {de : Nat} {ad : Ad} {S : St} {n : Nat → Nat} {T : St} {k : Nat → Nat} {th : Int32} {X : Rl} {v : Int32} {w : Nat} (hv : v = nI w) : up3 (Vw cy de ad S n T k th X) 13 0 0 (some (.inr (8, [.ref (ad 14 0 0), .ref (ad 14 1 0), .ref (ad 14 2 0), .ref (ad 14 3 0), .ref (ad 14 4 0), .ref (ad 14 5 0), .ref (ad 14 6 0), .ref (ad 14 7 0), .ref (ad 14 8 0), .ref (ad 14 9 0), .ref (ad 14 10 0), .ref (ad 14 11 0), .ref (ad 14 12 0), .ref (ad 14 13 0), .ref (ad 14 14 0), .ref (ad 14 15 0), .ref (ad 14 16 0), .ref (ad 14 17 0), .ref (ad 14 18 0), .ref (ad 14 19 0), .int (nI (k 0)), .int v, .int (nI (k 2)), .int (nI (k 3)), .int (T 23 0 0), .int th]))) = Vw cy de ad S n T (fun x => if x = 1 then w else k x) th X := by
  subst hv
  exact Vw_M rfl (fun _ => rfl) (fun _ _ => rfl)
theorem P_k2 {cy : Nat → ClassId} {de : Nat} {ad : Ad} {S : St} {n : Nat → Nat} {T : St} {k : Nat → Nat} {th : Int32} {X : Rl} {v : Int32} {w : Nat} (hv : v = nI w) : up3 (Vw cy de ad S n T k th X) 13 0 0 (some (.inr (8, [.ref (ad 14 0 0), .ref (ad 14 1 0), .ref (ad 14 2 0), .ref (ad 14 3 0), .ref (ad 14 4 0), .ref (ad 14 5 0), .ref (ad 14 6 0), .ref (ad 14 7 0), .ref (ad 14 8 0), .ref (ad 14 9 0), .ref (ad 14 10 0), .ref (ad 14 11 0), .ref (ad 14 12 0), .ref (ad 14 13 0), .ref (ad 14 14 0), .ref (ad 14 15 0), .ref (ad 14 16 0), .ref (ad 14 17 0), .ref (ad 14 18 0), .ref (ad 14 19 0), .int (nI (k 0)), .int (nI (k 1)), .int v, .int (nI (k 3)), .int (T 23 0 0), .int th]))) = Vw cy de ad S n T (fun x => if x = 2 then w else k x) th X := by
  subst hv
  exact Vw_M rfl (fun _ => rfl) (fun _ _ => rfl)
theorem P_k3 {cy : Nat → ClassId} {de : Nat} {ad : Ad} {S : St} {n : Nat → Nat} {T : St} {k : Nat → Nat} {th : Int32} {X : Rl} {v : Int32} {w : Nat} (hv : v = nI w) : up3 (Vw cy de ad S n T k th X) 13 0 0 (some (.inr (8, [.ref (ad 14 0 0), .ref (ad 14 1 0), .ref (ad 14 2 0), .ref (ad 14 3 0), .ref (ad 14 4 0), .ref (ad 14 5 0), .ref (ad 14 6 0), .ref (ad 14 7 0), .ref (ad 14 8 0), .ref (ad 14 9 0), .ref (ad 14 10 0), .ref (ad 14 11 0), .ref (ad 14 12 0), .ref (ad 14 13 0), .ref (ad 14 14 0), .ref (ad 14 15 0), .ref (ad 14 16 0), .ref (ad 14 17 0), .ref (ad 14 18 0), .ref (ad 14 19 0), .int (nI (k 0)), .int (nI (k 1)), .int (nI (k 2)), .int v, .int (T 23 0 0), .int th]))) = Vw cy de ad S n T (fun x => if x = 3 then w else k x) th X := by
  subst hv
  exact Vw_M rfl (fun _ => rfl) (fun _ _ => rfl)
theorem P_myear {cy : Nat → ClassId} {de : Nat} {ad : Ad} {S : St} {n : Nat → Nat} {T : St} {k : Nat → Nat} {th : Int32} {X : Rl} {v : Int32} : up3 (Vw cy de ad S n T k th X) 13 0 0 (some (.inr (8, [.ref (ad 14 0 0), .ref (ad 14 1 0), .ref (ad 14 2 0), .ref (ad 14 3 0), .ref (ad 14 4 0), .ref (ad 14 5 0), .ref (ad 14 6 0), .ref (ad 14 7 0), .ref (ad 14 8 0), .ref (ad 14 9 0), .ref (ad 14 10 0), .ref (ad 14 11 0), .ref (ad 14 12 0), .ref (ad 14 13 0), .ref (ad 14 14 0), .ref (ad 14 15 0), .ref (ad 14 16 0), .ref (ad 14 17 0), .ref (ad 14 18 0), .ref (ad 14 19 0), .int (nI (k 0)), .int (nI (k 1)), .int (nI (k 2)), .int (nI (k 3)), .int v, .int th]))) = Vw cy de ad S n (up3 T 23 0 0 v) k th X := by
  refine Vw_M rfl (fun b => ?_) (fun b c => ?_)
  · exact (match b with | 0 => VA_other (by decide) | 1 => VA_other (by decide) | 2 => VA_other (by decide) | 3 => VA_other (by decide) | 4 => VA_other (by decide) | 5 => VA_other (by decide) | 6 => VA_other (by decide) | 7 => VA_other (by decide) | 8 => VA_other (by decide) | 9 => VA_other (by decide) | 10 => VA_other (by decide) | 11 => VA_other (by decide) | 12 => VA_other (by decide) | 13 => VA_other (by decide) | 14 => VA_other (by decide) | 15 => VA_other (by decide) | 16 => VA_other (by decide) | 17 => VA_other (by decide) | 18 => VA_other (by decide) | 19 => VA_other (by decide) | _ + 20 => rfl)
  · exact (match b with | 0 => VB_other (by decide) | 1 => VB_other (by decide) | 2 => VB_other (by decide) | 3 => VB_other (by decide) | 4 => VB_other (by decide) | 5 => VB_other (by decide) | 6 => VB_other (by decide) | 7 => VB_other (by decide) | 8 => VB_other (by decide) | 9 => VB_other (by decide) | 10 => VB_other (by decide) | 11 => VB_other (by decide) | 12 => VB_other (by decide) | 13 => VB_other (by decide) | 14 => VB_other (by decide) | 15 => VB_other (by decide) | 16 => VB_other (by decide) | 17 => VB_other (by decide) | 18 => VB_other (by decide) | 19 => VB_other (by decide) | _ + 20 => rfl)
theorem P_thrown {cy : Nat → ClassId} {de : Nat} {ad : Ad} {S : St} {n : Nat → Nat} {T : St} {k : Nat → Nat} {th : Int32} {X : Rl} {v : Int32} : up3 (Vw cy de ad S n T k th X) 13 0 0 (some (.inr (8, [.ref (ad 14 0 0), .ref (ad 14 1 0), .ref (ad 14 2 0), .ref (ad 14 3 0), .ref (ad 14 4 0), .ref (ad 14 5 0), .ref (ad 14 6 0), .ref (ad 14 7 0), .ref (ad 14 8 0), .ref (ad 14 9 0), .ref (ad 14 10 0), .ref (ad 14 11 0), .ref (ad 14 12 0), .ref (ad 14 13 0), .ref (ad 14 14 0), .ref (ad 14 15 0), .ref (ad 14 16 0), .ref (ad 14 17 0), .ref (ad 14 18 0), .ref (ad 14 19 0), .int (nI (k 0)), .int (nI (k 1)), .int (nI (k 2)), .int (nI (k 3)), .int (T 23 0 0), .int v]))) = Vw cy de ad S n T k v X := Vw_M rfl (fun _ => rfl) (fun _ _ => rfl)
