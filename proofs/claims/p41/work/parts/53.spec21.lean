/-! NEW OBJECTS, 2: one more object; one more in a list. -/
def nO (n : Nat → Nat) (q : Nat) : Nat → Nat := fun x => if x = q + 4 then n (q + 4) + 1 else n x
def nL (n : Nat → Nat) (q : Nat) : Nat → Nat := fun x => if x = q then n q + 1 else n x
theorem nO_s {n : Nat → Nat} {q : Nat} : nO n q (q + 4) = n (q + 4) + 1 := if_pos rfl
theorem nO_o {n : Nat → Nat} {q x : Nat} (h : x ≠ q + 4) : nO n q x = n x := if_neg h
theorem nL_s {n : Nat → Nat} {q : Nat} : nL n q q = n q + 1 := if_pos rfl
theorem nL_o {n : Nat → Nat} {q x : Nat} (h : x ≠ q) : nL n q x = n x := if_neg h
theorem nL_nO {n : Nat → Nat} {q : Nat} (h : n (q + 4) = n q) : nL (nO n q) q = nUp n q := by
  funext x
  unfold nUp
  by_cases h1 : x = q
  · subst h1
    rw [if_pos (Or.inl rfl), nL_s, nO_o (by omega)]
  · rw [nL_o h1]
    by_cases h2 : x = q + 4
    · subst h2
      rw [if_pos (Or.inr rfl), nO_s, h]
    · rw [if_neg (fun z => z.elim h1 h2), nO_o h2]
theorem VC_n2 {cy : Nat → ClassId} {de : Nat} {ad : Ad} {S : St} {n n2 : Nat → Nat} {t i j : Nat} (h1 : t = 1 ∨ t = 2 → i < 4 → n2 i = n i) (h2 : 3 ≤ t ∧ t ≤ 5 → (i < n2 4 ↔ i < n 4)) (h3 : t = 6 → (i < n2 5 ↔ i < n 5)) (h4 : t = 7 → (i < n2 6 ↔ i < n 6)) (h5 : 8 ≤ t ∧ t ≤ 11 → (i < n2 7 ↔ i < n 7)) : VC cy de ad S n2 t i j = VC cy de ad S n t i j := by
  by_cases hi : i < 4
  · exact VC_nn (fun z => h1 z hi) h2 h3 h4 h5
  · by_cases ht : t = 1 ∨ t = 2
    · rcases ht with rfl | rfl
      · simp only [VC, if_neg (show ¬ (i < 4 ∧ j = 0) from fun z => hi z.1)]
      · show (if i < 4 ∧ j = 0 ∧ 0 < n2 i then some (eQ (cy 6) (capL (n2 i)) (fData ad n2 i)) else none) = (if i < 4 ∧ j = 0 ∧ 0 < n i then some (eQ (cy 6) (capL (n i)) (fData ad n i)) else none)
        rw [if_neg (fun z => hi z.1), if_neg (fun z => hi z.1)]
    · exact VC_nn (fun z => absurd z ht) h2 h3 h4 h5
/-- a list's row lies elsewhere -/
theorem VC_2 {cy : Nat → ClassId} {de : Nat} {ad ad2 : Ad} {S : St} {n : Nat → Nat} {q : Nat} (h : ∀ t i j, ¬ (t = 2 ∧ i = q) → ad2 t i j = ad t i j) : ∀ {t i j : Nat}, ¬ (t = 1 ∧ i = q) → VC cy de ad2 S n t i j = VC cy de ad S n t i j := by
  have hr : ∀ t, t ≠ 2 → ad2 t = ad t := fun t ht => funext fun i => funext fun j => h t i j (fun z => ht z.1)
  intro t i j hn
  match t, hn with
  | 0, _ => simp only [VC, eGames, hr 1 (by decide), hr 12 (by decide)]
  | 1, hn =>
    have e : eList de ad2 S n i = eList de ad S n i := by
      unfold eList
      rw [h 2 i 0 (fun z => hn ⟨rfl, z.2⟩)]
    simp only [VC, e]
  | 2, _ =>
    show (if i < 4 ∧ j = 0 ∧ 0 < n i then some (eQ (cy 6) (capL (n i)) (fData ad2 n i)) else none) = (if i < 4 ∧ j = 0 ∧ 0 < n i then some (eQ (cy 6) (capL (n i)) (fData ad n i)) else none)
    have e : fData ad2 n i = fData ad n i := by
      unfold fData
      rw [hr (elT i) (by unfold elT; split <;> (try split) <;> (try split) <;> decide)]
    rw [e]
  | 3, _ =>
    have e : ∀ x, kro ad2 x = kro ad x := fun x => by unfold kro; rw [hr 7 (by decide)]
    simp only [VC, eAth, hr 4 (by decide), e]
  | 4, _ => simp only [VC, hr 5 (by decide)]
  | 5, _ => simp only [VC]
  | 6, _ => simp only [VC]
  | 7, _ => simp only [VC]
  | 8, _ => simp only [VC, eEvent, hr 9 (by decide), hr 10 (by decide)]
  | 9, _ => simp only [VC]
  | 10, _ =>
    have e : fEnt ad2 S i = fEnt ad S i := by unfold fEnt; rw [hr 11 (by decide)]
    simp only [VC, e]
  | 11, _ =>
    have e : ∀ x, kro ad2 x = kro ad x := fun x => by unfold kro; rw [hr 7 (by decide)]
    simp only [VC, eEnt, hr 3 (by decide), e]
  | 12, _ => simp only [VC]
  | _ + 13, _ => simp only [VC]
theorem VC_1j {cy : Nat → ClassId} {de : Nat} {ad : Ad} {S : St} {n : Nat → Nat} {i j : Nat} (hj : j ≠ 0) : VC cy de ad S n 1 i j = none := by simp only [VC, if_neg (show ¬ (i < 4 ∧ j = 0) from fun z => hj z.2)]
theorem VC_2j {cy : Nat → ClassId} {de : Nat} {ad : Ad} {S : St} {n : Nat → Nat} {i j : Nat} (hj : j ≠ 0) : VC cy de ad S n 2 i j = none := by
  show (if i < 4 ∧ j = 0 ∧ 0 < n i then some (eQ (cy 6) (capL (n i)) (fData ad n i)) else none) = none
  rw [if_neg (fun z => hj z.2.1)]
theorem Vw_lo {cy : Nat → ClassId} {de : Nat} {ad : Ad} {S : St} {n : Nat → Nat} {T : St} {k : Nat → Nat} {th : Int32} {X : Rl} {t i j : Nat} (ht : t < 13) : Vw cy de ad S n T k th X t i j = VC cy de ad S n t i j := by unfold Vw; rw [if_pos ht]
/-- one more in a list -/
theorem GW_list {D : va_G} {B : Nat} {cy : Nat → ClassId} {de : Nat} {ad ad2 : Ad} {S : St} {n : Nat → Nat} {T : St} {k : Nat → Nat} {th : Int32} {X : Rl} {H : Heap} {q r : Nat} (hq : q < 4) (had : ad2 = up3 ad 2 q 0 r) (h : GW D B ad2 (up3 (up3 (Vw cy de ad S n T k th X) 2 q 0 (some (eQ (cy 6) (capL (n q + 1)) (va_up (fData ad n q) (n q) (some (ad (elT q) (n q) 0)))))) 1 q 0 (some (.inr (0, [.int (S 0 q 0 + 1), .ref r, .int (nI (n q + 1))])))) H) : GW D B ad2 (Vw cy de ad2 (up3 S 0 q 0 (S 0 q 0 + 1)) (nL n q) T k th X) H := by
  have ha : ∀ t i j, ¬ (t = 2 ∧ i = q) → ad2 t i j = ad t i j := fun t i j hn => by rw [had]; exact up3_ne (fun z => hn ⟨z.1, z.2.1⟩)
  have h2 : ad2 2 q 0 = r := by rw [had]; exact up3_self
  have rest : ∀ t i j, ¬ (t = 1 ∧ i = q) → ¬ (t = 2 ∧ i = q) → VC cy de ad2 (up3 S 0 q 0 (S 0 q 0 + 1)) (nL n q) t i j = VC cy de ad S n t i j := fun t i j h1 h2 => by
    rw [VC_n2 (n := n) (fun z _ => nL_o (fun w => z.elim (fun z => h1 ⟨z, w⟩) (fun z => h2 ⟨z, w⟩))) (fun _ => by rw [nL_o (show (4 : Nat) ≠ q by omega)]) (fun _ => by rw [nL_o (show (5 : Nat) ≠ q by omega)]) (fun _ => by rw [nL_o (show (6 : Nat) ≠ q by omega)]) (fun _ => by rw [nL_o (show (7 : Nat) ≠ q by omega)]), VC_2 ha h1]
    by_cases h0 : t = 0 ∨ t = 12
    · refine VC_congr (fun c hc => up3_c ?_)
      rintro rfl
      rcases h0 with rfl | rfl <;> exact absurd hc (by decide)
    · refine VC_i (fun z => h0 (Or.inl z)) (fun z => h0 (Or.inr z)) (fun c hc y => ?_)
      by_cases hz : c = 0 ∧ i = q ∧ y = 0
      · obtain ⟨rfl, rfl, -⟩ := hz
        refine absurd ?_ h1
        refine ⟨?_, rfl⟩
        have : ∀ t, t < 13 → 0 ∈ rc t → t = 1 := by decide
        by_cases ht : t < 13
        · exact this t ht hc
        · obtain ⟨u, rfl⟩ : ∃ u, t = u + 13 := ⟨t - 13, by omega⟩
          exact absurd hc List.not_mem_nil
      · exact up3_ne hz
  refine h.cls (S := S) (n := n) (fun t i j ht => ?_) (fun t i j ht => by rw [up3_ne (by omega), up3_ne (by omega)]) (fun t ht => funext fun i => funext fun j => ha t i j (by omega))
  by_cases z1 : t = 1 ∧ i = q
  · obtain ⟨rfl, rfl⟩ := z1
    by_cases hj : j = 0
    · subst hj
      rw [up3_self]
      show (if i < 4 ∧ 0 = 0 then some (eList de ad2 (up3 S 0 i 0 (S 0 i 0 + 1)) (nL n i) i) else none) = _
      rw [if_pos ⟨hq, rfl⟩]
      unfold eList
      rw [up3_self, nL_s, h2, if_neg (by omega)]
    · rw [up3_ne (fun z => hj z.2.2), up3_ne (by omega), Vw_lo (by decide), VC_1j hj, VC_1j hj]
  · rw [up3_ne (fun z => z1 ⟨z.1, z.2.1⟩)]
    by_cases z2 : t = 2 ∧ i = q
    · obtain ⟨rfl, rfl⟩ := z2
      by_cases hj : j = 0
      · subst hj
        rw [up3_self]
        show (if i < 4 ∧ 0 = 0 ∧ 0 < nL n i i then some (eQ (cy 6) (capL (nL n i i)) (fData ad2 (nL n i) i)) else none) = _
        rw [nL_s, if_pos ⟨hq, rfl, by omega⟩]
        have e : fData ad2 (nL n i) i = va_up (fData ad n i) (n i) (some (ad (elT i) (n i) 0)) := by
          funext x
          have he : elT i ≠ 2 := (by decide : ∀ i, i < 4 → elT i ≠ 2) i hq
          show (if x < nL n i i then some (ad2 (elT i) x 0) else none) = (if x = n i then some (ad (elT i) (n i) 0) else if x < n i then some (ad (elT i) x 0) else none)
          rw [nL_s, ha (elT i) x 0 (fun z => he z.1)]
          by_cases hx : x = n i
          · subst hx
            rw [if_pos (by omega), if_pos rfl]
          · rw [if_neg hx]
            by_cases hx2 : x < n i
            · rw [if_pos (by omega), if_pos hx2]
            · rw [if_neg (by omega), if_neg hx2]
        rw [e]
      · rw [up3_ne (fun z => hj z.2.2), Vw_lo (by decide), VC_2j hj, VC_2j hj]
    · rw [up3_ne (fun z => z2 ⟨z.1, z.2.1⟩), Vw_lo ht]
      exact rest t i j z1 z2
/-- what a list holds may lie in a row of Object -/
theorem ok_data {cy : Nat → ClassId} {de : Nat} {ad : Ad} {S : St} {n : Nat → Nat} {T : St} {k : Nat → Nat} {th : Int32} {X : Rl} {q : Nat} (hq : q < 4) (h0 : n 0 ≤ n 4) (h1 : n 1 ≤ n 5) (h2 : n 2 ≤ n 6) (h3 : n 3 ≤ n 7) : okEl ad (Vw cy de ad S n T k th X) (fData ad n q) (n q) := by
  intro a ha y hy
  have e : fData ad n q a = some (ad (elT q) a 0) := by unfold fData; rw [if_pos ha]
  rw [e] at hy
  cases hy
  have : q = 0 ∨ q = 1 ∨ q = 2 ∨ q = 3 := by omega
  rcases this with rfl | rfl | rfl | rfl
  · exact ⟨3, a, 0, 1, _, _, rfl, V_ath (by omega), rfl, by decide⟩
  · exact ⟨6, a, 0, 2, _, _, rfl, V_cla (by omega), rfl, by decide⟩
  · exact ⟨7, a, 0, 5, _, _, rfl, V_kind (by omega), rfl, by decide⟩
  · exact ⟨8, a, 0, 4, _, _, rfl, V_event (by omega), rfl, by decide⟩
theorem fData_end {ad : Ad} {n : Nat → Nat} {q : Nat} : ∀ k, n q ≤ k → fData ad n q k = none := fun k hk => if_neg (by omega)
/-- which roles an object of a list has -/
def nr (q t : Nat) : Prop := (q = 0 ∧ 3 ≤ t ∧ t ≤ 5) ∨ (q = 1 ∧ t = 6) ∨ (q = 2 ∧ t = 7) ∨ (q = 3 ∧ 8 ≤ t ∧ t ≤ 10)
def nc (q c : Nat) : Prop := (q = 0 ∧ c ∈ [5, 6, 7, 9, 10, 1, 2, 8, 11]) ∨ (q = 1 ∧ c = 12) ∨ (q = 2 ∧ (c = 13 ∨ c = 14)) ∨ (q = 3 ∧ c = 16)
theorem nc_nr {t q c : Nat} (ht : t < 13) (hc : c ∈ rc t) (h : nc q c) : nr q t := by
  rcases h with ⟨rfl, h⟩ | ⟨rfl, rfl⟩ | ⟨rfl, h⟩ | ⟨rfl, rfl⟩
  · exact Or.inl ⟨rfl, (by decide : ∀ t, t < 13 → ∀ c ∈ rc t, c ∈ [5, 6, 7, 9, 10, 1, 2, 8, 11] → 3 ≤ t ∧ t ≤ 5) t ht c hc h⟩
  · exact Or.inr (Or.inl ⟨rfl, (by decide : ∀ t, t < 13 → 12 ∈ rc t → t = 6) t ht hc⟩)
  · refine Or.inr (Or.inr (Or.inl ⟨rfl, ?_⟩))
    rcases h with rfl | rfl
    · exact (by decide : ∀ t, t < 13 → 13 ∈ rc t → t = 7) t ht hc
    · exact (by decide : ∀ t, t < 13 → 14 ∈ rc t → t = 7) t ht hc
  · exact Or.inr (Or.inr (Or.inr ⟨rfl, (by decide : ∀ t, t < 13 → 16 ∈ rc t → 8 ≤ t ∧ t ≤ 10) t ht hc⟩))
theorem rc_30 : ∀ t, t < 13 → ∀ c ∈ rc t, c < 30 := by decide
theorem nr_2 {q : Nat} (h : nr q 2) : False := by
  rcases h with ⟨-, w, -⟩ | ⟨-, w⟩ | ⟨-, w⟩ | ⟨-, w, -⟩
  · exact absurd w (by decide)
  · exact absurd w (by decide)
  · exact absurd w (by decide)
  · exact absurd w (by decide)
theorem Lv_nr {S : St} {n : Nat → Nat} {t i j q : Nat} (h : Lv S n t i j) (z : nr q t) : i < n (q + 4) := by
  obtain ⟨l3, l4, l5, l6, l7, l8, l9, l10, -⟩ := h
  rcases z with ⟨rfl, a, b⟩ | ⟨rfl, rfl⟩ | ⟨rfl, rfl⟩ | ⟨rfl, a, b⟩
  · have h3 : t = 3 ∨ t = 4 ∨ t = 5 := by clear l3 l4 l5 l6 l7 l8 l9 l10; omega
    rcases h3 with rfl | rfl | rfl
    · exact l3 rfl
    · exact l4 rfl
    · exact l5 rfl
  · exact l6 rfl
  · exact l7 rfl
  · have h3 : t = 8 ∨ t = 9 ∨ t = 10 := by clear l3 l4 l5 l6 l7 l8 l9 l10; omega
    rcases h3 with rfl | rfl | rfl
    · exact l8 rfl
    · exact l9 rfl
    · exact l10 rfl
theorem VC_rest {cy : Nat → ClassId} {de : Nat} {ad ad2 : Ad} {S S2 : St} {n : Nat → Nat} {q : Nat} (hW : WF S n) (hq : q < 4) (ha : ∀ t i j, t < 13 → ¬ (nr q t ∧ i = n (q + 4)) → ad2 t i j = ad t i j) (hS : ∀ c x y, c < 30 → ¬ (x = n (q + 4) ∧ nc q c) → S2 c x y = S c x y) (h0 : S2 23 = S 23) (h15 : S2 15 = S 15) : ∀ {t i j : Nat}, t < 13 → ¬ (nr q t ∧ i = n (q + 4)) → VC cy de ad2 S2 (nO n q) t i j = VC cy de ad S n t i j := by
  intro t i j ht hn
  have hnr : ∀ x, x ≠ q + 4 → nO n q x = n x := fun x hx => nO_o hx
  have g4 : 3 ≤ t ∧ t ≤ 5 → (i < nO n q 4 ↔ i < n 4) := fun z => by
    by_cases hz : q = 0
    · subst hz
      have hi : ¬ i = n 4 := fun w => hn ⟨Or.inl ⟨rfl, z⟩, w⟩
      rw [show nO n 0 4 = n 4 + 1 from nO_s]; omega
    · rw [hnr 4 (by omega)]
  have g5 : t = 6 → (i < nO n q 5 ↔ i < n 5) := fun z => by
    by_cases hz : q = 1
    · subst hz
      have hi : ¬ i = n 5 := fun w => hn ⟨Or.inr (Or.inl ⟨rfl, z⟩), w⟩
      rw [show nO n 1 5 = n 5 + 1 from nO_s]; omega
    · rw [hnr 5 (by omega)]
  have g6 : t = 7 → (i < nO n q 6 ↔ i < n 6) := fun z => by
    by_cases hz : q = 2
    · subst hz
      have hi : ¬ i = n 6 := fun w => hn ⟨Or.inr (Or.inr (Or.inl ⟨rfl, z⟩)), w⟩
      rw [show nO n 2 6 = n 6 + 1 from nO_s]; omega
    · rw [hnr 6 (by omega)]
  have hE := hW.2.2.2.2.2.2.2.2.2.1
  have h77 : n 7 = n 3 := hW.2.2.2.2.2.2.2.1
  by_cases h11 : t = 11 ∧ q = 3 ∧ i = n 7
  · obtain ⟨rfl, rfl, hi⟩ := h11
    have e20 : S 20 i j = -1 := (hE i j).resolve_right (fun z => absurd z.1 (by clear hW ha hS h0 h15 hn hE g4 g5 g6; omega))
    have e20' : S2 20 i j = -1 := by rw [hS 20 i j (by decide) (fun z => by obtain ⟨-, w⟩ := z; rcases w with ⟨w, -⟩ | ⟨w, -⟩ | ⟨w, -⟩ | ⟨-, w⟩ <;> exact absurd w (by decide)), e20]
    show (if i < nO n 3 7 ∧ j < 16 ∧ neg (S2 20 i j) = false then some (eEnt ad2 S2 i j) else none) = (if i < n 7 ∧ j < 16 ∧ neg (S 20 i j) = false then some (eEnt ad S i j) else none)
    rw [if_neg (fun z => by rw [e20'] at z; exact absurd z.2.2 (by decide)), if_neg (fun z => by rw [e20] at z; exact absurd z.2.2 (by decide))]
  have g7 : 8 ≤ t ∧ t ≤ 11 → (i < nO n q 7 ↔ i < n 7) := fun z => by
    by_cases hz : q = 3
    · subst hz
      have hi : ¬ i = n 7 := fun w => by
        by_cases ht : t = 11
        · exact h11 ⟨ht, rfl, w⟩
        · exact hn ⟨Or.inr (Or.inr (Or.inr ⟨rfl, z.1, by omega⟩)), w⟩
      rw [show nO n 3 7 = n 7 + 1 from nO_s]; omega
    · rw [hnr 7 (by omega)]
  rw [VC_n2 (n := n) (fun _ hi => hnr i (by omega)) g4 g5 g6 g7]
  have hA : VC cy de ad2 S n t i j = VC cy de ad S n t i j := VC_a hW (fun t i j h1 h2 h3 => ha t i j h1 (fun z => absurd z.2 (Nat.ne_of_lt (Lv_nr h3 z.1)))) (fun _ _ => ha 2 i 0 (by decide) (fun z => nr_2 z.1))
  rw [← hA]
  by_cases hz : t = 0 ∨ t = 12
  · refine VC_congr (fun c hc => ?_)
    rcases hz with rfl | rfl
    · rw [show c = 23 by simpa [rc] using hc]; exact h0
    · rw [show c = 15 by simpa [rc] using hc]; exact h15
  · refine VC_i (fun z => hz (Or.inl z)) (fun z => hz (Or.inr z)) (fun c hc y => hS c i y (rc_30 t ht c hc) (fun z => hn ⟨?_, z.1⟩))
    exact nc_nr ht hc z.2
/-- one more classifier -/
theorem GW_cl {D : va_G} {B : Nat} {cy : Nat → ClassId} {de : Nat} {ad ad2 : Ad} {S : St} {n : Nat → Nat} {T : St} {k : Nat → Nat} {th : Int32} {X : Rl} {H : Heap} {r : Nat} {x : Int32} (hW : WF S n) (had : ad2 = up3 ad 6 (n 5) 0 r) (h : GW D B ad2 (up3 (Vw cy de ad S n T k th X) 6 (n 5) 0 (some (.inr (2, [.int x])))) H) : GW D B ad2 (Vw cy de ad2 (up3 S 12 (n 5) 0 x) (nO n 1) T k th X) H := by
  have ha : ∀ t i j, ¬ (t = 6 ∧ i = n 5) → ad2 t i j = ad t i j := fun t i j hn => by rw [had]; exact up3_ne (fun z => hn ⟨z.1, z.2.1⟩)
  refine h.cls (S := S) (n := n) (fun t i j ht => ?_) (fun t i j ht => by rw [up3_ne (by omega)]) (fun t ht => funext fun i => funext fun j => ha t i j (by omega))
  by_cases z1 : t = 6 ∧ i = n 5
  · obtain ⟨rfl, rfl⟩ := z1
    show (if n 5 < nO n 1 5 ∧ j = 0 then some ((.inr (2, [.int (up3 S 12 (n 5) 0 x 12 (n 5) 0)]) : va_E)) else none) = _
    rw [show nO n 1 5 = n 5 + 1 from nO_s]
    by_cases hj : j = 0
    · subst hj
      rw [up3_self, up3_self, if_pos ⟨by omega, rfl⟩]
    · rw [if_neg (fun z => hj z.2), up3_ne (fun z => hj z.2.2), Vw_lo (by decide)]
      simp only [VC, if_neg (show ¬ (n 5 < n 5 ∧ j = 0) from fun z => hj z.2)]
  · rw [up3_ne (fun z => z1 ⟨z.1, z.2.1⟩), Vw_lo ht]
    refine VC_rest hW (by decide) (fun t i j _ hn => ha t i j (fun z => hn ⟨Or.inr (Or.inl ⟨rfl, z.1⟩), z.2⟩)) (fun c y w _ hn => up3_ne (fun z => hn ⟨z.2.1, Or.inr (Or.inl ⟨rfl, z.1⟩)⟩)) (up3_c (by decide)) (up3_c (by decide)) ht (fun z => z1 ⟨?_, z.2⟩)
    rcases z.1 with ⟨w, -⟩ | ⟨-, w⟩ | ⟨w, -⟩ | ⟨w, -⟩
    · exact absurd w (by decide)
    · exact w
    · exact absurd w (by decide)
    · exact absurd w (by decide)
