/-! NEW OBJECTS, 3: a kind, an event, an athlete, an entry. -/
theorem GW.arr {D : va_G} {B : Nat} {ad : Ad} {V : Rl} {H : Heap} {t i j N : Nat} {c : ClassId} {f g : Nat → Int32} (h : GW D B ad V H) (he : V t i j = some (eI c N f)) (hx : ∀ x, x < N → f x = g x) : GW D B ad (up3 V t i j (some (eI c N g))) H := by
  have e : vp_cell c (N, .inl f) = vp_cell c (N, .inl g) := by
    rw [vp_cell_i, vp_cell_i]
    exact arrV_congr (fun x hz => by rw [hx x hz])
  refine h.put2 he ?_ (fun _ _ _ => rfl)
  have h1 : H[ad t i j]? = some (vp_cell c (N, .inl f)) := h.at he
  show H[ad t i j]? = some (vp_cell c (N, .inl g))
  rw [← e]; exact h1
theorem GW_ki {D : va_G} {B : Nat} {cy : Nat → ClassId} {de : Nat} {ad ad2 : Ad} {S S2 : St} {n : Nat → Nat} {T : St} {k : Nat → Nat} {th : Int32} {X : Rl} {H : Heap} {r : Nat} {a0 a1 a2 a3 a4 : Int32} (hW : WF S n) (had : ad2 = up3 ad 7 (n 6) 0 r) (h : GW D B ad2 (up3 (Vw cy de ad S n T k th X) 7 (n 6) 0 (some (.inr (5, [.int (nI (n 6)), .int a0, .int a1, .int a2, .int a3, .int a4])))) H)
    (e0 : S2 13 (n 6) 0 = a0) (e1 : S2 13 (n 6) 1 = a1) (e2 : S2 13 (n 6) 2 = a2) (e3 : S2 13 (n 6) 3 = a3) (e4 : S2 14 (n 6) 0 = a4) (hS : ∀ c x y, c < 30 → ¬ (x = n 6 ∧ (c = 13 ∨ c = 14)) → S2 c x y = S c x y) (h23 : S2 23 = S 23) (h15 : S2 15 = S 15) : GW D B ad2 (Vw cy de ad2 S2 (nO n 2) T k th X) H := by
  have ha : ∀ t i j, ¬ (t = 7 ∧ i = n 6) → ad2 t i j = ad t i j := fun t i j hn => by rw [had]; exact up3_ne (fun z => hn ⟨z.1, z.2.1⟩)
  refine h.cls (S := S) (n := n) (fun t i j ht => ?_) (fun t i j ht => by rw [up3_ne (by omega)]) (fun t ht => funext fun i => funext fun j => ha t i j (by omega))
  by_cases z1 : t = 7 ∧ i = n 6
  · obtain ⟨rfl, rfl⟩ := z1
    show (if n 6 < nO n 2 6 ∧ j = 0 then some (eKind S2 (n 6)) else none) = _
    rw [show nO n 2 6 = n 6 + 1 from nO_s]
    by_cases hj : j = 0
    · subst hj
      rw [up3_self, if_pos ⟨by omega, rfl⟩]
      unfold eKind
      rw [e0, e1, e2, e3, e4]
    · rw [if_neg (fun z => hj z.2), up3_ne (fun z => hj z.2.2), Vw_lo (by decide)]
      simp only [VC, if_neg (show ¬ (n 6 < n 6 ∧ j = 0) from fun z => hj z.2)]
  · rw [up3_ne (fun z => z1 ⟨z.1, z.2.1⟩), Vw_lo ht]
    refine VC_rest hW (by decide) (fun t i j _ hn => ha t i j (fun z => hn ⟨Or.inr (Or.inr (Or.inl ⟨rfl, z.1⟩)), z.2⟩)) (fun c y w hc hn => hS c y w hc (fun z => hn ⟨z.1, Or.inr (Or.inr (Or.inl ⟨rfl, z.2⟩))⟩)) h23 h15 ht (fun z => z1 ⟨?_, z.2⟩)
    rcases z.1 with ⟨w, -⟩ | ⟨w, -⟩ | ⟨-, w⟩ | ⟨w, -⟩
    · exact absurd w (by decide)
    · exact absurd w (by decide)
    · exact w
    · exact absurd w (by decide)
theorem GW_ev {D : va_G} {B : Nat} {cy : Nat → ClassId} {de : Nat} {ad ad2 : Ad} {S : St} {n : Nat → Nat} {T : St} {k : Nat → Nat} {th : Int32} {X : Rl} {H : Heap} {r qa qb : Nat} {x : Int32} (hW : WF S n) (had : ad2 = up3 (up3 (up3 ad 8 (n 7) 0 r) 9 (n 7) 0 qa) 10 (n 7) 0 qb) {fr : va_E}
    (h : GW D B ad2 (up3 (up3 (up3 (up3 (Vw cy de ad S n T k th X) 8 (n 7) 0 (some fr)) 9 (n 7) 0 (some (eI (cy 0) 8 (fillv 100 0 8)))) 8 (n 7) 0 (some (.inr (4, [.int x, .ref qa, .ref qb, .int 0, .int 0])))) 10 (n 7) 0 (some (eQ (cy 5) 16 (fun _ => none)))) H)
    (e17 : ∀ y, S 17 (n 7) y = 100) (e18 : S 18 (n 7) 0 = 0) (e19 : S 19 (n 7) 0 = 0) : GW D B ad2 (Vw cy de ad2 (up3 S 16 (n 7) 0 x) (nO n 3) T k th X) H := by
  have ha : ∀ t i j, ¬ ((8 ≤ t ∧ t ≤ 10) ∧ i = n 7) → ad2 t i j = ad t i j := fun t i j hn => by rw [had, up3_ne (fun z => hn ⟨by omega, z.2.1⟩), up3_ne (fun z => hn ⟨by omega, z.2.1⟩), up3_ne (fun z => hn ⟨by omega, z.2.1⟩)]
  have a9 : ad2 9 (n 7) 0 = qa := by rw [had, up3_ne (by omega), up3_self]
  have a10 : ad2 10 (n 7) 0 = qb := by rw [had, up3_self]
  have h2 := h.arr (t := 9) (i := n 7) (j := 0) (c := cy 0) (N := 8) (f := fillv 100 0 8) (g := fun _ => 100) (by rw [up3_ne (by omega), up3_ne (by omega), up3_self]) (fun y hy => if_pos hy)
  have e20 : ∀ y, S 20 (n 7) y = -1 := fun y => (hW.2.2.2.2.2.2.2.2.2.1 (n 7) y).resolve_right (fun z => absurd z.1 (by have := hW.2.2.2.2.2.2.2.1; omega))
  refine h2.cls (S := S) (n := n) (fun t i j ht => ?_) (fun t i j ht => by rw [up3_ne (by omega), up3_ne (by omega), up3_ne (by omega), up3_ne (by omega), up3_ne (by omega)]) (fun t ht => funext fun i => funext fun j => ha t i j (by omega))
  by_cases z1 : (8 ≤ t ∧ t ≤ 10) ∧ i = n 7
  · obtain ⟨z1, rfl⟩ := z1
    have n7 : nO n 3 7 = n 7 + 1 := nO_s
    have h3 : t = 8 ∨ t = 9 ∨ t = 10 := by omega
    by_cases hj : j = 0
    · subst hj
      rcases h3 with rfl | rfl | rfl
      · rw [up3_ne (by omega), up3_ne (by omega), up3_self]
        show (if n 7 < nO n 3 7 ∧ 0 = 0 then some (eEvent ad2 (up3 S 16 (n 7) 0 x) (n 7)) else none) = _
        rw [n7, if_pos ⟨by omega, rfl⟩]
        unfold eEvent
        rw [a9, a10, up3_self, up3_ne (by omega), up3_ne (by omega), e18, e19]
      · rw [up3_self]
        show (if n 7 < nO n 3 7 ∧ 0 = 0 then some (eI (cy 0) 8 (fun y => up3 S 16 (n 7) 0 x 17 (n 7) y)) else none) = _
        rw [n7, if_pos ⟨by omega, rfl⟩]
        have e : (fun y => up3 S 16 (n 7) 0 x 17 (n 7) y) = fun _ => (100 : Int32) := funext fun y => (up3_ne (by omega)).trans (e17 y)
        rw [e]
      · rw [up3_ne (by omega), up3_self]
        show (if n 7 < nO n 3 7 ∧ 0 = 0 then some (eQ (cy 5) 16 (fEnt ad2 (up3 S 16 (n 7) 0 x) (n 7))) else none) = _
        rw [n7, if_pos ⟨by omega, rfl⟩]
        have e : fEnt ad2 (up3 S 16 (n 7) 0 x) (n 7) = fun _ => none := funext fun y => by
          unfold fEnt
          rw [up3_ne (by omega), e20 y]
          rfl
        rw [e]
    · rw [up3_ne (fun z => hj z.2.2), up3_ne (fun z => hj z.2.2), up3_ne (fun z => hj z.2.2), up3_ne (fun z => hj z.2.2), up3_ne (fun z => hj z.2.2), Vw_lo ht]
      rcases h3 with rfl | rfl | rfl
      · simp only [VC, if_neg (show ¬ (n 7 < n 7 ∧ j = 0) from fun z => hj z.2), if_neg (show ¬ (n 7 < nO n 3 7 ∧ j = 0) from fun z => hj z.2)]
      · simp only [VC, if_neg (show ¬ (n 7 < n 7 ∧ j = 0) from fun z => hj z.2), if_neg (show ¬ (n 7 < nO n 3 7 ∧ j = 0) from fun z => hj z.2)]
      · simp only [VC, if_neg (show ¬ (n 7 < n 7 ∧ j = 0) from fun z => hj z.2), if_neg (show ¬ (n 7 < nO n 3 7 ∧ j = 0) from fun z => hj z.2)]
  · rw [up3_ne (fun z => z1 ⟨by omega, z.2.1⟩), up3_ne (fun z => z1 ⟨by omega, z.2.1⟩), up3_ne (fun z => z1 ⟨by omega, z.2.1⟩), up3_ne (fun z => z1 ⟨by omega, z.2.1⟩), up3_ne (fun z => z1 ⟨by omega, z.2.1⟩), Vw_lo ht]
    refine VC_rest hW (by decide) (fun t i j _ hn => ha t i j (fun z => hn ⟨Or.inr (Or.inr (Or.inr ⟨rfl, z.1⟩)), z.2⟩)) (fun c y w hc hn => up3_ne (fun z => hn ⟨z.2.1, Or.inr (Or.inr (Or.inr ⟨rfl, z.1⟩))⟩)) (up3_c (by decide)) (up3_c (by decide)) ht (fun z => z1 ⟨?_, z.2⟩)
    rcases z.1 with ⟨w, -⟩ | ⟨w, -⟩ | ⟨w, -⟩ | ⟨-, w⟩
    · exact absurd w (by decide)
    · exact absurd w (by decide)
    · exact absurd w (by decide)
    · exact w
theorem GW_at {D : va_G} {B : Nat} {cy : Nat → ClassId} {de : Nat} {ad ad2 : Ad} {S S2 : St} {n : Nat → Nat} {T : St} {k : Nat → Nat} {th : Int32} {X : Rl} {H : Heap} {r qa qb qc qd qe qf : Nat} {x : Int32} (hW : WF S n) (had : ad2 = up3 (up3 (up3 (up3 (up3 (up3 (up3 ad 3 (n 4) 0 r) 4 (n 4) 0 qa) 5 (n 4) 0 qb) 4 (n 4) 1 qc) 5 (n 4) 1 qd) 4 (n 4) 2 qe) 5 (n 4) 2 qf) {fr : va_E}
    (h : GW D B ad2 (up3 (up3 (up3 (up3 (up3 (up3 (up3 (up3 (Vw cy de ad S n T k th X) 3 (n 4) 0 (some fr)) 4 (n 4) 0 (some (.inr (6, [.ref qb])))) 5 (n 4) 0 (some (eI (cy 0) 5 (fillv 100 0 5)))) 3 (n 4) 0 (some (.inr (1, [.int (nI (n 4)), .int x, .ref qa, .ref qc, .ref qe, .int 0, .int 45, .null, .int 0, .int 0])))) 4 (n 4) 1 (some (.inr (6, [.ref qd])))) 5 (n 4) 1 (some (eI (cy 0) 5 (fillv (-1) 0 5)))) 4 (n 4) 2 (some (.inr (6, [.ref qf])))) 5 (n 4) 2 (some (eI (cy 0) 5 (fillv 100 0 5)))) H)
    (e5 : S2 5 (n 4) 0 = x) (e8 : S2 8 (n 4) 0 = 0) (e9 : S2 9 (n 4) 0 = 45) (e10 : S2 10 (n 4) 0 = -1) (e2 : S2 2 (n 4) 0 = 0) (e11 : S2 11 (n 4) 0 = 0) (e6 : ∀ y, y < 5 → S2 6 (n 4) y = 100) (e7 : ∀ y, y < 5 → S2 7 (n 4) y = -1) (e1 : ∀ y, y < 5 → S2 1 (n 4) y = 100)
    (hS : ∀ c x y, c < 30 → ¬ (x = n 4 ∧ c ∈ [5, 6, 7, 9, 10, 1, 2, 8, 11]) → S2 c x y = S c x y) (h23 : S2 23 = S 23) (h15 : S2 15 = S 15) : GW D B ad2 (Vw cy de ad2 S2 (nO n 0) T k th X) H := by
  have ha : ∀ t i j, ¬ ((3 ≤ t ∧ t ≤ 5) ∧ i = n 4) → ad2 t i j = ad t i j := fun t i j hn => by rw [had, up3_ne (fun z => hn ⟨by omega, z.2.1⟩), up3_ne (fun z => hn ⟨by omega, z.2.1⟩), up3_ne (fun z => hn ⟨by omega, z.2.1⟩), up3_ne (fun z => hn ⟨by omega, z.2.1⟩), up3_ne (fun z => hn ⟨by omega, z.2.1⟩), up3_ne (fun z => hn ⟨by omega, z.2.1⟩), up3_ne (fun z => hn ⟨by omega, z.2.1⟩)]
  have a40 : ad2 4 (n 4) 0 = qa := by rw [had, up3_ne (by omega), up3_ne (by omega), up3_ne (by omega), up3_ne (by omega), up3_ne (by omega), up3_self]
  have a50 : ad2 5 (n 4) 0 = qb := by rw [had, up3_ne (by omega), up3_ne (by omega), up3_ne (by omega), up3_ne (by omega), up3_self]
  have a41 : ad2 4 (n 4) 1 = qc := by rw [had, up3_ne (by omega), up3_ne (by omega), up3_ne (by omega), up3_self]
  have a51 : ad2 5 (n 4) 1 = qd := by rw [had, up3_ne (by omega), up3_ne (by omega), up3_self]
  have a42 : ad2 4 (n 4) 2 = qe := by rw [had, up3_ne (by omega), up3_self]
  have a52 : ad2 5 (n 4) 2 = qf := by rw [had, up3_self]
  have f0 : ∀ y, y < 5 → fillv 100 0 5 y = fMea S2 (n 4) 0 y := fun y hy => (if_pos hy).trans (e6 y hy).symm
  have f1 : ∀ y, y < 5 → fillv (-1) 0 5 y = fMea S2 (n 4) 1 y := fun y hy => (if_pos hy).trans (e7 y hy).symm
  have f2 : ∀ y, y < 5 → fillv 100 0 5 y = fMea S2 (n 4) 2 y := fun y hy => (if_pos hy).trans (e1 y hy).symm
  have g0 := h.arr (t := 5) (i := n 4) (j := 0) (c := cy 0) (N := 5) (f := fillv 100 0 5) (g := fMea S2 (n 4) 0) (by rw [up3_ne (by omega), up3_ne (by omega), up3_ne (by omega), up3_ne (by omega), up3_ne (by omega), up3_self]) f0
  have g1 := g0.arr (t := 5) (i := n 4) (j := 1) (c := cy 0) (N := 5) (f := fillv (-1) 0 5) (g := fMea S2 (n 4) 1) (by rw [up3_ne (by omega), up3_ne (by omega), up3_ne (by omega), up3_self]) f1
  have g2 := g1.arr (t := 5) (i := n 4) (j := 2) (c := cy 0) (N := 5) (f := fillv 100 0 5) (g := fMea S2 (n 4) 2) (by rw [up3_ne (by omega), up3_ne (by omega), up3_self]) f2
  have none8 : ∀ t i j, ¬ ((3 ≤ t ∧ t ≤ 5) ∧ i = n 4) ∨ (t = 3 ∧ j ≠ 0) ∨ 3 ≤ j → up3 (up3 (up3 (up3 (up3 (up3 (up3 (up3 (up3 (up3 (up3 (Vw cy de ad S n T k th X) 3 (n 4) 0 (some fr)) 4 (n 4) 0 (some (.inr (6, [.ref qb])))) 5 (n 4) 0 (some (eI (cy 0) 5 (fillv 100 0 5)))) 3 (n 4) 0 (some (.inr (1, [.int (nI (n 4)), .int x, .ref qa, .ref qc, .ref qe, .int 0, .int 45, .null, .int 0, .int 0])))) 4 (n 4) 1 (some (.inr (6, [.ref qd])))) 5 (n 4) 1 (some (eI (cy 0) 5 (fillv (-1) 0 5)))) 4 (n 4) 2 (some (.inr (6, [.ref qf])))) 5 (n 4) 2 (some (eI (cy 0) 5 (fillv 100 0 5)))) 5 (n 4) 0 (some (eI (cy 0) 5 (fMea S2 (n 4) 0)))) 5 (n 4) 1 (some (eI (cy 0) 5 (fMea S2 (n 4) 1)))) 5 (n 4) 2 (some (eI (cy 0) 5 (fMea S2 (n 4) 2))) t i j = Vw cy de ad S n T k th X t i j := fun t i j hz => by
    rw [up3_ne (fun z => by omega), up3_ne (fun z => by omega), up3_ne (fun z => by omega), up3_ne (fun z => by omega), up3_ne (fun z => by omega), up3_ne (fun z => by omega), up3_ne (fun z => by omega), up3_ne (fun z => by omega), up3_ne (fun z => by omega), up3_ne (fun z => by omega), up3_ne (fun z => by omega)]
  have n4 : nO n 0 4 = n 4 + 1 := nO_s
  refine g2.cls (S := S) (n := n) (fun t i j ht => ?_) (fun t i j ht => none8 t i j (Or.inl (by omega))) (fun t ht => funext fun i => funext fun j => ha t i j (by omega))
  by_cases z1 : (3 ≤ t ∧ t ≤ 5) ∧ i = n 4
  · obtain ⟨z1, rfl⟩ := z1
    by_cases hj : 3 ≤ j
    · rw [none8 t (n 4) j (Or.inr (Or.inr hj)), Vw_lo ht]
      have h3 : t = 3 ∨ t = 4 ∨ t = 5 := by omega
      rcases h3 with rfl | rfl | rfl
      · simp only [VC, if_neg (show ¬ (n 4 < n 4 ∧ j = 0) by omega), if_neg (show ¬ (n 4 < nO n 0 4 ∧ j = 0) by omega)]
      · simp only [VC, if_neg (show ¬ (n 4 < n 4 ∧ j < 3) by omega), if_neg (show ¬ (n 4 < nO n 0 4 ∧ j < 3) by omega)]
      · simp only [VC, if_neg (show ¬ (n 4 < n 4 ∧ j < 3) by omega), if_neg (show ¬ (n 4 < nO n 0 4 ∧ j < 3) by omega)]
    · have h3 : t = 3 ∧ j = 0 ∨ t = 3 ∧ j ≠ 0 ∨ t = 4 ∧ j = 0 ∨ t = 4 ∧ j = 1 ∨ t = 4 ∧ j = 2 ∨ t = 5 ∧ j = 0 ∨ t = 5 ∧ j = 1 ∨ t = 5 ∧ j = 2 := by omega
      rcases h3 with ⟨rfl, rfl⟩ | ⟨rfl, h0⟩ | ⟨rfl, rfl⟩ | ⟨rfl, rfl⟩ | ⟨rfl, rfl⟩ | ⟨rfl, rfl⟩ | ⟨rfl, rfl⟩ | ⟨rfl, rfl⟩
      · rw [up3_ne (by omega), up3_ne (by omega), up3_ne (by omega), up3_ne (by omega), up3_ne (by omega), up3_ne (by omega), up3_ne (by omega), up3_self]
        show (if n 4 < nO n 0 4 ∧ 0 = 0 then some (eAth ad2 S2 (n 4)) else none) = _
        rw [n4, if_pos ⟨by omega, rfl⟩]
        unfold eAth
        rw [a40, a41, a42, e5, e8, e9, e2, e11, kro_null e10]
      · rw [none8 3 (n 4) j (Or.inr (Or.inl ⟨rfl, h0⟩)), Vw_lo ht]
        simp only [VC, if_neg (show ¬ (n 4 < n 4 ∧ j = 0) by omega), if_neg (show ¬ (n 4 < nO n 0 4 ∧ j = 0) by omega)]
      · rw [up3_ne (by omega), up3_ne (by omega), up3_ne (by omega), up3_ne (by omega), up3_ne (by omega), up3_ne (by omega), up3_ne (by omega), up3_ne (by omega), up3_ne (by omega), up3_self]
        simp only [VC, n4, if_pos (show n 4 < n 4 + 1 ∧ 0 < 3 by omega), a50]
      · rw [up3_ne (by omega), up3_ne (by omega), up3_ne (by omega), up3_ne (by omega), up3_ne (by omega), up3_ne (by omega), up3_self]
        simp only [VC, n4, if_pos (show n 4 < n 4 + 1 ∧ 1 < 3 by omega), a51]
      · rw [up3_ne (by omega), up3_ne (by omega), up3_ne (by omega), up3_ne (by omega), up3_self]
        simp only [VC, n4, if_pos (show n 4 < n 4 + 1 ∧ 2 < 3 by omega), a52]
      · rw [up3_ne (by omega), up3_ne (by omega), up3_self]
        simp only [VC, n4, if_pos (show n 4 < n 4 + 1 ∧ 0 < 3 by omega)]
      · rw [up3_ne (by omega), up3_self]
        simp only [VC, n4, if_pos (show n 4 < n 4 + 1 ∧ 1 < 3 by omega)]
      · rw [up3_self]
        simp only [VC, n4, if_pos (show n 4 < n 4 + 1 ∧ 2 < 3 by omega)]
  · rw [none8 t i j (Or.inl z1), Vw_lo ht]
    refine VC_rest hW (by decide) (fun t i j _ hn => ha t i j (fun z => hn ⟨Or.inl ⟨rfl, z.1⟩, z.2⟩)) (fun c y w hc hn => hS c y w hc (fun z => hn ⟨z.1, Or.inl ⟨rfl, z.2⟩⟩)) h23 h15 ht (fun z => z1 ⟨?_, z.2⟩)
    rcases z.1 with ⟨-, w⟩ | ⟨w, -⟩ | ⟨w, -⟩ | ⟨w, -⟩
    · exact w
    · exact absurd w (by decide)
    · exact absurd w (by decide)
    · exact absurd w (by decide)
/-- an entry -/
theorem GW_en {D : va_G} {B : Nat} {cy : Nat → ClassId} {de : Nat} {ad ad2 : Ad} {S : St} {n : Nat → Nat} {T : St} {k : Nat → Nat} {th : Int32} {X : Rl} {H : Heap} {r e a q : Nat} (hW : WF S n) (he : e < n 3) (ha0 : a < n 0) (hq : q < n 2) (had : ad2 = up3 ad 11 e a r) (h20 : S 20 e a = -1) (h21 : S 21 e a = 0) (h22 : S 22 e a = -1)
    (h : GW D B ad2 (up3 (up3 (Vw cy de ad S n T k th X) 11 e a (some (.inr (3, [.ref (ad 3 a 0), .ref (ad 7 q 0), .int 0, .int (-1)])))) 10 e 0 (some (eQ (cy 5) 16 (va_up (fEnt ad S e) a (some r))))) H) : GW D B ad2 (Vw cy de ad2 (up3 S 20 e a (nI q)) n T k th X) H := by
  obtain ⟨hB0, hB1, hB2, hB3, hB4, hB5, hB6, hB7, hKI, hEI, hKY⟩ := id hW
  have ha : ∀ t i j, ¬ (t = 11 ∧ i = e ∧ j = a) → ad2 t i j = ad t i j := fun t i j hn => by rw [had]; exact up3_ne hn
  have a11 : ad2 11 e a = r := by rw [had, up3_self]
  have hnq : neg (nI q) = false := neg_nI (by omega)
  refine h.cls (S := S) (n := n) (fun t i j ht => ?_) (fun t i j ht => by rw [up3_ne (by omega), up3_ne (by omega)]) (fun t ht => funext fun i => funext fun j => ha t i j (by omega))
  have hA : ∀ {t i j}, VC cy de ad2 S n t i j = VC cy de ad S n t i j := fun {t i j} => VC_a hW (fun t i j h1 h2 h3 => ha t i j (fun z => by
    obtain ⟨rfl, rfl, rfl⟩ := z
    have := h3.2.2.2.2.2.2.2.2 rfl
    rw [h20] at this
    exact absurd this (by decide))) (fun _ _ => ha 2 i 0 (by omega))
  by_cases z1 : t = 10 ∧ i = e
  · obtain ⟨rfl, rfl⟩ := z1
    by_cases hj : j = 0
    · subst hj
      rw [up3_self]
      show (if i < n 7 ∧ 0 = 0 then some (eQ (cy 5) 16 (fEnt ad2 (up3 S 20 i a (nI q)) i)) else none) = _
      rw [if_pos ⟨by omega, rfl⟩]
      have ef : fEnt ad2 (up3 S 20 i a (nI q)) i = va_up (fEnt ad S i) a (some r) := by
        funext y
        show (if neg (up3 S 20 i a (nI q) 20 i y) = true then none else some (ad2 11 i y)) = (if y = a then some r else if neg (S 20 i y) = true then none else some (ad 11 i y))
        by_cases hy : y = a
        · subst hy
          rw [up3_self, hnq, if_pos rfl, a11]; rfl
        · rw [up3_ne (fun z => hy z.2.2), if_neg hy, ha 11 i y (fun z => hy z.2.2)]
      rw [ef]
    · rw [up3_ne (fun z => hj z.2.2), up3_ne (by omega), Vw_lo (by decide)]
      simp only [VC, if_neg (show ¬ (i < n 7 ∧ j = 0) from fun z => hj z.2)]
  · rw [up3_ne (fun z => z1 ⟨z.1, z.2.1⟩)]
    by_cases z2 : t = 11 ∧ i = e ∧ j = a
    · obtain ⟨rfl, rfl, rfl⟩ := z2
      rw [up3_self]
      show (if i < n 7 ∧ j < 16 ∧ neg (up3 S 20 i j (nI q) 20 i j) = false then some (eEnt ad2 (up3 S 20 i j (nI q)) i j) else none) = _
      rw [up3_self, if_pos ⟨by omega, by omega, hnq⟩]
      unfold eEnt
      rw [up3_self, up3_ne (by omega), up3_ne (by omega), h21, h22, kro_ref rfl (by omega), ha 3 j 0 (by omega), ha 7 q 0 (by omega)]
    · rw [up3_ne z2, Vw_lo ht]
      refine Eq.trans ?_ hA
      by_cases z3 : t = 11 ∧ i = e
      · obtain ⟨rfl, rfl⟩ := z3
        have hj : ¬ j = a := fun z => z2 ⟨rfl, rfl, z⟩
        show (if i < n 7 ∧ j < 16 ∧ neg (up3 S 20 i a (nI q) 20 i j) = false then some (eEnt ad2 (up3 S 20 i a (nI q)) i j) else none) = (if i < n 7 ∧ j < 16 ∧ neg (S 20 i j) = false then some (eEnt ad2 S i j) else none)
        have ee : eEnt ad2 (up3 S 20 i a (nI q)) i j = eEnt ad2 S i j := by
          unfold eEnt
          rw [up3_ne (fun z => hj z.2.2), up3_ne (by omega), up3_ne (by omega)]
        rw [up3_ne (fun z => hj z.2.2), ee]
      · by_cases h0 : t = 0 ∨ t = 12
        · refine VC_congr (fun c hc => up3_c ?_)
          rintro rfl
          rcases h0 with rfl | rfl <;> exact absurd hc (by decide)
        · refine VC_i (fun z => h0 (Or.inl z)) (fun z => h0 (Or.inr z)) (fun c hc y => up3_ne (fun z => ?_))
          obtain ⟨rfl, rfl, rfl⟩ := z
          have : t = 10 ∨ t = 11 := (by decide : ∀ t, t < 13 → 20 ∈ rc t → t = 10 ∨ t = 11) t ht hc
          exact this.elim (fun w => z1 ⟨w, rfl⟩) (fun w => z3 ⟨w, rfl⟩)
