/-! THE LAW'S WORLD: its ten arrays at the roles (20, i, 0), their rows at (21, i, ..); q of them are made. -/
def XL (cy : Nat → ClassId) (r : Nat → Nat → Nat) (K q : Nat) (L : St) : Rl := fun t i j =>
  if t = 20 ∧ j = 0 ∧ i < 4 ∧ i < q then some (eI (cy 0) K (fun x => L i x 0))
  else if t = 20 ∧ j = 0 ∧ 4 ≤ i ∧ i < 7 ∧ i < q then some (eQ (cy 7) 3 (fun x => some (r i x)))
  else if t = 20 ∧ j = 0 ∧ 7 ≤ i ∧ i < 10 ∧ i < q then some (eI (cy 0) 3 (fun x => L i x 0))
  else if t = 21 ∧ 4 ≤ i ∧ i < 7 ∧ i < q ∧ j < 3 then some (eI (cy 0) 5 (fun y => L i j y))
  else none
abbrev WL (cy : Nat → ClassId) (de : Nat) (ad : Ad) (S : St) (n : Nat → Nat) (T : St) (k : Nat → Nat) (th : Int32) (K q : Nat) (L : St) : Rl := Vw cy de ad S n T k th (XL cy (ad 21) K q L)
section XLS
variable {cy : Nat → ClassId} {de : Nat} {ad : Ad} {S : St} {n : Nat → Nat} {T : St} {k : Nat → Nat} {th : Int32} {r : Nat → Nat → Nat} {K q : Nat} {L : St} {i a : Nat}
theorem XL_19 : XL cy r K q L 19 0 0 = none := by
  unfold XL
  rw [if_neg (by omega), if_neg (by omega), if_neg (by omega), if_neg (by omega)]
theorem V_a (h : i < 4) (hq : i < q) : WL cy de ad S n T k th K q L 20 i 0 = some (eI (cy 0) K (fun x => L i x 0)) := by
  show Vw cy de ad S n T k th _ 20 i 0 = _
  rw [V_X (by decide)]; unfold XL; exact if_pos ⟨rfl, rfl, h, hq⟩
theorem V_o (h : 4 ≤ i) (h7 : i < 7) (hq : i < q) : WL cy de ad S n T k th K q L 20 i 0 = some (eQ (cy 7) 3 (fun x => some (ad 21 i x))) := by
  show Vw cy de ad S n T k th _ 20 i 0 = _
  rw [V_X (by decide)]; unfold XL; rw [if_neg (by omega)]; exact if_pos ⟨rfl, rfl, h, h7, hq⟩
theorem V_c (h : 7 ≤ i) (h7 : i < 10) (hq : i < q) : WL cy de ad S n T k th K q L 20 i 0 = some (eI (cy 0) 3 (fun x => L i x 0)) := by
  show Vw cy de ad S n T k th _ 20 i 0 = _
  rw [V_X (by decide)]; unfold XL; rw [if_neg (by omega), if_neg (by omega)]; exact if_pos ⟨rfl, rfl, h, h7, hq⟩
theorem V_r (h : 4 ≤ i) (h7 : i < 7) (hq : i < q) (ha : a < 3) : WL cy de ad S n T k th K q L 21 i a = some (eI (cy 0) 5 (fun y => L i a y)) := by
  show Vw cy de ad S n T k th _ 21 i a = _
  rw [V_X (by decide)]; unfold XL; rw [if_neg (by omega), if_neg (by omega), if_neg (by omega)]; exact if_pos ⟨rfl, h, h7, hq, ha⟩
theorem XL_other {t i j c x y : Nat} {v : Int32} (h : i ≠ c ∨ (t = 21 ∧ j ≠ x)) : XL cy r K q (up3 L c x y v) t i j = XL cy r K q L t i j := by
  unfold XL
  rcases h with h | ⟨rfl, h⟩
  · simp only [up3_c h]
  · have e : (fun z => up3 L c x y v i j z) = fun z => L i j z := funext fun z => up3_ne (fun w => h w.2.1)
    have c1 : ¬ (21 = 20 ∧ j = 0 ∧ i < 4 ∧ i < q) := by omega
    have c2 : ¬ (21 = 20 ∧ j = 0 ∧ 4 ≤ i ∧ i < 7 ∧ i < q) := by omega
    have c3 : ¬ (21 = 20 ∧ j = 0 ∧ 7 ≤ i ∧ i < 10 ∧ i < q) := by omega
    rw [if_neg c1, if_neg c2, if_neg c3, e, if_neg c1, if_neg c2, if_neg c3]
theorem upd_0 {c x : Nat} {v : Int32} : upd (fun z => L c z 0) x v = fun z => up3 L c x 0 v c z 0 := funext fun z => by
  unfold upd up3
  by_cases h : z = x
  · rw [if_pos h, if_pos ⟨rfl, h, rfl⟩]
  · rw [if_neg h, if_neg (fun w => h w.2.1)]
theorem upd_r {c x y : Nat} {v : Int32} : upd (fun z => L c x z) y v = fun z => up3 L c x y v c x z := funext fun z => by
  unfold upd up3
  by_cases h : z = y
  · rw [if_pos h, if_pos ⟨rfl, rfl, h⟩]
  · rw [if_neg h, if_neg (fun w => h w.2.2)]
theorem P_a {x : Nat} {v : Int32} (h : i < 4) (hq : i < q) : up3 (WL cy de ad S n T k th K q L) 20 i 0 (some (eI (cy 0) K (upd (fun z => L i z 0) x v))) = WL cy de ad S n T k th K q (up3 L i x 0 v) :=
  up_Vw (by decide) (by
    funext t' i' j'
    by_cases z : t' = 20 ∧ i' = i ∧ j' = 0
    · obtain ⟨rfl, rfl, rfl⟩ := z
      rw [up3_self, upd_0]; unfold XL; rw [if_pos ⟨rfl, rfl, h, hq⟩]
    · rw [up3_ne z]
      by_cases hi : i' = i
      · subst hi
        unfold XL
        rw [if_neg (by omega), if_neg (by omega), if_neg (by omega), if_neg (by omega), if_neg (by omega), if_neg (by omega), if_neg (by omega), if_neg (by omega)]
      · exact (XL_other (Or.inl hi)).symm)
theorem P_c {x : Nat} {v : Int32} (h : 7 ≤ i) (h7 : i < 10) (hq : i < q) : up3 (WL cy de ad S n T k th K q L) 20 i 0 (some (eI (cy 0) 3 (upd (fun z => L i z 0) x v))) = WL cy de ad S n T k th K q (up3 L i x 0 v) :=
  up_Vw (by decide) (by
    funext t' i' j'
    by_cases z : t' = 20 ∧ i' = i ∧ j' = 0
    · obtain ⟨rfl, rfl, rfl⟩ := z
      rw [up3_self, upd_0]; unfold XL; rw [if_neg (by omega), if_neg (by omega), if_pos ⟨rfl, rfl, h, h7, hq⟩]
    · rw [up3_ne z]
      by_cases hi : i' = i
      · subst hi
        unfold XL
        rw [if_neg (by omega), if_neg (by omega), if_neg (by omega), if_neg (by omega), if_neg (by omega), if_neg (by omega), if_neg (by omega), if_neg (by omega)]
      · exact (XL_other (Or.inl hi)).symm)
theorem P_r {y : Nat} {v : Int32} (h : 4 ≤ i) (h7 : i < 7) (hq : i < q) (ha : a < 3) : up3 (WL cy de ad S n T k th K q L) 21 i a (some (eI (cy 0) 5 (upd (fun z => L i a z) y v))) = WL cy de ad S n T k th K q (up3 L i a y v) :=
  up_Vw (by decide) (by
    funext t' i' j'
    by_cases z : t' = 21 ∧ i' = i ∧ j' = a
    · obtain ⟨rfl, rfl, rfl⟩ := z
      rw [up3_self, upd_r]; unfold XL; rw [if_neg (by omega), if_neg (by omega), if_neg (by omega), if_pos ⟨rfl, h, h7, hq, ha⟩]
    · rw [up3_ne z]
      by_cases hi : i' = i
      · by_cases ht : t' = 21
        · exact (XL_other (Or.inr ⟨ht, fun w => z ⟨ht, hi, w⟩⟩)).symm
        · subst hi
          have c1 : ¬ (t' = 20 ∧ j' = 0 ∧ i' < 4 ∧ i' < q) := by omega
          have c3 : ¬ (t' = 20 ∧ j' = 0 ∧ 7 ≤ i' ∧ i' < 10 ∧ i' < q) := by omega
          have c4 : ¬ (t' = 21 ∧ 4 ≤ i' ∧ i' < 7 ∧ i' < q ∧ j' < 3) := by omega
          unfold XL
          rw [if_neg c1, if_neg c1, if_neg c3, if_neg c4, if_neg c3, if_neg c4]
      · exact (XL_other (Or.inl hi)).symm)
-- new arrays
theorem XL_q {t i j : Nat} (h : i ≠ q) : XL cy r K (q + 1) L t i j = XL cy r K q L t i j := by
  have e : (i < q + 1) = (i < q) := propext ⟨fun z => by omega, fun z => by omega⟩
  unfold XL
  simp only [e]
theorem XN_a (h : q < 4) (hL : ∀ x, L q x 0 = 0) : up3 (XL cy r K q L) 20 q 0 (some (eI (cy 0) K (fun _ => 0))) = XL cy r K (q + 1) L := by
  funext t i j
  by_cases z : t = 20 ∧ i = q ∧ j = 0
  · obtain ⟨rfl, rfl, rfl⟩ := z
    rw [up3_self]; unfold XL; rw [if_pos ⟨rfl, rfl, h, by omega⟩, show (fun x => L i x 0) = fun _ => 0 from funext hL]
  · rw [up3_ne z]
    by_cases hi : i = q
    · subst hi
      unfold XL
      rw [if_neg (by omega), if_neg (by omega), if_neg (by omega), if_neg (by omega), if_neg (by omega), if_neg (by omega), if_neg (by omega), if_neg (by omega)]
    · exact (XL_q hi).symm
theorem XN_c (h : 7 ≤ q) (h7 : q < 10) (hL : ∀ x, L q x 0 = 0) : up3 (XL cy r K q L) 20 q 0 (some (eI (cy 0) 3 (fun _ => 0))) = XL cy r K (q + 1) L := by
  funext t i j
  by_cases z : t = 20 ∧ i = q ∧ j = 0
  · obtain ⟨rfl, rfl, rfl⟩ := z
    rw [up3_self]; unfold XL; rw [if_neg (by omega), if_neg (by omega), if_pos ⟨rfl, rfl, h, h7, by omega⟩, show (fun x => L i x 0) = fun _ => 0 from funext hL]
  · rw [up3_ne z]
    by_cases hi : i = q
    · subst hi
      unfold XL
      rw [if_neg (by omega), if_neg (by omega), if_neg (by omega), if_neg (by omega), if_neg (by omega), if_neg (by omega), if_neg (by omega), if_neg (by omega)]
    · exact (XL_q hi).symm
theorem WN_a {h : Nat} (h4 : q < 4) (hL : ∀ x, L q x 0 = 0) : up3 (WL cy de ad S n T k th K q L) 20 q 0 (some (eI (cy 0) K (fun _ => 0))) = WL cy de (up3 ad 20 q 0 h) S n T k th K (q + 1) L := by
  show up3 (Vw cy de ad S n T k th _) _ _ _ _ = Vw cy de _ S n T k th _
  rw [Vw_loose (q := h) (by decide), XN_a h4 hL, up3_c (show 21 ≠ 20 by decide)]
theorem WN_c {h : Nat} (h7 : 7 ≤ q) (h10 : q < 10) (hL : ∀ x, L q x 0 = 0) : up3 (WL cy de ad S n T k th K q L) 20 q 0 (some (eI (cy 0) 3 (fun _ => 0))) = WL cy de (up3 ad 20 q 0 h) S n T k th K (q + 1) L := by
  show up3 (Vw cy de ad S n T k th _) _ _ _ _ = Vw cy de _ S n T k th _
  rw [Vw_loose (q := h) (by decide), XN_c h7 h10 hL, up3_c (show 21 ≠ 20 by decide)]
theorem adR_lo {j h : Nat} : ∀ t, t < 16 → adR ad j h t = ad t := fun t ht => by
  funext x y
  unfold adR
  rw [if_neg (by omega), if_neg (by omega)]
theorem WN_r {h : Nat} (h4 : 4 ≤ q) (h7 : q < 7) (hL : ∀ x y, L q x y = 0) : VR (WL cy de ad S n T k th K q L) q 3 (eQ (cy 7) 3 (fun x => some (adR ad q h 21 q x))) (eI (cy 0) 5 (fun _ => 0)) = WL cy de (adR ad q h) S n T k th K (q + 1) L := by
  show VR (Vw cy de ad S n T k th (XL cy (ad 21) K q L)) q 3 _ _ = Vw cy de (adR ad q h) S n T k th (XL cy (adR ad q h 21) K (q + 1) L)
  rw [Vw_ad (ad' := adR ad q h) (ad := ad) (fun t ht => adR_lo t ht)]
  funext t i j
  unfold VR
  by_cases z1 : t = 20 ∧ i = q ∧ j = 0
  · obtain ⟨rfl, rfl, rfl⟩ := z1
    rw [if_pos ⟨rfl, rfl, rfl⟩, V_X (by decide)]
    unfold XL
    rw [if_neg (by omega), if_pos ⟨rfl, rfl, h4, h7, by omega⟩]
  · rw [if_neg z1]
    by_cases z2 : t = 21 ∧ i = q ∧ j < 3
    · obtain ⟨rfl, rfl, hj⟩ := z2
      rw [if_pos ⟨rfl, rfl, hj⟩, V_X (by decide)]
      unfold XL
      rw [if_neg (by omega), if_neg (by omega), if_neg (by omega), if_pos ⟨rfl, h4, h7, by omega, hj⟩, show (fun y => L i j y) = fun _ => 0 from funext (hL j)]
    · rw [if_neg z2]
      by_cases h16 : 16 ≤ t
      · rw [V_X h16, V_X h16]
        by_cases hi : i = q
        · subst hi
          unfold XL
          rw [if_neg (by omega), if_neg (by omega), if_neg (by omega), if_neg (by omega), if_neg (by omega), if_neg (by omega), if_neg (by omega), if_neg (by omega)]
        · rw [XL_q hi]
          have e : adR ad q h 21 i = ad 21 i := by
            funext y
            unfold adR
            rw [if_neg (by omega), if_neg (fun w => hi w.2)]
          unfold XL
          rw [e]
      · unfold Vw
        by_cases a1 : t < 13
        · rw [if_pos a1, if_pos a1]
        · rw [if_neg a1, if_neg a1]
          by_cases a2 : t = 13
          · rw [if_pos a2, if_pos a2]
          · rw [if_neg a2, if_neg a2]
            by_cases a3 : t = 14
            · rw [if_pos a3, if_pos a3]
            · rw [if_neg a3, if_neg a3, if_pos (show t = 15 by omega), if_pos (show t = 15 by omega)]
theorem XL_none : XL cy r K 0 L = X0g := by
  funext t i j
  unfold XL
  rw [if_neg (by omega), if_neg (by omega), if_neg (by omega), if_neg (by omega)]
theorem W_none (h20 : q ≤ i) : WL cy de ad S n T k th K q L 20 i 0 = none := by
  show Vw cy de ad S n T k th _ 20 i 0 = _
  rw [V_X (by decide)]; unfold XL
  rw [if_neg (by omega), if_neg (by omega), if_neg (by omega), if_neg (by omega)]
theorem W_noner {x : Nat} (h20 : q ≤ i) : WL cy de ad S n T k th K q L 21 i x = none := by
  show Vw cy de ad S n T k th _ 21 i x = _
  rw [V_X (by decide)]; unfold XL
  rw [if_neg (by omega), if_neg (by omega), if_neg (by omega), if_neg (by omega)]
end XLS
/-- the law's locals in its loop -/
abbrev LW (b : Nat) (ad : Ad) (K : Nat) (yr mo nn : Int32) (t17 t18 t19 t20 t21 t22 t23 t24 t25 t26 t27 t28 : Option Value) : List (Option Value) :=
  [some (.ref b), some (.ref (ad 0 0 0)), some (.int 1), some (.int (nI K)), some (.ref (ad 20 0 0)), some (.ref (ad 20 1 0)), some (.ref (ad 20 2 0)), some (.ref (ad 20 3 0)), some (.ref (ad 20 4 0)), some (.ref (ad 20 5 0)), some (.ref (ad 20 6 0)), some (.ref (ad 20 7 0)), some (.ref (ad 20 8 0)), some (.ref (ad 20 9 0)), some (.int yr), some (.int mo), some (.int nn), t17, t18, t19, t20, t21, t22, t23, t24, t25, t26, t27, t28]
def pm : Nat → Int32
  | 0 => -1
  | y + 1 => nI y
theorem pm_step (y : Nat) : nI y + -1 = pm y := by
  match y with
  | 0 => rfl
  | y + 1 => show nI (y + 1) + -1 = nI y; rw [← nI_add, Int32.add_assoc, show nI 1 + (-1 : Int32) = 0 from by decide, Int32.add_zero]
theorem pm_sub (y : Nat) : nI y - 1 = pm y := by
  match y with
  | 0 => rfl
  | y + 1 => show nI (y + 1) - 1 = nI y; rw [← nI_add]; exact Int32.add_sub_cancel _ _
