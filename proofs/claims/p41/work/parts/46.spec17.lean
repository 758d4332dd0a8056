/-! WHAT A NEW ARRAY IS FILLED WITH. -/
def fillv (v d : Int32) (y : Nat) : Nat → Int32 := fun x => if x < y then v else d
theorem fillv_0 {v d : Int32} : fillv v d 0 = fun _ => d := funext fun x => if_neg (Nat.not_lt_zero x)
theorem fillv_s {v d : Int32} {y : Nat} : fillv v d (y + 1) = upd (fillv v d y) y v := by
  funext x
  unfold fillv upd
  by_cases hx : x = y
  · subst hx; simp
  · by_cases hx2 : x < y
    · simp [hx, hx2, Nat.lt_succ_of_lt hx2]
    · simp [hx, hx2, show ¬ x < y + 1 by omega]
theorem arrV_congr {c : ClassId} {n : Nat} {f g : Nat → Value} (h : ∀ x, x < n → f x = g x) : arrV c n f = arrV c n g := by
  unfold arrV
  congr 1
  apply Array.ext
  · simp
  · intro i h1 h2
    simp at h1
    simp [h i (by simpa using h1)]
theorem up3_up3 {α : Type} {f : Nat → Nat → Nat → α} {a b c : Nat} {u v : α} : up3 (up3 f a b c u) a b c v = up3 f a b c v := by
  funext x y z
  by_cases h : x = a ∧ y = b ∧ z = c
  · obtain ⟨rfl, rfl, rfl⟩ := h; rw [up3_self, up3_self]
  · rw [up3_ne h, up3_ne h, up3_ne h]
theorem up3_comm {α : Type} {f : Nat → Nat → Nat → α} {a b c a' b' c' : Nat} {u v : α} (hn : ¬ (a = a' ∧ b = b' ∧ c = c')) : up3 (up3 f a b c u) a' b' c' v = up3 (up3 f a' b' c' v) a b c u := by
  funext x y z
  by_cases h : x = a ∧ y = b ∧ z = c
  · obtain ⟨rfl, rfl, rfl⟩ := h
    rw [up3_ne hn, up3_self, up3_self]
  · rw [up3_ne (f := up3 f a' b' c' v) h]
    by_cases h2 : x = a' ∧ y = b' ∧ z = c'
    · obtain ⟨rfl, rfl, rfl⟩ := h2; rw [up3_self, up3_self]
    · rw [up3_ne h2, up3_ne h2, up3_ne h]
