/-! A LOOSE CELL of one method. -/
theorem P_loose {cy : Nat → ClassId} {de : Nat} {ad : Ad} {S : St} {n : Nat → Nat} {T : St} {k : Nat → Nat} {th : Int32} {X : Rl} {t i j : Nat} {e0 e : Option va_E} (ht : 16 ≤ t) : up3 (Vw cy de ad S n T k th (up3 X t i j e0)) t i j e = Vw cy de ad S n T k th (up3 X t i j e) := by
  funext a b c
  by_cases h : a = t ∧ b = i ∧ c = j
  · obtain ⟨rfl, rfl, rfl⟩ := h
    rw [up3_self, V_X ht, up3_self]
  · rw [up3_ne h]
    by_cases ha : a < 16
    · have e1 : up3 X t i j e a = X a := up3_c (by omega)
      have e2 : up3 X t i j e0 a = X a := up3_c (by omega)
      unfold Vw
      rw [e1, e2]
    · rw [V_X (by omega), V_X (by omega), up3_ne h, up3_ne h]
theorem GW_drop {D : va_G} {B : Nat} {cy : Nat → ClassId} {de : Nat} {ad ad2 : Ad} {S : St} {n : Nat → Nat} {T : St} {k : Nat → Nat} {th : Int32} {X : Rl} {t i j q : Nat} {e : va_E} {H : Heap} (ht : 16 ≤ t) (hX : X t i j = none) (had : ad2 = up3 ad t i j q) (hG : GW D B ad2 (Vw cy de ad2 S n T k th (up3 X t i j (some e))) H) : GW D B ad (Vw cy de ad S n T k th X) H := by
  have e16 : ∀ x, x < 16 → ad2 x = ad x := fun x hx => by rw [had]; exact up3_c (by omega)
  rw [Vw_ad e16] at hG
  have hl : GW D B ad2 (Vw cy de ad S n T k th X) H := hG.less (fun a b c v hv => by
    by_cases ha : a < 16
    · have e1 : up3 X t i j (some e) a = X a := up3_c (by omega)
      unfold Vw at hv ⊢
      rw [e1]; exact hv
    · rw [V_X (by omega)] at hv ⊢
      by_cases h : a = t ∧ b = i ∧ c = j
      · obtain ⟨rfl, rfl, rfl⟩ := h
        rw [hX] at hv; cases hv
      · rw [up3_ne h]; exact hv)
  refine hl.ext (fun _ _ _ => rfl) (fun a b c v hv => ?_)
  by_cases h : a = t ∧ b = i ∧ c = j
  · obtain ⟨rfl, rfl, rfl⟩ := h
    rw [V_X ht, hX] at hv; cases hv
  · rw [had, up3_ne h]
theorem cN_mono {P Q : Nat → Prop} (h : ∀ a, P a → Q a) : ∀ c, cN P c ≤ cN Q c
  | 0 => Nat.le_refl 0
  | c + 1 => by
    have := cN_mono h c
    by_cases hp : P c
    · rw [cN_t hp, cN_t (h c hp)]; omega
    · rw [cN_f hp]
      by_cases hq : Q c
      · rw [cN_t hq]; omega
      · rw [cN_f hq]; omega
theorem cN_less {P Q : Nat → Prop} {w : Nat} (h : ∀ a, P a → Q a) (hq : Q w) (hp : ¬ P w) : ∀ c, w < c → cN P c < cN Q c
  | 0, hc => absurd hc (Nat.not_lt_zero _)
  | c + 1, hc => by
    by_cases hw : w = c
    · subst hw
      rw [cN_f hp, cN_t hq]
      have := cN_mono h w
      omega
    · have := cN_less h hq hp c (by omega)
      by_cases hp2 : P c
      · rw [cN_t hp2, cN_t (h c hp2)]; omega
      · rw [cN_f hp2]
        by_cases hq2 : Q c
        · rw [cN_t hq2]; omega
        · rw [cN_f hq2]; omega