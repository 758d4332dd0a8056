/-! A LOOSE CELL of one method. -/
theorem P_loose {cy : Nat → ClassId} {de : Nat} {ad : Ad} {S : St} {n : Nat → Nat} {T : St} {k : Nat → Nat} {th : Int32} {X : Rl} {t i j : Nat} {e0 e : Option va_E} (ht : 16 ≤ t) : up3 (Vw cy de ad S n T k th (up3 X t i j e0)) t i j e = Vw cy de ad S n T k th (up3 X t i j e) := by
  funext a b c
  by_cases h : a = t ∧ b = i ∧ c = j
  · obtain ⟨rfl, rfl, rfl⟩ := h
    rw [up3_self, V_X ht, up3_self]
  · rw [up3_ne h]
    by_cases ha : a < 16
    · have e1 : up3 X t i j e a = X a := up3_c (by omega)
      have e2 : up3 X t i j e0 a = X a := up3_c (by omega)
      unfold Vw
      rw [e1, e2]
    · rw [V_X (by omega), V_X (by omega), up3_ne h, up3_ne h]
theorem GW_drop {D : va_G} {B : Nat} {cy : Nat → ClassId} {de : Nat} {ad ad2 : Ad} {S : St} {n : Nat → Nat} {T : St} {k : Nat → Nat} {th : Int32} {X : Rl} {t i j q : Nat} {e : va_E} {H : Heap} (ht : 16 ≤ t) (hX : X t i j = none) (had : ad2 = up3 ad t i j q) (hG : GW D B ad2 (Vw cy de ad2 S n T k th (up3 X t i j (some e))) H) : GW D B ad (Vw cy de ad S n T k th X) H := by
  have e16 : ∀ x, x < 16 → ad2 x = ad x := fun x hx => by rw [had]; exact up3_c (by omega)
  rw [Vw_ad e16] at hG
  have hl : GW D B ad2 (Vw cy de ad S n T k th X) H := hG.less (fun a b c v hv => by
    by_cases ha : a < 16
    · have e1 : up3 X t i j (some e) a = X a := up3_c (by omega)
      unfold Vw at hv ⊢
      rw [e1]; exact hv
    · rw [V_X (by omega)] at hv ⊢
      by_cases h : a = t ∧ b = i ∧ c = j
      · obtain ⟨rfl, rfl, rfl⟩ := h
        rw [hX] at hv; cases hv
      · rw [up3_ne h]; exact hv)
  refine hl.ext (fun _ _ _ => rfl) (fun a b c v hv => ?_)
  by_cases h : a = t ∧ b = i ∧ c = j
  · obtain ⟨rfl, rfl, rfl⟩ := h
    rw [V_X ht, hX] at hv; cases hv
  · rw [had, up3_ne h]
/-- what the reference counts of a land: at most 2 -/
noncomputable def hvI (T : St) (e y : Nat) : Nat → Int32 := fun l => if l < 6 then nI (min 2 (hv T e (nI l) y)) else 0
theorem hvI_0 {T : St} {e : Nat} : hvI T e 0 = fun _ => 0 := by
  funext l
  show (if l < 6 then nI (min 2 0) else 0) = (0 : Int32)
  by_cases h : l < 6
  · rw [if_pos h]; rfl
  · rw [if_neg h]
theorem hvI_6 {T : St} {e y l : Nat} (h : l < 6) : hvI T e y l = nI (min 2 (hv T e (nI l) y)) := if_pos h
theorem hvI_lt {T : St} {e w l : Nat} (h : l < 6) : hvI T e w l < 2 ↔ hv T e (nI l) w < 2 := by
  rw [hvI_6 h]
  show nI (min 2 (hv T e (nI l) w)) < nI 2 ↔ _
  rw [nI_ltI (by omega) (by omega)]
  omega
theorem lan_lt {T : St} {e w v l : Nat} (ht : ∀ x, timeP T e x → x < 16) (h : io T e w = some v) (hl : T 5 v 0 = nI l) : cnt (lanP T e v) 16 < 2 ↔ hv T e (nI l) w < 2 := by
  have hw : hv T e (nI l) w ≤ 16 := by
    rw [← hv_io (l := nI l) ht w h]; exact cN_le 16
  rw [lan_hv ht h, hl]
  show nI (hv T e (nI l) w) < nI 2 ↔ _
  rw [nI_ltI (by omega) (by omega)]
theorem hvI_up {T : St} {e w v l : Nat} (h : io T e w = some v) (hl : T 5 v 0 = nI l) (hl6 : l < 6) (hlt : hvI T e w l < 2) : upd (hvI T e w) l (hvI T e w l + 1) = hvI T e (w + 1) := by
  have hlt2 := (hvI_lt hl6).mp hlt
  funext x
  by_cases hxl : x = l
  · subst hxl
    have e1 : upd (hvI T e w) x (hvI T e w x + 1) x = hvI T e w x + 1 := by simp [upd]
    rw [e1, hvI_6 hl6, hvI_6 hl6, nI_1, hv_t h hl]
    congr 1
    omega
  · have e1 : upd (hvI T e w) l (hvI T e w l + 1) x = hvI T e w x := by simp [upd, hxl]
    rw [e1]
    by_cases hx : x < 6
    · rw [hvI_6 hx, hvI_6 hx, hv_f h (fun z => hxl (((nI_eq (by omega) (by omega)).mp (hl.symm.trans z)).symm))]
    · show (if x < 6 then _ else (0 : Int32)) = (if x < 6 then _ else (0 : Int32))
      rw [if_neg hx, if_neg hx]
theorem hvI_no {T : St} {e w v l : Nat} (h : io T e w = some v) (hl : T 5 v 0 = nI l) (hl6 : l < 6) (hge : ¬ hvI T e w l < 2) : hvI T e w = hvI T e (w + 1) := by
  have hge2 : 2 ≤ hv T e (nI l) w := Nat.le_of_not_lt (fun z => hge ((hvI_lt hl6).mpr z))
  funext x
  by_cases hx : x < 6
  · rw [hvI_6 hx, hvI_6 hx]
    by_cases hxl : x = l
    · subst hxl
      rw [hv_t h hl]
      congr 1
      omega
    · rw [hv_f h (fun z => hxl (((nI_eq (by omega) (by omega)).mp (hl.symm.trans z)).symm))]
  · show (if x < 6 then _ else (0 : Int32)) = (if x < 6 then _ else (0 : Int32))
    rw [if_neg hx, if_neg hx]
theorem cN_mono {P Q : Nat → Prop} (h : ∀ a, P a → Q a) : ∀ c, cN P c ≤ cN Q c
  | 0 => Nat.le_refl 0
  | c + 1 => by
    have := cN_mono h c
    by_cases hp : P c
    · rw [cN_t hp, cN_t (h c hp)]; omega
    · rw [cN_f hp]
      by_cases hq : Q c
      · rw [cN_t hq]; omega
      · rw [cN_f hq]; omega
theorem cN_less {P Q : Nat → Prop} {w : Nat} (h : ∀ a, P a → Q a) (hq : Q w) (hp : ¬ P w) : ∀ c, w < c → cN P c < cN Q c
  | 0, hc => absurd hc (Nat.not_lt_zero _)
  | c + 1, hc => by
    by_cases hw : w = c
    · subst hw
      rw [cN_f hp, cN_t hq]
      have := cN_mono h w
      omega
    · have := cN_less h hq hp c (by omega)
      by_cases hp2 : P c
      · rw [cN_t hp2, cN_t (h c hp2)]; omega
      · rw [cN_f hp2]
        by_cases hq2 : Q c
        · rw [cN_t hq2]; omega
        · rw [cN_f hq2]; omega
theorem io_lt {S : St} {e k w : Nat} (hl : ∀ x, timeP S e x → x < 16) (h : io S e k = some w) : k < cN (timeP S e) 16 := by
  have h1 := io_rk hl k h
  have h2 := cN_less (P := fun x => timeP S e x ∧ aheadP S e x w) (Q := timeP S e) (fun a z => z.1) (io_time k h) (fun z => ah_irr z.2) 16 (hl w (io_time k h))
  unfold rk at h1
  omega
