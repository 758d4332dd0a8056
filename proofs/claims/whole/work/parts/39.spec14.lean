/-! WORDS FOR THE NUMBERS, 14: the order of places. -/
theorem ah_irr {S : St} {e x : Nat} : ¬ aheadP S e x x := fun h => h.elim (fun z => (Int32.lt_irrefl z).elim) (fun z => absurd z.2 (Nat.lt_irrefl _))
theorem ah_tr {S : St} {e x y z : Nat} (h : aheadP S e x y) (g : aheadP S e y z) : aheadP S e x z := by
  rcases h with h | ⟨h1, h2⟩ <;> rcases g with g | ⟨g1, g2⟩
  · exact Or.inl (Int32.lt_trans h g)
  · exact Or.inl (g1 ▸ h)
  · exact Or.inl (h1 ▸ g)
  · exact Or.inr ⟨h1.trans g1, by omega⟩
theorem ah_tot {S : St} {e x y : Nat} (h : ¬ x = y) : aheadP S e x y ∨ aheadP S e y x := by
  by_cases h1 : S 22 e x < S 22 e y
  · exact Or.inl (Or.inl h1)
  · by_cases h2 : S 22 e y < S 22 e x
    · exact Or.inr (Or.inl h2)
    · have h3 : S 22 e x = S 22 e y := Int32.le_antisymm (Int32.not_lt.mp h2) (Int32.not_lt.mp h1)
      by_cases h4 : x < y
      · exact Or.inl (Or.inr ⟨h3, h4⟩)
      · exact Or.inr (Or.inr ⟨h3.symm, by omega⟩)
theorem ah_as {S : St} {e x y : Nat} (h : aheadP S e x y) (g : aheadP S e y x) : False := ah_irr (ah_tr h g)
theorem cN_congr {P Q : Nat → Prop} : ∀ (c : Nat), (∀ a, a < c → (P a ↔ Q a)) → cN P c = cN Q c
  | 0, _ => rfl
  | c + 1, h => by
    have h1 := cN_congr c (fun a ha => h a (by omega))
    by_cases hp : P c
    · rw [cN_t hp, cN_t ((h c (by omega)).mp hp), h1]
    · rw [cN_f hp, cN_f (fun z => hp ((h c (by omega)).mpr z)), h1]
theorem cN_zero {P : Nat → Prop} : ∀ (c : Nat), (∀ a, a < c → ¬ P a) → cN P c = 0
  | 0, _ => rfl
  | c + 1, h => by rw [cN_f (h c (by omega)), cN_zero c (fun a ha => h a (by omega))]
theorem cN_one {w : Nat} : ∀ (c : Nat), cN (fun x => x = w) c = cif (w < c) 1 0
  | 0 => (cif_f (Nat.not_lt_zero _)).symm
  | c + 1 => by
    by_cases h : c = w
    · rw [cN_t (P := fun x => x = w) h, cN_one c, cif_f (by omega), cif_t (by omega)]
    · rw [cN_f (P := fun x => x = w) h, cN_one c]
      by_cases h2 : w < c
      · rw [cif_t h2, cif_t (by omega)]
      · rw [cif_f h2, cif_f (by omega)]
theorem cN_add {P Q : Nat → Prop} {w : Nat} {c : Nat} (h : ∀ a, Q a ↔ P a ∨ a = w) (hw : ¬ P w) (hc : w < c) : cN Q c = cN P c + 1 := by
  rw [cN_split h (fun a z y => hw (y ▸ z)) c, cN_one, cif_t hc]
theorem cN_lt {P : Nat → Prop} {w : Nat} : ∀ (c : Nat), w < c → ¬ P w → cN P c < c
  | 0, h, _ => absurd h (Nat.not_lt_zero _)
  | c + 1, h, hw => by
    by_cases hc : w = c
    · subst hc; rw [cN_f hw]; have := cN_le (P := P) w; omega
    · have := cN_lt (P := P) c (by omega) hw
      by_cases hp : P c
      · rw [cN_t hp]; omega
      · rw [cN_f hp]; omega
theorem nx_nn {S : St} {e : Nat} {bf : Option Nat} : ∀ (c : Nat), nx S e bf c = none → ∀ x, x < c → timeP S e x → ¬ bef S e bf x
  | 0, _, _, h, _ => absurd h (Nat.not_lt_zero _)
  | c + 1, h, x, hx, ht => by
    by_cases hz : timeP S e c ∧ bef S e bf c ∧ bet S e c (nx S e bf c)
    · rw [nx_t hz] at h; cases h
    · rw [nx_f hz] at h
      by_cases hxc : x = c
      · subst hxc
        intro hb
        exact hz ⟨ht, hb, by rw [h]; trivial⟩
      · exact nx_nn c h x (by omega) ht
theorem nx_some {S : St} {e : Nat} {bf : Option Nat} : ∀ (c : Nat) {w : Nat}, nx S e bf c = some w → bef S e bf w ∧ ∀ x, x < c → timeP S e x → bef S e bf x → x = w ∨ aheadP S e w x
  | 0, _, h => by cases h
  | c + 1, w, h => by
    by_cases hz : timeP S e c ∧ bef S e bf c ∧ bet S e c (nx S e bf c)
    · rw [nx_t hz] at h
      cases h
      refine ⟨hz.2.1, fun x hx ht hb => ?_⟩
      by_cases hxc : x = c
      · exact Or.inl hxc
      · have hb3 := hz.2.2
        cases hn : nx S e bf c with
        | none => exact absurd hb (nx_nn c hn x (by omega) ht)
        | some v =>
          rw [hn] at hb3
          have hb3 : aheadP S e c v := hb3
          rcases (nx_some c hn).2 x (by omega) ht hb with r | r
          · subst r; exact Or.inr hb3
          · exact Or.inr (ah_tr hb3 r)
    · rw [nx_f hz] at h
      obtain ⟨h1, h2⟩ := nx_some c h
      refine ⟨h1, fun x hx ht hb => ?_⟩
      by_cases hxc : x = c
      · subst hxc
        have hnb : ¬ bet S e x (nx S e bf x) := fun z => hz ⟨ht, hb, z⟩
        rw [h] at hnb
        have hnb : ¬ aheadP S e x w := hnb
        have hne : ¬ x = w := fun z => by
          have := (nx_in x h).1
          omega
        exact Or.inr ((ah_tot hne).resolve_left hnb)
      · exact h2 x (by omega) ht hb
noncomputable def rk (S : St) (e a : Nat) : Nat := cN (fun x => timeP S e x ∧ aheadP S e x a) 16
theorem nx_ahead {S : St} {e b w : Nat} (hb : timeP S e b) (h : nx S e (some b) 16 = some w) (hl : ∀ x, timeP S e x → x < 16) : ∀ x, (timeP S e x ∧ aheadP S e x w) ↔ (timeP S e x ∧ aheadP S e x b) ∨ x = b := by
  obtain ⟨h1, h2⟩ := nx_some 16 h
  have h1 : aheadP S e b w := h1
  intro x
  constructor
  · rintro ⟨ht, ha⟩
    by_cases hxb : x = b
    · exact Or.inr hxb
    · rcases ah_tot hxb with r | r
      · exact Or.inl ⟨ht, r⟩
      · rcases h2 x (hl x ht) ht r with q | q
        · subst q; exact absurd ha ah_irr
        · exact (ah_as ha q).elim
  · rintro (⟨ht, ha⟩ | rfl)
    · exact ⟨ht, ah_tr ha h1⟩
    · exact ⟨hb, h1⟩
theorem nx_first {S : St} {e w : Nat} (h : nx S e none 16 = some w) (hl : ∀ x, timeP S e x → x < 16) : ∀ x, ¬ (timeP S e x ∧ aheadP S e x w) := by
  obtain ⟨-, h2⟩ := nx_some 16 h
  rintro x ⟨ht, ha⟩
  rcases h2 x (hl x ht) ht trivial with q | q
  · subst q; exact ah_irr ha
  · exact ah_as ha q
theorem io_rk {S : St} {e : Nat} (hl : ∀ x, timeP S e x → x < 16) : ∀ (k : Nat) {w : Nat}, io S e k = some w → rk S e w = k
  | 0, w, h => cN_zero 16 (fun a _ => nx_first h hl a)
  | k + 1, w, h => by
    cases hz : io S e k with
    | none => rw [io_n hz] at h; cases h
    | some b =>
      rw [io_s hz] at h
      have hb := io_time k hz
      have ih := io_rk hl k hz
      unfold rk at ih ⊢
      rw [cN_add (nx_ahead hb h hl) (fun z => ah_irr z.2) (hl b hb), ih]
theorem ah_max {S : St} {e : Nat} {Q : Nat → Prop} : ∀ (c : Nat), (∃ x, x < c ∧ Q x) → ∃ p, p < c ∧ Q p ∧ ∀ x, x < c → Q x → x = p ∨ aheadP S e x p
  | 0, ⟨_, h, _⟩ => absurd h (Nat.not_lt_zero _)
  | c + 1, ⟨x, hx, hq⟩ => by
    by_cases hex : ∃ y, y < c ∧ Q y
    · obtain ⟨p, hp, hqp, hm⟩ := ah_max c hex
      by_cases hc : Q c
      · have hne : ¬ c = p := by omega
        rcases ah_tot (S := S) (e := e) hne with r | r
        · refine ⟨p, by omega, hqp, fun y hy hqy => ?_⟩
          by_cases hyc : y = c
          · subst hyc; exact Or.inr r
          · exact hm y (by omega) hqy
        · refine ⟨c, by omega, hc, fun y hy hqy => ?_⟩
          by_cases hyc : y = c
          · exact Or.inl hyc
          · rcases hm y (by omega) hqy with q | q
            · subst q; exact Or.inr r
            · exact Or.inr (ah_tr q r)
      · exact ⟨p, by omega, hqp, fun y hy hqy => hm y (Nat.lt_of_le_of_ne (by omega) (fun z => hc (z ▸ hqy))) hqy⟩
    · have hxc : x = c := Classical.byContradiction (fun z => hex ⟨x, by omega, hq⟩)
      subst hxc
      exact ⟨x, by omega, hq, fun y hy hqy => Or.inl (Classical.byContradiction (fun z => hex ⟨y, by omega, hqy⟩))⟩
theorem rk_io {S : St} {e : Nat} (hl : ∀ x, timeP S e x → x < 16) : ∀ (r : Nat) {b : Nat}, timeP S e b → rk S e b = r → io S e r = some b := by
  intro r
  induction r using Nat.strongRecOn with
  | ind r ih =>
    intro b hb hr
    by_cases hex : ∃ x, x < 16 ∧ (timeP S e x ∧ aheadP S e x b)
    · obtain ⟨p, hp, hqp, hm⟩ := ah_max (S := S) (e := e) 16 hex
      have hpb : rk S e b = rk S e p + 1 := by
        unfold rk
        refine cN_add (w := p) (fun x => ⟨fun z => ?_, fun z => ?_⟩) (fun z => ah_irr z.2) hp
        · rcases hm x (hl x z.1) z with q | q
          · exact Or.inr q
          · exact Or.inl ⟨z.1, q⟩
        · rcases z with z | rfl
          · exact ⟨z.1, ah_tr z.2 hqp.2⟩
          · exact hqp
      have hio := ih (rk S e p) (by omega) hqp.1 rfl
      rw [show r = rk S e p + 1 by omega, io_s hio]
      cases hn : nx S e (some p) 16 with
      | none => exact absurd hqp.2 (nx_nn 16 hn b (hl b hb) hb)
      | some w =>
        obtain ⟨h1, h2⟩ := nx_some 16 hn
        have h1 : aheadP S e p w := h1
        rcases h2 b (hl b hb) hb hqp.2 with q | q
        · rw [q]
        · rcases hm w (nx_in 16 hn).1 ⟨(nx_in 16 hn).2, q⟩ with t | t
          · subst t; exact absurd h1 ah_irr
          · exact (ah_as h1 t).elim
    · have h0 : rk S e b = 0 := cN_zero 16 (fun a ha z => hex ⟨a, ha, z⟩)
      rw [show r = 0 by omega]
      show nx S e none 16 = some b
      cases hn : nx S e none 16 with
      | none => exact absurd trivial (nx_nn 16 hn b (hl b hb) hb)
      | some w =>
        rcases (nx_some 16 hn).2 b (hl b hb) hb trivial with q | q
        · rw [q]
        · exact absurd ⟨w, (nx_in 16 hn).1, (nx_in 16 hn).2, q⟩ hex
theorem io_end {S : St} {e : Nat} (hl : ∀ x, timeP S e x → x < 16) : ∀ (k : Nat), io S e k = none → cN (timeP S e) 16 ≤ k
  | 0, h => by
    have : cN (timeP S e) 16 = 0 := cN_zero 16 (fun a ha z => nx_nn 16 h a ha z trivial)
    omega
  | k + 1, h => by
    cases hz : io S e k with
    | none => have := io_end hl k hz; omega
    | some w =>
      rw [io_s hz] at h
      have hw := io_time k hz
      have hr := io_rk hl k hz
      have e1 : cN (timeP S e) 16 = cN (fun x => timeP S e x ∧ aheadP S e x w) 16 + 1 :=
        cN_add (w := w) (fun x => ⟨fun z => by
          by_cases hxw : x = w
          · exact Or.inr hxw
          · exact Or.inl ⟨z, (ah_tot hxw).resolve_right (fun t => nx_nn 16 h x (hl x z) z t)⟩, fun z => z.elim (fun y => y.1) (fun y => by rw [y]; exact hw)⟩) (fun z => ah_irr z.2) (hl w hw)
      unfold rk at hr
      omega
theorem atF_one {T : St} {k : Nat → Nat} {e w : Nat} {x : Int32} : ∀ (c : Nat), w < c → (timeP T e w ∧ cnt (aoP T e w 1) (k 0) = x) → (∀ v, v < c → (timeP T e v ∧ cnt (aoP T e v 1) (k 0) = x) → v = w) → atF T k e x c = nI w
  | 0, h, _, _ => absurd h (Nat.not_lt_zero _)
  | c + 1, h, hw, hu => by
    by_cases hz : timeP T e c ∧ cnt (aoP T e c 1) (k 0) = x
    · rw [atF_t hz, hu c (by omega) hz]
    · have hne : ¬ w = c := fun y => hz (y ▸ hw)
      rw [atF_f hz, atF_one c (by omega) hw (fun v hv => hu v (by omega))]
theorem atF_no {T : St} {k : Nat → Nat} {e : Nat} {x : Int32} : ∀ (c : Nat), (∀ v, v < c → ¬ (timeP T e v ∧ cnt (aoP T e v 1) (k 0) = x)) → atF T k e x c = -1
  | 0, _ => rfl
  | c + 1, h => by rw [atF_f (h c (by omega)), atF_no c (fun v hv => h v (by omega))]
theorem ao_rk {T : St} {k : Nat → Nat} (hW : WF T k) (hN : NE T) {e a : Nat} : cnt (aoP T e a 1) (k 0) = nI (rk T e a) := by
  rw [← cnt_16 (P := aoP T e a 1) hW.1 (fun b hb z => absurd (time_lt hW hN z.1).2 (by omega)), cnt_N]
  unfold rk
  rw [cN_congr (P := aoP T e a 1) (Q := fun x => timeP T e x ∧ aheadP T e x a) 16 (fun b _ => ⟨fun z => ⟨z.1, z.2.elim Or.inl (fun y => Or.inr y.2)⟩, fun z => ⟨z.1, z.2.elim Or.inl (fun y => Or.inr ⟨rfl, y⟩)⟩⟩)]
theorem rk_lt {T : St} {e a : Nat} (ha : a < 16) : rk T e a < 16 := cN_lt 16 ha (fun z => ah_irr z.2)
theorem tl {T : St} {k : Nat → Nat} (hW : WF T k) (hN : NE T) {e : Nat} : ∀ x, timeP T e x → x < 16 := fun x h => by
  have h1 := (time_lt hW hN h).2
  have h2 := hW.1
  omega
theorem at_some {T : St} {k : Nat → Nat} (hW : WF T k) (hN : NE T) {e w : Nat} {y : Int32} (h : ordn T e y = some w) : atF T k e y (k 0) = nI w := by
  unfold ordn at h
  by_cases hz : ix y 16
  · rw [cif_t hz] at h
    obtain ⟨a, ha, rfl⟩ := hz
    rw [nI_clamp (by omega)] at h
    have hw := io_time a h
    have hr := io_rk (tl hW hN) a h
    refine atF_one (k 0) (time_lt hW hN hw).2 ⟨hw, by rw [ao_rk hW hN, hr]⟩ (fun v hv hA => ?_)
    have h1 := hA.2
    rw [ao_rk hW hN] at h1
    have h2 : rk T e v = a := (nI_eq (by have := rk_lt (T := T) (e := e) (tl hW hN v hA.1); omega) (by omega)).mp h1
    have h3 := rk_io (tl hW hN) a hA.1 h2
    rw [h] at h3
    exact (Option.some.inj h3).symm
  · rw [cif_f hz] at h; cases h
theorem at_none {T : St} {k : Nat → Nat} (hW : WF T k) (hN : NE T) {e : Nat} {y : Int32} (h : ordn T e y = none) : atF T k e y (k 0) = -1 := by
  refine atF_no (k 0) (fun v hv hA => ?_)
  have h1 := hA.2
  rw [ao_rk hW hN] at h1
  have hlt := rk_lt (T := T) (e := e) (tl hW hN v hA.1)
  have h3 := rk_io (tl hW hN) _ hA.1 rfl
  unfold ordn at h
  rw [cif_t ⟨_, hlt, h1.symm⟩, ← h1, nI_clamp (by omega), h3] at h
  cases h
