/-! LISTS: what their methods ask, and a new row in the place of an old one. -/
theorem sf_mod : Cond.sameField "java/util/ArrayList" "java/util/AbstractList" "modCount" "I" ∈ G0 := List.mem_filter.mpr ⟨List.mem_append_right _ (List.mem_of_getElem? (i := 49) (by decide +kernel)), by decide +kernel⟩
/-- a new cell at a loose role takes the place of another role -/
theorem GW.take {D : va_G} {B : Nat} {ad : Ad} {V : Rl} {H : Heap} {a b c q : Nat} {e : va_E} (h : GW D B (up3 ad a b c q) (up3 V a b c (some e)) H) (hn : V a b c = none) {t i j : Nat} (hne : ¬ (t = a ∧ i = b ∧ j = c)) : GW D B (up3 ad t i j q) (up3 V t i j (some e)) H := by
  have key : ∀ (x y z : Nat) (e' : va_E), up3 V t i j (some e) x y z = some e' → (x = t ∧ y = i ∧ z = j ∧ e' = e ∧ up3 ad t i j q x y z = q) ∨ (¬ (x = t ∧ y = i ∧ z = j) ∧ ¬ (x = a ∧ y = b ∧ z = c) ∧ V x y z = some e' ∧ up3 ad t i j q x y z = ad x y z) := by
    intro x y z e' hx
    by_cases hz : x = t ∧ y = i ∧ z = j
    · obtain ⟨rfl, rfl, rfl⟩ := hz
      rw [up3_self] at hx
      cases hx
      exact Or.inl ⟨rfl, rfl, rfl, rfl, up3_self⟩
    · rw [up3_ne hz] at hx
      refine Or.inr ⟨hz, ?_, hx, up3_ne hz⟩
      rintro ⟨rfl, rfl, rfl⟩
      rw [hn] at hx; cases hx
  have hnew : up3 V a b c (some e) a b c = some e := up3_self
  have anew : up3 ad a b c q a b c = q := up3_self
  have old : ∀ (x y z : Nat) (e' : va_E), ¬ (x = a ∧ y = b ∧ z = c) → V x y z = some e' → up3 V a b c (some e) x y z = some e' ∧ up3 ad a b c q x y z = ad x y z := fun x y z e' h1 h2 => ⟨(up3_ne h1).trans h2, up3_ne h1⟩
  refine ⟨fun x y z e' hx => ?_, fun x y z e' x' y' z' e'' hx hx' ha => ?_⟩
  · rcases key x y z e' hx with ⟨-, -, -, rfl, h5⟩ | ⟨-, h2, h3, h4⟩
    · rw [h5]
      have := h.1 a b c _ hnew
      rw [anew] at this
      exact this
    · obtain ⟨g1, g2⟩ := old x y z e' h2 h3
      rw [h4, ← g2]
      exact h.1 x y z _ g1
  · rcases key x y z e' hx with ⟨h1, h2, h3, -, h5⟩ | ⟨h1, h2, h3, h4⟩ <;> rcases key x' y' z' e'' hx' with ⟨g1, g2, g3, -, g5⟩ | ⟨g1, g2, g3, g4⟩
    · exact ⟨h1.trans g1.symm, h2.trans g2.symm, h3.trans g3.symm⟩
    · obtain ⟨w1, w2⟩ := old x' y' z' e'' g2 g3
      rw [h5, g4, ← w2] at ha
      have := h.2 a b c _ x' y' z' _ hnew w1 (anew.trans ha)
      exact absurd ⟨this.1.symm, this.2.1.symm, this.2.2.symm⟩ g2
    · obtain ⟨w1, w2⟩ := old x y z e' h2 h3
      rw [g5, h4, ← w2] at ha
      have := h.2 x y z _ a b c _ w1 hnew (ha.trans anew.symm)
      exact absurd this h2
    · obtain ⟨w1, w2⟩ := old x y z e' h2 h3
      obtain ⟨v1, v2⟩ := old x' y' z' e'' g2 g3
      rw [h4, g4, ← w2, ← v2] at ha
      exact h.2 x y z _ x' y' z' _ w1 v1 ha
/-- a list of w things -/
def isL (de : Nat) (cy : Nat → ClassId) (ad : Ad) (X : Rl) (t i j t2 i2 j2 : Nat) (mo : Int32) (w : Nat) (f : Nat → Option Nat) : Prop := X t i j = some (.inr (0, [.int mo, .ref (if w = 0 then de else ad t2 i2 j2), .int (nI w)])) ∧ X t2 i2 j2 = if 0 < w then some (eQ (cy 6) (capL w) f) else none
def cutF (f : Nat → Option Nat) (w : Nat) : Nat → Option Nat := fun k => if k < w then f k else none
theorem cutF_0 {f : Nat → Option Nat} : cutF f 0 = fun _ => none := funext fun k => if_neg (Nat.not_lt_zero k)
theorem cutF_id {f : Nat → Option Nat} {w : Nat} (h : ∀ k, w ≤ k → f k = none) : cutF f w = f := by
  funext k
  unfold cutF
  by_cases hk : k < w
  · rw [if_pos hk]
  · rw [if_neg hk, h k (by omega)]
theorem cap_room {w : Nat} (h0 : 0 < w) (h1 : w < capL w) (h22 : w ≤ 16) : capL (w + 1) = capL w := (by decide : ∀ w, w < 17 → 0 < w → w < capL w → capL (w + 1) = capL w) w (by omega) h0 h1
theorem cap_full {w : Nat} (h1 : ¬ w < capL w) (h22 : w ≤ 16) : w = 10 ∨ w = 15 := (by decide : ∀ w, w < 17 → ¬ w < capL w → w = 10 ∨ w = 15) w (by omega) h1
theorem cap_lt {w : Nat} (h22 : w ≤ 16) : w < capL (w + 1) := (by decide : ∀ w, w < 17 → w < capL (w + 1)) w (by omega)
/-- elements outlive a new cell, and a change of an object's fields -/
theorem okEl.new {ad : Ad} {X : Rl} {f : Nat → Option Nat} {n t i j q : Nat} {e : va_E} (h : okEl ad X f n) (hn : X t i j = none) : okEl (up3 ad t i j q) (up3 X t i j (some e)) f n := by
  intro a ha y hy
  obtain ⟨t', i', j', ci, fs, r, rfl, hV, hc, hr⟩ := h a ha y hy
  have hne : ¬ (t' = t ∧ i' = i ∧ j' = j) := by
    rintro ⟨rfl, rfl, rfl⟩
    rw [hn] at hV; cases hV
  exact ⟨t', i', j', ci, fs, r, (up3_ne hne).symm, (up3_ne hne).trans hV, hc, hr⟩
theorem okEl.up {ad : Ad} {X : Rl} {f : Nat → Option Nat} {n t i j c0 : Nat} {fs0 fs1 : List Value} (h : okEl ad X f n) (h0 : X t i j = some (.inr (c0, fs0))) : okEl ad (up3 X t i j (some (.inr (c0, fs1)))) f n := by
  intro a ha y hy
  obtain ⟨t', i', j', ci, fs, r, rfl, hV, hc, hr⟩ := h a ha y hy
  by_cases hz : t' = t ∧ i' = i ∧ j' = j
  · obtain ⟨rfl, rfl, rfl⟩ := hz
    have e : (ci, fs) = (c0, fs0) := Sum.inr.inj (Option.some.inj (hV.symm.trans h0))
    cases e
    exact ⟨_, _, _, _, fs1, r, rfl, up3_self, hc, hr⟩
  · exact ⟨t', i', j', ci, fs, r, rfl, (up3_ne hz).trans hV, hc, hr⟩
section BS2
variable {p : Program} {l : Launch} {e : Env} {R : Room} {s : State} {m : MethodId} {args : Array Value} {below : List Frame} {meth : Method} {c : Code} {H : Heap} {locs : List Loc} {cells slots : Nat} {Q : State → Prop}
variable {pc : Nat} {ls : Array Slot} {rest : List Value} {v w u : Value} {x b y d : Nat}
theorem bn_c (h : x = b) (h2 : y = d) (k : W p l e R s m args below meth c H locs cells slots Q (F0 m pc ls (v :: u :: .ref x :: w :: .ref y :: rest))) : W p l e R s m args below meth c H locs cells slots Q (F0 m pc ls (v :: u :: .ref b :: w :: .ref d :: rest)) := by subst h; subst h2; exact k
theorem bn_d (h : x = b) (h2 : y = d) (k : W p l e R s m args below meth c H locs cells slots Q (F0 m pc ls (.ref x :: w :: .ref y :: rest))) : W p l e R s m args below meth c H locs cells slots Q (F0 m pc ls (.ref b :: w :: .ref d :: rest)) := by subst h; subst h2; exact k
theorem bn_e (h : x = b) (h2 : y = d) (k : W p l e R s m args below meth c H locs cells slots Q (F0 m pc ls (.ref x :: .ref y :: rest))) : W p l e R s m args below meth c H locs cells slots Q (F0 m pc ls (.ref b :: .ref d :: rest)) := by subst h; subst h2; exact k
end BS2
section MM
variable {p : Program} {l : Launch} {e : Env} {R : Room} {s : State} {m : MethodId} {args : Array Value} {below : List Frame} {meth : Method} {c : Code} {H : Heap} {locs : List Loc} {cells slots : Nat} {Q : State → Prop}
variable {cc : ByteArray} {pc nL : Nat} {ls : Array Slot} {rest : List Value} {own : String} {D : va_G} {cy : Nat → ClassId} {sa : Nat → Nat} {de B : Nat} {x y : Int32} {idx : Nat}
theorem k_max (hC : Cx p m c cc nL s args own D cy sa de B) (wl : Cond.methodLink own idx yJ9_max_7cf53 ∈ G0) (hsz : ls.size = nL) (hf : 1 ≤ R.frames) (hl : (rest.map fun v => v.category).sum + 13 ≤ R.locals) (hc : cells ≤ R.cells) (hs : slots ≤ R.slots) (hdg : decode cc pc = .ok (.invokestatic idx, 3))
    (kk : W p l e R s m args below meth c H locs cells slots Q (F0 m (pc + 3) ls (.int (if x < y then y else x) :: rest))) : W p l e R s m args below meth c H locs cells slots Q (F0 m pc ls (.int y :: .int x :: rest)) :=
  va_mmax hC.x hC.b (hC.l.trans hsz.symm) hC.o (hC.t _ wl) (hC.t _ sm_J9_max_7cf53) (hC.t _ in_J9) (hC.t _ cd_J9_max_7cf53) hf hl hc hs hdg kk
theorem k_min (hC : Cx p m c cc nL s args own D cy sa de B) (wl : Cond.methodLink own idx yJ9_min_7cf53 ∈ G0) (hsz : ls.size = nL) (hf : 1 ≤ R.frames) (hl : (rest.map fun v => v.category).sum + 13 ≤ R.locals) (hc : cells ≤ R.cells) (hs : slots ≤ R.slots) (hdg : decode cc pc = .ok (.invokestatic idx, 3))
    (kk : W p l e R s m args below meth c H locs cells slots Q (F0 m (pc + 3) ls (.int (if y < x then y else x) :: rest))) : W p l e R s m args below meth c H locs cells slots Q (F0 m pc ls (.int y :: .int x :: rest)) :=
  va_mmin hC.x hC.b (hC.l.trans hsz.symm) hC.o (hC.t _ wl) (hC.t _ sm_J9_min_7cf53) (hC.t _ in_J9) (hC.t _ cd_J9_min_7cf53) hf hl hc hs hdg kk
end MM
set_option maxHeartbeats 4000000 in
set_option maxRecDepth 100000 in
theorem c_J8_newLength_cabcc (l : Launch) {D : va_G} {cy : Nat → ClassId} {sa : Nat → Nat} {de B : Nat} {ad : Ad} {X : Rl} {x y z : Int32} {v : Nat}  : Met l yJ8_newLength_cabcc (Cond.code yJ8_newLength_cabcc cJ8_newLength_cabcc 4 (Option.some Jvm.ClassFile.FieldType.int) :: G0) ({ frames := 1, cells := 0, slots := 0, locals := 30 } : Room) (va_Pc [.int x, .int y, .int z] (PW D cy sa de B ad (X) ((x = nI 10 ∧ y = 1 ∧ z = 5 ∧ v = 15) ∨ (x = nI 15 ∧ y = 1 ∧ z = 7 ∧ v = 22)))) (vp_Si (fun r => r = nI v)) 0 0 (fun _ => False) := by
  refine E_met (own := RJ8) rfl rfl (Nat.le_of_ble_eq_true rfl) ?_
  intro p e s m below meth c hC hr hlk hnm hG h0 ls hl
  have hx := hC.x
  have hb := hC.b
  have hS : va_S (AB B) s.heap s.heap [] := va_S.rf
  have hl : lo ls 4 [some (.int x), some (.int y), some (.int z), none] := lo_of hl
  rcases h0 with ⟨rfl, rfl, rfl, rfl⟩ | ⟨rfl, rfl, rfl, rfl⟩
  · skip
    skip
    refine o_iload_n hx hb dJ8_newLength_cabcc_0 hl rfl ?_
    refine o_iload_n hx hb dJ8_newLength_cabcc_1 hl rfl ?_
    refine o_iload_n hx hb dJ8_newLength_cabcc_2 hl rfl ?_
    refine k_max hC ml_J8_194 hl.1 (Nat.le_of_ble_eq_true rfl) (Nat.le_of_ble_eq_true rfl) (Nat.le_of_ble_eq_true rfl) (Nat.le_of_ble_eq_true rfl) dJ8_newLength_cabcc_3 ?_
    refine lv_iadd hx hb dJ8_newLength_cabcc_6 ?_
    refine o_istore_n hx hb dJ8_newLength_cabcc_7 hl (by decide) rfl (fun ls hl => ?_)
    refine lv_iconst (v := 0) hx hb dJ8_newLength_cabcc_8 (by decide) ?_
    refine o_iload_n hx hb dJ8_newLength_cabcc_9 hl rfl ?_
    refine lv_icmp_ge (tgt := 21) hx hb dJ8_newLength_cabcc_10 (by decide) (fun h10 => ?_) (fun h10 => ?_)
    · exact absurd h10 (by decide)
    · skip
      refine o_iload_n hx hb dJ8_newLength_cabcc_13 hl rfl ?_
      refine lv_ldc hx hb hC.o (hC.t _ ct_J8_200) dJ8_newLength_cabcc_14 ?_
      refine lv_icmp_gt (tgt := 21) hx hb dJ8_newLength_cabcc_16 (by decide) (fun h16 => ?_) (fun h16 => ?_)
      · exact absurd h16 (by decide)
      · skip
        refine o_iload_n hx hb dJ8_newLength_cabcc_19 hl rfl ?_
        exact R_i hC hr hlk rfl (by decide) dJ8_newLength_cabcc_20
  · skip
    skip
    refine o_iload_n hx hb dJ8_newLength_cabcc_0 hl rfl ?_
    refine o_iload_n hx hb dJ8_newLength_cabcc_1 hl rfl ?_
    refine o_iload_n hx hb dJ8_newLength_cabcc_2 hl rfl ?_
    refine k_max hC ml_J8_194 hl.1 (Nat.le_of_ble_eq_true rfl) (Nat.le_of_ble_eq_true rfl) (Nat.le_of_ble_eq_true rfl) (Nat.le_of_ble_eq_true rfl) dJ8_newLength_cabcc_3 ?_
    refine lv_iadd hx hb dJ8_newLength_cabcc_6 ?_
    refine o_istore_n hx hb dJ8_newLength_cabcc_7 hl (by decide) rfl (fun ls hl => ?_)
    refine lv_iconst (v := 0) hx hb dJ8_newLength_cabcc_8 (by decide) ?_
    refine o_iload_n hx hb dJ8_newLength_cabcc_9 hl rfl ?_
    refine lv_icmp_ge (tgt := 21) hx hb dJ8_newLength_cabcc_10 (by decide) (fun h10 => ?_) (fun h10 => ?_)
    · exact absurd h10 (by decide)
    · skip
      refine o_iload_n hx hb dJ8_newLength_cabcc_13 hl rfl ?_
      refine lv_ldc hx hb hC.o (hC.t _ ct_J8_200) dJ8_newLength_cabcc_14 ?_
      refine lv_icmp_gt (tgt := 21) hx hb dJ8_newLength_cabcc_16 (by decide) (fun h16 => ?_) (fun h16 => ?_)
      · exact absurd h16 (by decide)
      · skip
        refine o_iload_n hx hb dJ8_newLength_cabcc_19 hl rfl ?_
        exact R_i hC hr hlk rfl (by decide) dJ8_newLength_cabcc_20
theorem k_J8_newLength_cabcc {p : Program} {l : Launch} {e : Env} {R : Room} {s : State} {m : MethodId} {args : Array Value} {below : List Frame} {meth : Method} {c : Code} {H : Heap} {locs : List Loc} {cells slots : Nat} {Q : State → Prop} {cc : ByteArray} {pc nL : Nat} {ls : Array Slot} {rest : List Value} {own : String} {D : va_G} {cy : Nat → ClassId} {sa : Nat → Nat} {de B : Nat} {ad : Ad} {X : Rl} {x y z : Int32} {v : Nat}  (hC : Cx p m c cc nL s args own D cy sa de B) (hS : va_S (AB B) s.heap H locs) (hG : GW D B ad (X) H) (h0 : (x = nI 10 ∧ y = 1 ∧ z = 5 ∧ v = 15) ∨ (x = nI 15 ∧ y = 1 ∧ z = 7 ∧ v = 22))  {idx : Nat} (wl : Cond.methodLink own idx yJ8_newLength_cabcc ∈ G0) (hR : 1 + 1 ≤ R.frames ∧ 8 + (4 + 11) + 30 ≤ R.locals) (hsz : ls.size = nL) (hst : (rest.map fun v => v.category).sum ≤ 8) (hdg : decode cc pc = .ok (.invokestatic idx, 3)) (hcs : cells + 0 ≤ R.cells ∧ slots + 0 ≤ R.slots) (kk : W p l e R s m args below meth c H locs cells slots Q (F0 m (pc + 3) ls (.int (nI v) :: rest))) : W p l e R s m args below meth c H locs cells slots Q (F0 m pc ls (.int z :: .int y :: .int x :: rest)) :=
  vp_callSi (va_Run.run (rS hC hS hG h0 (As := [.int x, .int y, .int z]) (c_J8_newLength_cabcc l) ⟨rfl, rfl⟩ wl sm_J8_newLength_cabcc in_J8 cd_J8_newLength_cabcc (n := 3) (by decide +kernel) hR rfl hsz hst rfl hdg hcs)) (fun r hr => by subst hr; exact kk)
set_option maxHeartbeats 4000000 in
set_option maxRecDepth 100000 in
theorem c_Jxa1e45_init_da8c8 (l : Launch) {D : va_G} {cy : Nat → ClassId} {sa : Nat → Nat} {de B : Nat} {ad : Ad} {X : Rl} {b : Nat}  : Met l yJxa1e45_init_da8c8 (Cond.code yJxa1e45_init_da8c8 cJxa1e45_init_da8c8 1 (Option.none : Option Jvm.ClassFile.FieldType) :: G0) ({ frames := 1, cells := 0, slots := 0, locals := 13 } : Room) (va_Pc [.ref b] (PW D cy sa de B ad (X) (True))) (oV B (fun H => GW D B ad X H)) 0 0 (AB B) := by
  refine E_met (own := RJxa1e45) rfl rfl (Nat.le_of_ble_eq_true rfl) ?_
  intro p e s m below meth c hC hr hlk hnm hG h0 ls hl
  have hx := hC.x
  have hb := hC.b
  have hS : va_S (AB B) s.heap s.heap [] := va_S.rf
  have hl : lo ls 1 [some (.ref b)] := lo_of hl
  refine o_aload_n hx hb dJxa1e45_init_da8c8_0 hl rfl ?_
  refine o_oinit hC ml_Jxa1e45_1 hl.1 (Nat.le_of_ble_eq_true rfl) (Nat.le_of_ble_eq_true rfl) dJxa1e45_init_da8c8_1 ?_
  exact R_V hC hS hr hlk (hG) (Nat.le_of_ble_eq_true rfl) (Nat.le_of_ble_eq_true rfl) dJxa1e45_init_da8c8_4
theorem k_Jxa1e45_init_da8c8 {p : Program} {l : Launch} {e : Env} {R : Room} {s : State} {m : MethodId} {args : Array Value} {below : List Frame} {meth : Method} {c : Code} {H : Heap} {locs : List Loc} {cells slots : Nat} {Q : State → Prop} {cc : ByteArray} {pc nL : Nat} {ls : Array Slot} {rest : List Value} {own : String} {D : va_G} {cy : Nat → ClassId} {sa : Nat → Nat} {de B : Nat} {ad : Ad} {X : Rl} {b : Nat}  (hC : Cx p m c cc nL s args own D cy sa de B) (hS : va_S (AB B) s.heap H locs) (hG : GW D B ad (X) H) (h0 : True)  {idx : Nat} (wl : Cond.methodLink own idx yJxa1e45_init_da8c8 ∈ G0) (hR : 1 + 1 ≤ R.frames ∧ 8 + (1 + 11) + 13 ≤ R.locals) (hsz : ls.size = nL) (hst : (rest.map fun v => v.category).sum ≤ 8) (hdg : decode cc pc = .ok (.invokespecial idx, 3)) (hcs : cells + 0 ≤ R.cells ∧ slots + 0 ≤ R.slots) (kk : ∀ (H1 : Heap) (locs1 : List Loc), ((fun H => GW D B ad X H)) H1 → va_S (AB B) s.heap H1 locs1 → W p l e R s m args below meth c H1 locs1 cells slots Q (F0 m (pc + 3) ls (rest))) : W p l e R s m args below meth c H locs cells slots Q (F0 m pc ls (.ref b :: rest)) :=
  va_callv (rI hC hS hG h0 (As := []) (c_Jxa1e45_init_da8c8 l) ⟨rfl, rfl⟩ wl im_Jxa1e45_init_da8c8 in_Jxa1e45 cd_Jxa1e45_init_da8c8 rfl (n := 0) (by decide +kernel) hR rfl hsz hst rfl hdg hcs) hS (fun _ _ h => h) (fun _ h => h) (fun u t H1 locs1 ht _ _ hB _ _ hS1 => kk H1 locs1 (by (try dsimp only at hB); rw [ht] at hB; exact hB) hS1)
set_option maxHeartbeats 4000000 in
set_option maxRecDepth 100000 in
theorem c_Jxc12de_init_da8c8 (l : Launch) {D : va_G} {cy : Nat → ClassId} {sa : Nat → Nat} {de B : Nat} {ad : Ad} {X : Rl} {t i j : Nat}  : Met l yJxc12de_init_da8c8 (Cond.code yJxc12de_init_da8c8 cJxc12de_init_da8c8 1 (Option.none : Option Jvm.ClassFile.FieldType) :: G0) ({ frames := 2, cells := 0, slots := 0, locals := 33 } : Room) (va_Pc [.ref (ad t i j)] (PW D cy sa de B ad (X) (X t i j = some (.inr (0, [.int 0, .null, .int 0]))))) (oV B (fun H => GW D B ad (up3 X t i j (some (.inr (0, [.int 0, .null, .int 0])))) H)) 0 0 (AB B) := by
  refine E_met (own := RJxc12de) rfl rfl (Nat.le_of_ble_eq_true rfl) ?_
  intro p e s m below meth c hC hr hlk hnm hG h0 ls hl
  have hx := hC.x
  have hb := hC.b
  have hS : va_S (AB B) s.heap s.heap [] := va_S.rf
  have hl : lo ls 1 [some (.ref (ad t i j))] := lo_of hl
  refine o_aload_n hx hb dJxc12de_init_da8c8_0 hl rfl ?_
  refine k_Jxa1e45_init_da8c8 hC hS hG trivial ml_Jxc12de_1 ⟨Nat.le_of_ble_eq_true rfl, Nat.le_of_ble_eq_true rfl⟩ hl.1 (Nat.le_of_ble_eq_true rfl) dJxc12de_init_da8c8_1 ⟨Nat.le_of_ble_eq_true rfl, Nat.le_of_ble_eq_true rfl⟩ (fun H locs hG hS => ?_)
  refine o_aload_n hx hb dJxc12de_init_da8c8_4 hl rfl ?_
  refine lv_iconst (v := 0) hx hb dJxc12de_init_da8c8_5 (by decide) ?_
  refine g_put hC hG hS us_Jx4a65c tyJx4a65c_ok nmJx4a65c rfl 0 (by decide) fl_Jxc12de_7 rfl h0 rfl rfl (Nat.le_of_ble_eq_true rfl) rfl dJxc12de_init_da8c8_6 (fun H locs hG hS => ?_)
  exact R_V hC hS hr hlk (hG) (Nat.le_of_ble_eq_true rfl) (Nat.le_of_ble_eq_true rfl) dJxc12de_init_da8c8_9
theorem k_Jxc12de_init_da8c8 {p : Program} {l : Launch} {e : Env} {R : Room} {s : State} {m : MethodId} {args : Array Value} {below : List Frame} {meth : Method} {c : Code} {H : Heap} {locs : List Loc} {cells slots : Nat} {Q : State → Prop} {cc : ByteArray} {pc nL : Nat} {ls : Array Slot} {rest : List Value} {own : String} {D : va_G} {cy : Nat → ClassId} {sa : Nat → Nat} {de B : Nat} {ad : Ad} {X : Rl} {t i j : Nat}  (hC : Cx p m c cc nL s args own D cy sa de B) (hS : va_S (AB B) s.heap H locs) (hG : GW D B ad (X) H) (h0 : X t i j = some (.inr (0, [.int 0, .null, .int 0])))  {idx : Nat} (wl : Cond.methodLink own idx yJxc12de_init_da8c8 ∈ G0) (hR : 2 + 1 ≤ R.frames ∧ 8 + (1 + 11) + 33 ≤ R.locals) (hsz : ls.size = nL) (hst : (rest.map fun v => v.category).sum ≤ 8) (hdg : decode cc pc = .ok (.invokespecial idx, 3)) (hcs : cells + 0 ≤ R.cells ∧ slots + 0 ≤ R.slots) (kk : ∀ (H1 : Heap) (locs1 : List Loc), ((fun H => GW D B ad (up3 X t i j (some (.inr (0, [.int 0, .null, .int 0])))) H)) H1 → va_S (AB B) s.heap H1 locs1 → W p l e R s m args below meth c H1 locs1 cells slots Q (F0 m (pc + 3) ls (rest))) : W p l e R s m args below meth c H locs cells slots Q (F0 m pc ls (.ref (ad t i j) :: rest)) :=
  va_callv (rI hC hS hG h0 (As := []) (c_Jxc12de_init_da8c8 l) ⟨rfl, rfl⟩ wl im_Jxc12de_init_da8c8 in_Jxc12de cd_Jxc12de_init_da8c8 rfl (n := 0) (by decide +kernel) hR rfl hsz hst rfl hdg hcs) hS (fun _ _ h => h) (fun _ h => h) (fun u t H1 locs1 ht _ _ hB _ _ hS1 => kk H1 locs1 (by (try dsimp only at hB); rw [ht] at hB; exact hB) hS1)
set_option maxHeartbeats 4000000 in
set_option maxRecDepth 100000 in
theorem c_Jx4a65c_init_da8c8 (l : Launch) {D : va_G} {cy : Nat → ClassId} {sa : Nat → Nat} {de B : Nat} {ad : Ad} {X : Rl} {t i j : Nat}  : Met l yJx4a65c_init_da8c8 (Cond.code yJx4a65c_init_da8c8 cJx4a65c_init_da8c8 1 (Option.none : Option Jvm.ClassFile.FieldType) :: G0) ({ frames := 3, cells := 0, slots := 0, locals := 53 } : Room) (va_Pc [.ref (ad t i j)] (PW D cy sa de B ad (X) (X t i j = some (.inr (0, [.int 0, .null, .int 0]))))) (oV B (fun H => GW D B ad (up3 X t i j (some (.inr (0, [.int 0, .ref de, .int 0])))) H)) 0 0 (AB B) := by
  refine E_met (own := RJx4a65c) rfl rfl (Nat.le_of_ble_eq_true rfl) ?_
  intro p e s m below meth c hC hr hlk hnm hG h0 ls hl
  have hx := hC.x
  have hb := hC.b
  have hS : va_S (AB B) s.heap s.heap [] := va_S.rf
  have hl : lo ls 1 [some (.ref (ad t i j))] := lo_of hl
  refine o_aload_n hx hb dJx4a65c_init_da8c8_0 hl rfl ?_
  refine k_Jxc12de_init_da8c8 hC hS hG h0 ml_Jx4a65c_1 ⟨Nat.le_of_ble_eq_true rfl, Nat.le_of_ble_eq_true rfl⟩ hl.1 (Nat.le_of_ble_eq_true rfl) dJx4a65c_init_da8c8_1 ⟨Nat.le_of_ble_eq_true rfl, Nat.le_of_ble_eq_true rfl⟩ (fun H locs hG hS => ?_)
  refine o_aload_n hx hb dJx4a65c_init_da8c8_4 hl rfl ?_
  refine g_getE hC hS fl_Jx4a65c_39 dJx4a65c_init_da8c8_5 ?_
  refine g_put hC hG hS us_Jx4a65c tyJx4a65c_ok nmJx4a65c rfl 1 (by decide) fl_Jx4a65c_9 rfl (show up3 X t i j _ t i j = _ from up3_self) rfl rfl (Nat.le_of_ble_eq_true rfl) up3_up3 dJx4a65c_init_da8c8_8 (fun H locs hG hS => ?_)
  exact R_V hC hS hr hlk (hG) (Nat.le_of_ble_eq_true rfl) (Nat.le_of_ble_eq_true rfl) dJx4a65c_init_da8c8_11
theorem k_Jx4a65c_init_da8c8 {p : Program} {l : Launch} {e : Env} {R : Room} {s : State} {m : MethodId} {args : Array Value} {below : List Frame} {meth : Method} {c : Code} {H : Heap} {locs : List Loc} {cells slots : Nat} {Q : State → Prop} {cc : ByteArray} {pc nL : Nat} {ls : Array Slot} {rest : List Value} {own : String} {D : va_G} {cy : Nat → ClassId} {sa : Nat → Nat} {de B : Nat} {ad : Ad} {X : Rl} {t i j : Nat}  (hC : Cx p m c cc nL s args own D cy sa de B) (hS : va_S (AB B) s.heap H locs) (hG : GW D B ad (X) H) (h0 : X t i j = some (.inr (0, [.int 0, .null, .int 0])))  {idx : Nat} (wl : Cond.methodLink own idx yJx4a65c_init_da8c8 ∈ G0) (hR : 3 + 1 ≤ R.frames ∧ 8 + (1 + 11) + 53 ≤ R.locals) (hsz : ls.size = nL) (hst : (rest.map fun v => v.category).sum ≤ 8) (hdg : decode cc pc = .ok (.invokespecial idx, 3)) (hcs : cells + 0 ≤ R.cells ∧ slots + 0 ≤ R.slots) (kk : ∀ (H1 : Heap) (locs1 : List Loc), ((fun H => GW D B ad (up3 X t i j (some (.inr (0, [.int 0, .ref de, .int 0])))) H)) H1 → va_S (AB B) s.heap H1 locs1 → W p l e R s m args below meth c H1 locs1 cells slots Q (F0 m (pc + 3) ls (rest))) : W p l e R s m args below meth c H locs cells slots Q (F0 m pc ls (.ref (ad t i j) :: rest)) :=
  va_callv (rI hC hS hG h0 (As := []) (c_Jx4a65c_init_da8c8 l) ⟨rfl, rfl⟩ wl im_Jx4a65c_init_da8c8 in_Jx4a65c cd_Jx4a65c_init_da8c8 rfl (n := 0) (by decide +kernel) hR rfl hsz hst rfl hdg hcs) hS (fun _ _ h => h) (fun _ h => h) (fun u t H1 locs1 ht _ _ hB _ _ hS1 => kk H1 locs1 (by (try dsimp only at hB); rw [ht] at hB; exact hB) hS1)
set_option maxHeartbeats 4000000 in
set_option maxRecDepth 100000 in
theorem c_J7_copyOf_6403c (l : Launch) {D : va_G} {cy : Nat → ClassId} {sa : Nat → Nat} {de B : Nat} {ad : Ad} {X : Rl} {f : Nat → Option Nat} {w v t i j t2 i2 j2 : Nat}  : Met l yJ7_copyOf_6403c (Cond.code yJ7_copyOf_6403c cJ7_copyOf_6403c 4 (Option.some (Jvm.ClassFile.FieldType.array (Jvm.ClassFile.FieldType.object "java/lang/Object"))) :: G0) ({ frames := 2, cells := 1, slots := 22, locals := 60 } : Room) (va_Pc [.ref (ad t i j), .int (nI v), .ref (sa 1000)] (PW D cy sa de B ad (X) (X t i j = some (eQ (cy 6) w f) ∧ w ≤ v ∧ v ≤ 22 ∧ okEl ad X f w ∧ X t2 i2 j2 = none))) (oQ B (fun r H => ∃ q, r = some q ∧ GW D B (up3 ad t2 i2 j2 q) (up3 X t2 i2 j2 (some (eQ (cy 6) v (cutF f w)))) H)) 1 22 (AB B) := by
  refine E_met (own := RJ7) rfl rfl (Nat.le_of_ble_eq_true rfl) ?_
  intro p e s m below meth c hC hr hlk hnm hG h0 ls hl
  have hx := hC.x
  have hb := hC.b
  have hS : va_S (AB B) s.heap s.heap [] := va_S.rf
  have hl : lo ls 4 [some (.ref (ad t i j)), some (.int (nI v)), some (.ref (sa 1000)), none] := lo_of hl
  obtain ⟨hXs, hwv, hv22, hok, hXd⟩ := h0
  have hne : ¬ (t2 = t ∧ i2 = i ∧ j2 = j) := by
    rintro ⟨rfl, rfl, rfl⟩
    rw [hXd] at hXs; cases hXs
  refine o_aload_n hx hb dJ7_copyOf_6403c_0 hl rfl ?_
  refine g_ldcM hC cl_J7_110 dJ7_copyOf_6403c_1 ?_
  refine lv_acmp_ne (tgt := 13) (rx := some (sa 1000)) (ry := some (sa 1000)) hx hb dJ7_copyOf_6403c_3 (by decide) (fun h3 => absurd rfl h3) (fun h3 => ?_)
  refine o_iload_n hx hb dJ7_copyOf_6403c_6 hl rfl ?_
  refine g_anew hC hG hS cl_J7_2 hC.k.2.2.2.2.2.2.2.1 6 rfl (n := nI v) (N' := v) (nI_pos (by omega)) (nI_clamp (by omega)) (by omega) (Nat.le_of_ble_eq_true rfl) (by show 0 + v ≤ 22; omega) t2 i2 j2 hXd dJ7_copyOf_6403c_7 (fun q H hG hS => ?_)
  refine W.widen (k := 1) (n := 22) (by omega) (by omega) ?_
  obtain ⟨ad1, had⟩ : ∃ z, z = up3 ad t2 i2 j2 q := ⟨_, rfl⟩
  rw [← had] at hG
  have ea : ad1 t i j = ad t i j := by rw [had]; exact up3_ne (fun z => hne ⟨z.1.symm, z.2.1.symm, z.2.2.symm⟩)
  have eq : ad1 t2 i2 j2 = q := by rw [had]; exact up3_self
  have hXs1 : up3 X t2 i2 j2 (some (eQ (cy 6) v (fun _ => none))) t i j = some (eQ (cy 6) w f) := (up3_ne (fun z => hne ⟨z.1.symm, z.2.1.symm, z.2.2.symm⟩)).trans hXs
  have hXd1 : up3 X t2 i2 j2 (some (eQ (cy 6) v (fun _ => none))) t2 i2 j2 = some (eQ (cy 6) v (fun _ => none)) := up3_self
  have hok1 : okEl ad1 (up3 X t2 i2 j2 (some (eQ (cy 6) v (fun _ => none)))) f w := by rw [had]; exact hok.new hXd
  refine lv_goto (tgt := 24) hx hb dJ7_copyOf_6403c_10 (by decide) ?_
  refine o_astore_n hx hb dJ7_copyOf_6403c_24 hl (by decide) rfl (fun ls hl => ?_)
  refine o_aload_n hx hb dJ7_copyOf_6403c_25 hl rfl ?_
  refine lv_iconst (v := 0) hx hb dJ7_copyOf_6403c_26 (by decide) ?_
  refine o_aload_n hx hb dJ7_copyOf_6403c_27 hl rfl ?_
  refine lv_iconst (v := 0) hx hb dJ7_copyOf_6403c_28 (by decide) ?_
  refine o_aload_n hx hb dJ7_copyOf_6403c_29 hl rfl ?_
  refine bn_0 ea ?_
  refine g_alen hC hG 6 rfl hXs1 (v := nI w) rfl dJ7_copyOf_6403c_30 ?_
  refine o_iload_n hx hb dJ7_copyOf_6403c_31 hl rfl ?_
  refine k_min hC ml_J7_304 hl.1 (Nat.le_of_ble_eq_true rfl) (Nat.le_of_ble_eq_true rfl) (Nat.le_of_ble_eq_true rfl) (Nat.le_of_ble_eq_true rfl) dJ7_copyOf_6403c_32 ?_
  rw [show (if nI v < nI w then nI v else nI w) = nI w from if_neg (fun z => absurd ((nI_ltI (by omega) (by omega)).mp z) (by omega))]
  refine bn_c eq ea ?_
  refine g_copy hC hG hS hl.1 ml_J7_150 hXs1 hXd1 (Nat.le_refl w) hwv (by omega) hok1 (fun z => hne ⟨z.1.symm, z.2.1.symm, z.2.2.symm⟩) up3_up3 (Nat.le_of_ble_eq_true rfl) (Nat.le_of_ble_eq_true rfl) dJ7_copyOf_6403c_35 (fun H locs hG hS => ?_)
  refine o_aload_n hx hb dJ7_copyOf_6403c_38 hl rfl ?_
  exact R_Q hC hS hr (Or.inr ⟨_, rfl⟩) (v := some q) hlk (⟨q, rfl, by rw [← had]; exact hG⟩) (Nat.le_of_ble_eq_true rfl) (Nat.le_of_ble_eq_true rfl) dJ7_copyOf_6403c_39
theorem k_J7_copyOf_6403c {p : Program} {l : Launch} {e : Env} {R : Room} {s : State} {m : MethodId} {args : Array Value} {below : List Frame} {meth : Method} {c : Code} {H : Heap} {locs : List Loc} {cells slots : Nat} {Q : State → Prop} {cc : ByteArray} {pc nL : Nat} {ls : Array Slot} {rest : List Value} {own : String} {D : va_G} {cy : Nat → ClassId} {sa : Nat → Nat} {de B : Nat} {ad : Ad} {X : Rl} {f : Nat → Option Nat} {w v t i j t2 i2 j2 : Nat}  (hC : Cx p m c cc nL s args own D cy sa de B) (hS : va_S (AB B) s.heap H locs) (hG : GW D B ad (X) H) (h0 : X t i j = some (eQ (cy 6) w f) ∧ w ≤ v ∧ v ≤ 22 ∧ okEl ad X f w ∧ X t2 i2 j2 = none)  {idx : Nat} (wl : Cond.methodLink own idx yJ7_copyOf_6403c ∈ G0) (hR : 2 + 1 ≤ R.frames ∧ 8 + (4 + 11) + 60 ≤ R.locals) (hsz : ls.size = nL) (hst : (rest.map fun v => v.category).sum ≤ 8) (hdg : decode cc pc = .ok (.invokestatic idx, 3)) (hcs : cells + 1 ≤ R.cells ∧ slots + 22 ≤ R.slots) (kk : ∀ (r9 : Option Nat) (H1 : Heap) (locs1 : List Loc), ((fun r H => ∃ q, r = some q ∧ GW D B (up3 ad t2 i2 j2 q) (up3 X t2 i2 j2 (some (eQ (cy 6) v (cutF f w)))) H)) r9 H1 → va_S (AB B) s.heap H1 locs1 → W p l e R s m args below meth c H1 locs1 (cells + 1) (slots + 22) Q (F0 m (pc + 3) ls (va_rf r9 :: rest))) : W p l e R s m args below meth c H locs cells slots Q (F0 m pc ls (.ref (sa 1000) :: .int (nI v) :: .ref (ad t i j) :: rest)) :=
  va_callq (rS hC hS hG h0 (As := [.ref (ad t i j), .int (nI v), .ref (sa 1000)]) (c_J7_copyOf_6403c l) ⟨rfl, rfl⟩ wl sm_J7_copyOf_6403c in_J7 cd_J7_copyOf_6403c (n := 3) (by decide +kernel) hR rfl hsz hst rfl hdg hcs) hS (fun _ _ h => h) (fun _ h => h) (fun r u t H1 locs1 ht _ hr hB _ _ hS1 => by subst hr; exact kk r H1 locs1 (by (try dsimp only at hB); rw [ht] at hB; exact hB) hS1)
set_option maxHeartbeats 4000000 in
set_option maxRecDepth 100000 in
theorem c_J7_copyOf_1904c (l : Launch) {D : va_G} {cy : Nat → ClassId} {sa : Nat → Nat} {de B : Nat} {ad : Ad} {X : Rl} {f : Nat → Option Nat} {w v t i j t2 i2 j2 : Nat}  : Met l yJ7_copyOf_1904c (Cond.code yJ7_copyOf_1904c cJ7_copyOf_1904c 2 (Option.some (Jvm.ClassFile.FieldType.array (Jvm.ClassFile.FieldType.object "java/lang/Object"))) :: G0) ({ frames := 3, cells := 1, slots := 22, locals := 83 } : Room) (va_Pc [.ref (ad t i j), .int (nI v)] (PW D cy sa de B ad (X) (X t i j = some (eQ (cy 6) w f) ∧ w ≤ v ∧ v ≤ 22 ∧ okEl ad X f w ∧ X t2 i2 j2 = none))) (oQ B (fun r H => ∃ q, r = some q ∧ GW D B (up3 ad t2 i2 j2 q) (up3 X t2 i2 j2 (some (eQ (cy 6) v (cutF f w)))) H)) 1 22 (AB B) := by
  refine E_met (own := RJ7) rfl rfl (Nat.le_of_ble_eq_true rfl) ?_
  intro p e s m below meth c hC hr hlk hnm hG h0 ls hl
  have hx := hC.x
  have hb := hC.b
  have hS : va_S (AB B) s.heap s.heap [] := va_S.rf
  have hl : lo ls 2 [some (.ref (ad t i j)), some (.int (nI v))] := lo_of hl
  refine o_aload_n hx hb dJ7_copyOf_1904c_0 hl rfl ?_
  refine o_iload_n hx hb dJ7_copyOf_1904c_1 hl rfl ?_
  refine o_aload_n hx hb dJ7_copyOf_1904c_2 hl rfl ?_
  refine g_getC hC hG hl.1 ml_J7_86 h0.1 (Nat.le_of_ble_eq_true rfl) (Nat.le_of_ble_eq_true rfl) dJ7_copyOf_1904c_3 ?_
  refine k_J7_copyOf_6403c hC hS hG h0 ml_J7_300 ⟨Nat.le_of_ble_eq_true rfl, Nat.le_of_ble_eq_true rfl⟩ hl.1 (Nat.le_of_ble_eq_true rfl) dJ7_copyOf_1904c_6 ⟨Nat.le_of_ble_eq_true rfl, Nat.le_of_ble_eq_true rfl⟩ (fun r9 H locs hp hS => ?_)
  exact R_Q hC hS hr (Or.inr ⟨_, rfl⟩) (v := r9) hlk hp (Nat.le_of_ble_eq_true rfl) (Nat.le_of_ble_eq_true rfl) dJ7_copyOf_1904c_9
theorem k_J7_copyOf_1904c {p : Program} {l : Launch} {e : Env} {R : Room} {s : State} {m : MethodId} {args : Array Value} {below : List Frame} {meth : Method} {c : Code} {H : Heap} {locs : List Loc} {cells slots : Nat} {Q : State → Prop} {cc : ByteArray} {pc nL : Nat} {ls : Array Slot} {rest : List Value} {own : String} {D : va_G} {cy : Nat → ClassId} {sa : Nat → Nat} {de B : Nat} {ad : Ad} {X : Rl} {f : Nat → Option Nat} {w v t i j t2 i2 j2 : Nat}  (hC : Cx p m c cc nL s args own D cy sa de B) (hS : va_S (AB B) s.heap H locs) (hG : GW D B ad (X) H) (h0 : X t i j = some (eQ (cy 6) w f) ∧ w ≤ v ∧ v ≤ 22 ∧ okEl ad X f w ∧ X t2 i2 j2 = none)  {idx : Nat} (wl : Cond.methodLink own idx yJ7_copyOf_1904c ∈ G0) (hR : 3 + 1 ≤ R.frames ∧ 8 + (2 + 11) + 83 ≤ R.locals) (hsz : ls.size = nL) (hst : (rest.map fun v => v.category).sum ≤ 8) (hdg : decode cc pc = .ok (.invokestatic idx, 3)) (hcs : cells + 1 ≤ R.cells ∧ slots + 22 ≤ R.slots) (kk : ∀ (r9 : Option Nat) (H1 : Heap) (locs1 : List Loc), ((fun r H => ∃ q, r = some q ∧ GW D B (up3 ad t2 i2 j2 q) (up3 X t2 i2 j2 (some (eQ (cy 6) v (cutF f w)))) H)) r9 H1 → va_S (AB B) s.heap H1 locs1 → W p l e R s m args below meth c H1 locs1 (cells + 1) (slots + 22) Q (F0 m (pc + 3) ls (va_rf r9 :: rest))) : W p l e R s m args below meth c H locs cells slots Q (F0 m pc ls (.int (nI v) :: .ref (ad t i j) :: rest)) :=
  va_callq (rS hC hS hG h0 (As := [.ref (ad t i j), .int (nI v)]) (c_J7_copyOf_1904c l) ⟨rfl, rfl⟩ wl sm_J7_copyOf_1904c in_J7 cd_J7_copyOf_1904c (n := 2) (by decide +kernel) hR rfl hsz hst rfl hdg hcs) hS (fun _ _ h => h) (fun _ h => h) (fun r u t H1 locs1 ht _ hr hB _ _ hS1 => by subst hr; exact kk r H1 locs1 (by (try dsimp only at hB); rw [ht] at hB; exact hB) hS1)
set_option maxHeartbeats 4000000 in
set_option maxRecDepth 100000 in
theorem c_Jx4a65c_grow_92f84 (l : Launch) {D : va_G} {cy : Nat → ClassId} {sa : Nat → Nat} {de B : Nat} {ad : Ad} {X : Rl} {mo : Int32} {f : Nat → Option Nat} {w t i j t2 i2 j2 : Nat}  : Met l yJx4a65c_grow_92f84 (Cond.code yJx4a65c_grow_92f84 cJx4a65c_grow_92f84 4 (Option.some (Jvm.ClassFile.FieldType.array (Jvm.ClassFile.FieldType.object "java/lang/Object"))) :: G0) ({ frames := 4, cells := 1, slots := 22, locals := 104 } : Room) (va_Pc [.ref (ad t i j), .int (nI (w + 1))] (PW D cy sa de B ad (X) (isL de cy ad X t i j t2 i2 j2 mo w f ∧ (w = 0 ∨ w = 10 ∨ w = 15) ∧ okEl ad X f w ∧ X 19 0 0 = none ∧ t < 19 ∧ t2 < 19 ∧ ¬ (t = t2 ∧ i = i2 ∧ j = j2)))) (oQ B (fun r H => ∃ q, r = some q ∧ GW D B (up3 ad t2 i2 j2 q) (up3 (up3 X t2 i2 j2 (some (eQ (cy 6) (capL (w + 1)) (cutF f w)))) t i j (some (.inr (0, [.int mo, .ref q, .int (nI w)])))) H)) 1 22 (AB B) := by
  refine E_met (own := RJx4a65c) rfl rfl (Nat.le_of_ble_eq_true rfl) ?_
  intro p e s m below meth c hC hr hlk hnm hG h0 ls hl
  have hx := hC.x
  have hb := hC.b
  have hS : va_S (AB B) s.heap s.heap [] := va_S.rf
  have hl : lo ls 4 [some (.ref (ad t i j)), some (.int (nI (w + 1))), none, none] := lo_of hl
  obtain ⟨⟨hO, hA⟩, hw3, hok, hX19, ht, ht2, hne⟩ := h0
  rcases hw3 with rfl | rfl | rfl
  · have hO : X t i j = some (.inr (0, [.int mo, .ref de, .int (nI 0)])) := hO
    have hA : X t2 i2 j2 = none := hA
    refine o_aload_n hx hb dJx4a65c_grow_92f84_0 hl rfl ?_
    refine g_get hC hG us_Jx4a65c rfl 1 (by decide) fl_Jx4a65c_9 hO rfl dJx4a65c_grow_92f84_1 ?_
    refine g_lenE hC hS dJx4a65c_grow_92f84_4 ?_
    refine o_istore_n hx hb dJx4a65c_grow_92f84_5 hl (by decide) rfl (fun ls hl => ?_)
    refine o_iload_n hx hb dJx4a65c_grow_92f84_6 hl rfl ?_
    refine lv_if_gt (tgt := 20) hx hb dJx4a65c_grow_92f84_7 (by decide) (fun h7 => absurd h7 (by decide)) (fun h7 => ?_)
    refine o_aload_n hx hb dJx4a65c_grow_92f84_10 hl rfl ?_
    refine g_get hC hG us_Jx4a65c rfl 1 (by decide) fl_Jx4a65c_9 hO rfl dJx4a65c_grow_92f84_11 ?_
    refine g_getE hC hS fl_Jx4a65c_39 dJx4a65c_grow_92f84_14 ?_
    refine lv_acmp_eq (tgt := 45) (rx := some de) (ry := some de) hx hb dJx4a65c_grow_92f84_17 (by decide) (fun h17 => ?_) (fun h17 => absurd rfl h17)
    refine o_aload_n hx hb dJx4a65c_grow_92f84_45 hl rfl ?_
    refine lv_bipush (v := 10) hx hb dJx4a65c_grow_92f84_46 (by decide) ?_
    refine o_iload_n hx hb dJx4a65c_grow_92f84_48 hl rfl ?_
    refine k_max hC ml_Jx4a65c_79 hl.1 (Nat.le_of_ble_eq_true rfl) (Nat.le_of_ble_eq_true rfl) (Nat.le_of_ble_eq_true rfl) (Nat.le_of_ble_eq_true rfl) dJx4a65c_grow_92f84_49 ?_
    rw [show (if (10 : Int32) < nI (0 + 1) then nI (0 + 1) else 10) = 10 from by decide]
    refine g_anew hC hG hS cl_Jx4a65c_7 hC.k.2.2.2.2.2.2.2.1 6 rfl (n := 10) (N' := 10) (by decide) (by decide) (by decide) (Nat.le_of_ble_eq_true rfl) (Nat.le_of_ble_eq_true rfl) t2 i2 j2 hA dJx4a65c_grow_92f84_52 (fun q H hG hS => ?_)
    obtain ⟨ad1, had⟩ : ∃ z, z = up3 ad t2 i2 j2 q := ⟨_, rfl⟩
    rw [← had] at hG
    have ea : ad1 t i j = ad t i j := by rw [had]; exact up3_ne hne
    have hO1 : up3 X t2 i2 j2 (some (eQ (cy 6) 10 (fun _ => none))) t i j = some (.inr (0, [.int mo, .ref de, .int (nI 0)])) := (up3_ne hne).trans hO
    refine lv_dup_x1 hx hb dJx4a65c_grow_92f84_55 rfl rfl ?_
    refine bn_1 ea ?_
    refine g_put hC hG hS us_Jx4a65c tyJx4a65c_ok nmJx4a65c rfl 1 (by decide) fl_Jx4a65c_9 rfl hO1 rfl rfl (Nat.le_of_ble_eq_true rfl) rfl dJx4a65c_grow_92f84_56 (fun H locs hG hS => ?_)
    exact R_Q hC hS hr (Or.inr ⟨_, rfl⟩) (v := some q) hlk (⟨q, rfl, by rw [← had, cutF_0]; exact hG⟩) (Nat.le_of_ble_eq_true rfl) (Nat.le_of_ble_eq_true rfl) dJx4a65c_grow_92f84_59
  · have hO : X t i j = some (.inr (0, [.int mo, .ref (ad t2 i2 j2), .int (nI 10)])) := hO
    have hA : X t2 i2 j2 = some (eQ (cy 6) 10 f) := hA
    refine o_aload_n hx hb dJx4a65c_grow_92f84_0 hl rfl ?_
    refine g_get hC hG us_Jx4a65c rfl 1 (by decide) fl_Jx4a65c_9 hO rfl dJx4a65c_grow_92f84_1 ?_
    refine g_alen hC hG 6 rfl hA (v := nI 10) rfl dJx4a65c_grow_92f84_4 ?_
    refine o_istore_n hx hb dJx4a65c_grow_92f84_5 hl (by decide) rfl (fun ls hl => ?_)
    refine o_iload_n hx hb dJx4a65c_grow_92f84_6 hl rfl ?_
    refine lv_if_gt (tgt := 20) hx hb dJx4a65c_grow_92f84_7 (by decide) (fun h7 => ?_) (fun h7 => absurd (by decide) h7)
    refine o_iload_n hx hb dJx4a65c_grow_92f84_20 hl rfl ?_
    refine o_iload_n hx hb dJx4a65c_grow_92f84_21 hl rfl ?_
    refine o_iload_n hx hb dJx4a65c_grow_92f84_22 hl rfl ?_
    refine lv_isub hx hb dJx4a65c_grow_92f84_23 ?_
    refine o_iload_n hx hb dJx4a65c_grow_92f84_24 hl rfl ?_
    refine lv_iconst (v := 1) hx hb dJx4a65c_grow_92f84_25 (by decide) ?_
    refine lv_ishr hx hb dJx4a65c_grow_92f84_26 ?_
    refine k_J8_newLength_cabcc (v := 15) hC hS hG (by first | exact Or.inl ⟨rfl, by decide, by decide, rfl⟩ | exact Or.inr ⟨rfl, by decide, by decide, rfl⟩) ml_Jx4a65c_73 ⟨Nat.le_of_ble_eq_true rfl, Nat.le_of_ble_eq_true rfl⟩ hl.1 (Nat.le_of_ble_eq_true rfl) dJx4a65c_grow_92f84_27 ⟨Nat.le_of_ble_eq_true rfl, Nat.le_of_ble_eq_true rfl⟩ ?_
    refine o_istore_n hx hb dJx4a65c_grow_92f84_30 hl (by decide) rfl (fun ls hl => ?_)
    refine o_aload_n hx hb dJx4a65c_grow_92f84_31 hl rfl ?_
    refine o_aload_n hx hb dJx4a65c_grow_92f84_32 hl rfl ?_
    refine g_get hC hG us_Jx4a65c rfl 1 (by decide) fl_Jx4a65c_9 hO rfl dJx4a65c_grow_92f84_33 ?_
    refine o_iload_n hx hb dJx4a65c_grow_92f84_36 hl rfl ?_
    refine k_J7_copyOf_1904c (t2 := 19) (i2 := 0) (j2 := 0) (v := 15) hC hS hG ⟨hA, by decide, by decide, hok, hX19⟩ ml_Jx4a65c_66 ⟨Nat.le_of_ble_eq_true rfl, Nat.le_of_ble_eq_true rfl⟩ hl.1 (Nat.le_of_ble_eq_true rfl) dJx4a65c_grow_92f84_37 ⟨Nat.le_of_ble_eq_true rfl, Nat.le_of_ble_eq_true rfl⟩ (fun r9 H locs hp hS => ?_)
    obtain ⟨q, rfl, hG⟩ := hp
    obtain ⟨ad1, had⟩ : ∃ z, z = up3 ad 19 0 0 q := ⟨_, rfl⟩
    rw [← had] at hG
    have h19 : ¬ (t = 19 ∧ i = 0 ∧ j = 0) := fun z => absurd z.1 (by omega)
    have ea : ad1 t i j = ad t i j := by rw [had]; exact up3_ne h19
    have hO1 : up3 X 19 0 0 (some (eQ (cy 6) 15 (cutF f 10))) t i j = some (.inr (0, [.int mo, .ref (ad t2 i2 j2), .int (nI 10)])) := (up3_ne h19).trans hO
    refine lv_dup_x1 hx hb dJx4a65c_grow_92f84_40 rfl rfl ?_
    refine bn_1 ea ?_
    refine g_put hC hG hS us_Jx4a65c tyJx4a65c_ok nmJx4a65c rfl 1 (by decide) fl_Jx4a65c_9 rfl hO1 rfl rfl (Nat.le_of_ble_eq_true rfl) rfl dJx4a65c_grow_92f84_41 (fun H locs hG hS => ?_)
    have hG2 : GW D B (up3 ad 19 0 0 q) (up3 (up3 X t i j (some (.inr (0, [.int mo, .ref q, .int (nI 10)])))) 19 0 0 (some (eQ (cy 6) 15 (cutF f 10)))) H := by
      rw [← had, up3_comm h19]; exact hG
    have hG3 := hG2.take (by rw [up3_ne (fun z => absurd z.1 (by omega))]; exact hX19) (t := t2) (i := i2) (j := j2) (fun z => absurd z.1 (by omega))
    rw [up3_comm hne] at hG3
    exact R_Q hC hS hr (Or.inr ⟨_, rfl⟩) (v := some q) hlk (⟨q, rfl, hG3⟩) (Nat.le_of_ble_eq_true rfl) (Nat.le_of_ble_eq_true rfl) dJx4a65c_grow_92f84_44
  · have hO : X t i j = some (.inr (0, [.int mo, .ref (ad t2 i2 j2), .int (nI 15)])) := hO
    have hA : X t2 i2 j2 = some (eQ (cy 6) 15 f) := hA
    refine o_aload_n hx hb dJx4a65c_grow_92f84_0 hl rfl ?_
    refine g_get hC hG us_Jx4a65c rfl 1 (by decide) fl_Jx4a65c_9 hO rfl dJx4a65c_grow_92f84_1 ?_
    refine g_alen hC hG 6 rfl hA (v := nI 15) rfl dJx4a65c_grow_92f84_4 ?_
    refine o_istore_n hx hb dJx4a65c_grow_92f84_5 hl (by decide) rfl (fun ls hl => ?_)
    refine o_iload_n hx hb dJx4a65c_grow_92f84_6 hl rfl ?_
    refine lv_if_gt (tgt := 20) hx hb dJx4a65c_grow_92f84_7 (by decide) (fun h7 => ?_) (fun h7 => absurd (by decide) h7)
    refine o_iload_n hx hb dJx4a65c_grow_92f84_20 hl rfl ?_
    refine o_iload_n hx hb dJx4a65c_grow_92f84_21 hl rfl ?_
    refine o_iload_n hx hb dJx4a65c_grow_92f84_22 hl rfl ?_
    refine lv_isub hx hb dJx4a65c_grow_92f84_23 ?_
    refine o_iload_n hx hb dJx4a65c_grow_92f84_24 hl rfl ?_
    refine lv_iconst (v := 1) hx hb dJx4a65c_grow_92f84_25 (by decide) ?_
    refine lv_ishr hx hb dJx4a65c_grow_92f84_26 ?_
    refine k_J8_newLength_cabcc (v := 22) hC hS hG (by first | exact Or.inl ⟨rfl, by decide, by decide, rfl⟩ | exact Or.inr ⟨rfl, by decide, by decide, rfl⟩) ml_Jx4a65c_73 ⟨Nat.le_of_ble_eq_true rfl, Nat.le_of_ble_eq_true rfl⟩ hl.1 (Nat.le_of_ble_eq_true rfl) dJx4a65c_grow_92f84_27 ⟨Nat.le_of_ble_eq_true rfl, Nat.le_of_ble_eq_true rfl⟩ ?_
    refine o_istore_n hx hb dJx4a65c_grow_92f84_30 hl (by decide) rfl (fun ls hl => ?_)
    refine o_aload_n hx hb dJx4a65c_grow_92f84_31 hl rfl ?_
    refine o_aload_n hx hb dJx4a65c_grow_92f84_32 hl rfl ?_
    refine g_get hC hG us_Jx4a65c rfl 1 (by decide) fl_Jx4a65c_9 hO rfl dJx4a65c_grow_92f84_33 ?_
    refine o_iload_n hx hb dJx4a65c_grow_92f84_36 hl rfl ?_
    refine k_J7_copyOf_1904c (t2 := 19) (i2 := 0) (j2 := 0) (v := 22) hC hS hG ⟨hA, by decide, by decide, hok, hX19⟩ ml_Jx4a65c_66 ⟨Nat.le_of_ble_eq_true rfl, Nat.le_of_ble_eq_true rfl⟩ hl.1 (Nat.le_of_ble_eq_true rfl) dJx4a65c_grow_92f84_37 ⟨Nat.le_of_ble_eq_true rfl, Nat.le_of_ble_eq_true rfl⟩ (fun r9 H locs hp hS => ?_)
    obtain ⟨q, rfl, hG⟩ := hp
    obtain ⟨ad1, had⟩ : ∃ z, z = up3 ad 19 0 0 q := ⟨_, rfl⟩
    rw [← had] at hG
    have h19 : ¬ (t = 19 ∧ i = 0 ∧ j = 0) := fun z => absurd z.1 (by omega)
    have ea : ad1 t i j = ad t i j := by rw [had]; exact up3_ne h19
    have hO1 : up3 X 19 0 0 (some (eQ (cy 6) 22 (cutF f 15))) t i j = some (.inr (0, [.int mo, .ref (ad t2 i2 j2), .int (nI 15)])) := (up3_ne h19).trans hO
    refine lv_dup_x1 hx hb dJx4a65c_grow_92f84_40 rfl rfl ?_
    refine bn_1 ea ?_
    refine g_put hC hG hS us_Jx4a65c tyJx4a65c_ok nmJx4a65c rfl 1 (by decide) fl_Jx4a65c_9 rfl hO1 rfl rfl (Nat.le_of_ble_eq_true rfl) rfl dJx4a65c_grow_92f84_41 (fun H locs hG hS => ?_)
    have hG2 : GW D B (up3 ad 19 0 0 q) (up3 (up3 X t i j (some (.inr (0, [.int mo, .ref q, .int (nI 15)])))) 19 0 0 (some (eQ (cy 6) 22 (cutF f 15)))) H := by
      rw [← had, up3_comm h19]; exact hG
    have hG3 := hG2.take (by rw [up3_ne (fun z => absurd z.1 (by omega))]; exact hX19) (t := t2) (i := i2) (j := j2) (fun z => absurd z.1 (by omega))
    rw [up3_comm hne] at hG3
    exact R_Q hC hS hr (Or.inr ⟨_, rfl⟩) (v := some q) hlk (⟨q, rfl, hG3⟩) (Nat.le_of_ble_eq_true rfl) (Nat.le_of_ble_eq_true rfl) dJx4a65c_grow_92f84_44
theorem k_Jx4a65c_grow_92f84 {p : Program} {l : Launch} {e : Env} {R : Room} {s : State} {m : MethodId} {args : Array Value} {below : List Frame} {meth : Method} {c : Code} {H : Heap} {locs : List Loc} {cells slots : Nat} {Q : State → Prop} {cc : ByteArray} {pc nL : Nat} {ls : Array Slot} {rest : List Value} {own : String} {D : va_G} {cy : Nat → ClassId} {sa : Nat → Nat} {de B : Nat} {ad : Ad} {X : Rl} {mo : Int32} {f : Nat → Option Nat} {w t i j t2 i2 j2 : Nat}  (hC : Cx p m c cc nL s args own D cy sa de B) (hS : va_S (AB B) s.heap H locs) (hG : GW D B ad (X) H) (h0 : isL de cy ad X t i j t2 i2 j2 mo w f ∧ (w = 0 ∨ w = 10 ∨ w = 15) ∧ okEl ad X f w ∧ X 19 0 0 = none ∧ t < 19 ∧ t2 < 19 ∧ ¬ (t = t2 ∧ i = i2 ∧ j = j2))  {idx : Nat} (wl : Cond.methodLink own idx yJx4a65c_grow_92f84 ∈ G0) (hR : 4 + 1 ≤ R.frames ∧ 8 + (4 + 11) + 104 ≤ R.locals) (hsz : ls.size = nL) (hst : (rest.map fun v => v.category).sum ≤ 8) (hdg : decode cc pc = .ok (.invokevirtual idx, 3)) (hcs : cells + 1 ≤ R.cells ∧ slots + 22 ≤ R.slots) (kk : ∀ (r9 : Option Nat) (H1 : Heap) (locs1 : List Loc), ((fun r H => ∃ q, r = some q ∧ GW D B (up3 ad t2 i2 j2 q) (up3 (up3 X t2 i2 j2 (some (eQ (cy 6) (capL (w + 1)) (cutF f w)))) t i j (some (.inr (0, [.int mo, .ref q, .int (nI w)])))) H)) r9 H1 → va_S (AB B) s.heap H1 locs1 → W p l e R s m args below meth c H1 locs1 (cells + 1) (slots + 22) Q (F0 m (pc + 3) ls (va_rf r9 :: rest))) : W p l e R s m args below meth c H locs cells slots Q (F0 m pc ls (.int (nI (w + 1)) :: .ref (ad t i j) :: rest)) :=
  va_callq (rV hC hS hG h0 (As := [.int (nI (w + 1))]) (c_Jx4a65c_grow_92f84 l) ⟨rfl, rfl⟩ wl im_Jx4a65c_grow_92f84 sl_Jx4a65c_Jx4a65c_grow_92f84 in_Jx4a65c cd_Jx4a65c_grow_92f84 (n := 1) (by decide +kernel) hR (recv hC hG (q := (RJx4a65c, TJx4a65c, 3)) rfl h0.1.1) rfl hsz hst rfl hdg hcs) hS (fun _ _ h => h) (fun _ h => h) (fun r u t H1 locs1 ht _ hr hB _ _ hS1 => by subst hr; exact kk r H1 locs1 (by (try dsimp only at hB); rw [ht] at hB; exact hB) hS1)
set_option maxHeartbeats 4000000 in
set_option maxRecDepth 100000 in
theorem c_Jx4a65c_grow_d5877 (l : Launch) {D : va_G} {cy : Nat → ClassId} {sa : Nat → Nat} {de B : Nat} {ad : Ad} {X : Rl} {mo : Int32} {f : Nat → Option Nat} {w t i j t2 i2 j2 : Nat}  : Met l yJx4a65c_grow_d5877 (Cond.code yJx4a65c_grow_d5877 cJx4a65c_grow_d5877 1 (Option.some (Jvm.ClassFile.FieldType.array (Jvm.ClassFile.FieldType.object "java/lang/Object"))) :: G0) ({ frames := 5, cells := 1, slots := 22, locals := 127 } : Room) (va_Pc [.ref (ad t i j)] (PW D cy sa de B ad (X) (isL de cy ad X t i j t2 i2 j2 mo w f ∧ (w = 0 ∨ w = 10 ∨ w = 15) ∧ okEl ad X f w ∧ X 19 0 0 = none ∧ t < 19 ∧ t2 < 19 ∧ ¬ (t = t2 ∧ i = i2 ∧ j = j2)))) (oQ B (fun r H => ∃ q, r = some q ∧ GW D B (up3 ad t2 i2 j2 q) (up3 (up3 X t2 i2 j2 (some (eQ (cy 6) (capL (w + 1)) (cutF f w)))) t i j (some (.inr (0, [.int mo, .ref q, .int (nI w)])))) H)) 1 22 (AB B) := by
  refine E_met (own := RJx4a65c) rfl rfl (Nat.le_of_ble_eq_true rfl) ?_
  intro p e s m below meth c hC hr hlk hnm hG h0 ls hl
  have hx := hC.x
  have hb := hC.b
  have hS : va_S (AB B) s.heap s.heap [] := va_S.rf
  have hl : lo ls 1 [some (.ref (ad t i j))] := lo_of hl
  refine o_aload_n hx hb dJx4a65c_grow_d5877_0 hl rfl ?_
  refine o_aload_n hx hb dJx4a65c_grow_d5877_1 hl rfl ?_
  refine g_get hC hG us_Jx4a65c rfl 2 (by decide) fl_Jx4a65c_48 h0.1.1 rfl dJx4a65c_grow_d5877_2 ?_
  refine lv_iconst (v := 1) hx hb dJx4a65c_grow_d5877_5 (by decide) ?_
  refine lv_iadd hx hb dJx4a65c_grow_d5877_6 ?_
  rw [show nI w + 1 = nI (w + 1) from nI_1 w]
  refine k_Jx4a65c_grow_92f84 hC hS hG h0 ml_Jx4a65c_69 ⟨Nat.le_of_ble_eq_true rfl, Nat.le_of_ble_eq_true rfl⟩ hl.1 (Nat.le_of_ble_eq_true rfl) dJx4a65c_grow_d5877_7 ⟨Nat.le_of_ble_eq_true rfl, Nat.le_of_ble_eq_true rfl⟩ (fun r9 H locs hp hS => ?_)
  exact R_Q hC hS hr (Or.inr ⟨_, rfl⟩) (v := r9) hlk hp (Nat.le_of_ble_eq_true rfl) (Nat.le_of_ble_eq_true rfl) dJx4a65c_grow_d5877_10
theorem k_Jx4a65c_grow_d5877 {p : Program} {l : Launch} {e : Env} {R : Room} {s : State} {m : MethodId} {args : Array Value} {below : List Frame} {meth : Method} {c : Code} {H : Heap} {locs : List Loc} {cells slots : Nat} {Q : State → Prop} {cc : ByteArray} {pc nL : Nat} {ls : Array Slot} {rest : List Value} {own : String} {D : va_G} {cy : Nat → ClassId} {sa : Nat → Nat} {de B : Nat} {ad : Ad} {X : Rl} {mo : Int32} {f : Nat → Option Nat} {w t i j t2 i2 j2 : Nat}  (hC : Cx p m c cc nL s args own D cy sa de B) (hS : va_S (AB B) s.heap H locs) (hG : GW D B ad (X) H) (h0 : isL de cy ad X t i j t2 i2 j2 mo w f ∧ (w = 0 ∨ w = 10 ∨ w = 15) ∧ okEl ad X f w ∧ X 19 0 0 = none ∧ t < 19 ∧ t2 < 19 ∧ ¬ (t = t2 ∧ i = i2 ∧ j = j2))  {idx : Nat} (wl : Cond.methodLink own idx yJx4a65c_grow_d5877 ∈ G0) (hR : 5 + 1 ≤ R.frames ∧ 8 + (1 + 11) + 127 ≤ R.locals) (hsz : ls.size = nL) (hst : (rest.map fun v => v.category).sum ≤ 8) (hdg : decode cc pc = .ok (.invokevirtual idx, 3)) (hcs : cells + 1 ≤ R.cells ∧ slots + 22 ≤ R.slots) (kk : ∀ (r9 : Option Nat) (H1 : Heap) (locs1 : List Loc), ((fun r H => ∃ q, r = some q ∧ GW D B (up3 ad t2 i2 j2 q) (up3 (up3 X t2 i2 j2 (some (eQ (cy 6) (capL (w + 1)) (cutF f w)))) t i j (some (.inr (0, [.int mo, .ref q, .int (nI w)])))) H)) r9 H1 → va_S (AB B) s.heap H1 locs1 → W p l e R s m args below meth c H1 locs1 (cells + 1) (slots + 22) Q (F0 m (pc + 3) ls (va_rf r9 :: rest))) : W p l e R s m args below meth c H locs cells slots Q (F0 m pc ls (.ref (ad t i j) :: rest)) :=
  va_callq (rV hC hS hG h0 (As := []) (c_Jx4a65c_grow_d5877 l) ⟨rfl, rfl⟩ wl im_Jx4a65c_grow_d5877 sl_Jx4a65c_Jx4a65c_grow_d5877 in_Jx4a65c cd_Jx4a65c_grow_d5877 (n := 0) (by decide +kernel) hR (recv hC hG (q := (RJx4a65c, TJx4a65c, 3)) rfl h0.1.1) rfl hsz hst rfl hdg hcs) hS (fun _ _ h => h) (fun _ h => h) (fun r u t H1 locs1 ht _ hr hB _ _ hS1 => by subst hr; exact kk r H1 locs1 (by (try dsimp only at hB); rw [ht] at hB; exact hB) hS1)
set_option maxHeartbeats 4000000 in
set_option maxRecDepth 100000 in
theorem c_Jx4a65c_add_72be8 (l : Launch) {D : va_G} {cy : Nat → ClassId} {sa : Nat → Nat} {de B : Nat} {ad : Ad} {X : Rl} {mo : Int32} {f : Nat → Option Nat} {w t i j t2 i2 j2 tv iv jv ci : Nat} {fs : List Value} {rc : vw_C}  : Met l yJx4a65c_add_72be8 (Cond.code yJx4a65c_add_72be8 cJx4a65c_add_72be8 4 (Option.none : Option Jvm.ClassFile.FieldType) :: G0) ({ frames := 6, cells := 1, slots := 22, locals := 147 } : Room) (va_Pc [.ref (ad t i j), .ref (ad tv iv jv), .ref (if w = 0 then de else ad t2 i2 j2), .int (nI w)] (PW D cy sa de B ad (X) (isL de cy ad X t i j t2 i2 j2 mo w f ∧ w ≤ 16 ∧ okEl ad X f w ∧ (∀ k, w ≤ k → f k = none) ∧ X 19 0 0 = none ∧ t < 19 ∧ t2 < 19 ∧ ¬ (t = t2 ∧ i = i2 ∧ j = j2) ∧ X tv iv jv = some (.inr (ci, fs)) ∧ vwCl[ci]? = some rc ∧ (rc.1, "java/lang/Object") ∈ castL ∧ ¬ (tv = t2 ∧ iv = i2 ∧ jv = j2) ∧ ¬ (tv = t ∧ iv = i ∧ jv = j)))) (oV B (fun H => ∃ q, GW D B (up3 ad t2 i2 j2 q) (up3 (up3 X t2 i2 j2 (some (eQ (cy 6) (capL (w + 1)) (va_up f w (some (ad tv iv jv)))))) t i j (some (.inr (0, [.int mo, .ref q, .int (nI (w + 1))])))) H)) 1 22 (AB B) := by
  refine E_met (own := RJx4a65c) rfl rfl (Nat.le_of_ble_eq_true rfl) ?_
  intro p e s m below meth c hC hr hlk hnm hG h0 ls hl
  have hx := hC.x
  have hb := hC.b
  have hS : va_S (AB B) s.heap s.heap [] := va_S.rf
  have hl : lo ls 4 [some (.ref (ad t i j)), some (.ref (ad tv iv jv)), some (.ref (if w = 0 then de else ad t2 i2 j2)), some (.int (nI w))] := lo_of hl
  obtain ⟨⟨hO, hA⟩, hw16, hok, hf0, hX19, ht, ht2, hne, hE, hrc, hcast, hne2, hne3⟩ := h0
  have hcut : cutF f w = f := cutF_id hf0
  have tail : ∀ (q : Nat) (H : Heap) (locs : List Loc), GW D B (up3 ad t2 i2 j2 q) (up3 (up3 X t2 i2 j2 (some (eQ (cy 6) (capL (w + 1)) f))) t i j (some (.inr (0, [.int mo, .ref q, .int (nI w)])))) H → va_S (AB B) s.heap H locs → ∀ ls : Array Slot, lo ls 4 [some (.ref (ad t i j)), some (.ref (ad tv iv jv)), some (.ref q), some (.int (nI w))] → W p l e ({ frames := 6, cells := 1, slots := 22, locals := 147 } : Room) s m [.ref (ad t i j), .ref (ad tv iv jv), .ref (if w = 0 then de else ad t2 i2 j2), .int (nI w)].toArray below meth c H locs 1 22 (MQ below (oV B (fun H => ∃ q, GW D B (up3 ad t2 i2 j2 q) (up3 (up3 X t2 i2 j2 (some (eQ (cy 6) (capL (w + 1)) (va_up f w (some (ad tv iv jv)))))) t i j (some (.inr (0, [.int mo, .ref q, .int (nI (w + 1))])))) H)) [.ref (ad t i j), .ref (ad tv iv jv), .ref (if w = 0 then de else ad t2 i2 j2), .int (nI w)].toArray s 1 22 (AB B)) (F0 m 11 ls []) := by
    intro q H locs hG hS ls hl
    obtain ⟨ad1, had⟩ : ∃ z, z = up3 ad t2 i2 j2 q := ⟨_, rfl⟩
    rw [← had] at hG
    have eO : ad1 t i j = ad t i j := by rw [had]; exact up3_ne hne
    have eE : ad1 tv iv jv = ad tv iv jv := by rw [had]; exact up3_ne hne2
    have eD : ad1 t2 i2 j2 = q := by rw [had]; exact up3_self
    have hne' : ¬ (t2 = t ∧ i2 = i ∧ j2 = j) := fun z => hne ⟨z.1.symm, z.2.1.symm, z.2.2.symm⟩
    have hA1 : (up3 (up3 X t2 i2 j2 (some (eQ (cy 6) (capL (w + 1)) f))) t i j (some (.inr (0, [.int mo, .ref q, .int (nI w)])))) t2 i2 j2 = some (eQ (cy 6) (capL (w + 1)) f) := (up3_ne hne').trans up3_self
    have hE1 : (up3 (up3 X t2 i2 j2 (some (eQ (cy 6) (capL (w + 1)) f))) t i j (some (.inr (0, [.int mo, .ref q, .int (nI w)])))) tv iv jv = some (.inr (ci, fs)) := (up3_ne hne3).trans ((up3_ne hne2).trans hE)
    refine o_aload_n hx hb dJx4a65c_add_72be8_11 hl rfl ?_
    refine o_iload_n hx hb dJx4a65c_add_72be8_12 hl rfl ?_
    refine o_aload_n hx hb dJx4a65c_add_72be8_13 hl rfl ?_
    refine bn_d eE eD ?_
    refine g_ast hC hG hS 6 rfl hA1 hE1 hrc (vb_asgC (hC.k.2.2.1 _ hcast)) w rfl (cap_lt hw16) (capL_lt _) ((up3_comm hne).trans (congrArg (fun z => up3 z t i j _) up3_up3)) dJx4a65c_add_72be8_14 (fun H locs hG hS => ?_)
    refine o_aload_n hx hb dJx4a65c_add_72be8_15 hl rfl ?_
    refine o_iload_n hx hb dJx4a65c_add_72be8_16 hl rfl ?_
    refine lv_iconst (v := 1) hx hb dJx4a65c_add_72be8_17 (by decide) ?_
    refine lv_iadd hx hb dJx4a65c_add_72be8_18 ?_
    refine bn_1 eO ?_
    refine g_put hC hG hS us_Jx4a65c tyJx4a65c_ok nmJx4a65c rfl 2 (by decide) fl_Jx4a65c_48 rfl (up3_self) rfl rfl (Nat.le_of_ble_eq_true rfl) up3_up3 dJx4a65c_add_72be8_19 (fun H locs hG hS => ?_)
    exact R_V hC hS hr hlk (⟨q, by rw [← had, ← eE, ← nI_1 w]; exact hG⟩) (Nat.le_of_ble_eq_true rfl) (Nat.le_of_ble_eq_true rfl) dJx4a65c_add_72be8_22
  refine o_iload_n hx hb dJx4a65c_add_72be8_0 hl rfl ?_
  refine o_aload_n hx hb dJx4a65c_add_72be8_1 hl rfl ?_
  by_cases hw0 : w = 0
  · have hO0 : X t i j = some (.inr (0, [.int mo, .ref de, .int (nI w)])) := by rw [hO, if_pos hw0]
    refine bn_0 (if_pos hw0).symm ?_
    refine g_lenE hC hS dJx4a65c_add_72be8_2 ?_
    refine lv_icmp_ne (tgt := 11) hx hb dJx4a65c_add_72be8_3 (by decide) (fun h3 => absurd (by rw [hw0]; rfl) h3) (fun h3 => ?_)
    refine o_aload_n hx hb dJx4a65c_add_72be8_6 hl rfl ?_
    refine k_Jx4a65c_grow_d5877 (t2 := t2) (i2 := i2) (j2 := j2) hC hS hG ⟨⟨hO, hA⟩, Or.inl hw0, hok, hX19, ht, ht2, hne⟩ ml_Jx4a65c_129 ⟨Nat.le_of_ble_eq_true rfl, Nat.le_of_ble_eq_true rfl⟩ hl.1 (Nat.le_of_ble_eq_true rfl) dJx4a65c_add_72be8_7 ⟨Nat.le_of_ble_eq_true rfl, Nat.le_of_ble_eq_true rfl⟩ (fun r9 H locs hp hS => ?_)
    obtain ⟨q, rfl, hG⟩ := hp
    rw [hcut] at hG
    refine o_astore_n (x := q) hx hb dJx4a65c_add_72be8_10 hl (by decide) rfl (fun ls hl => ?_)
    exact tail q H locs hG hS ls hl
  · have hw1 : 0 < w := by omega
    have hA0 : X t2 i2 j2 = some (eQ (cy 6) (capL w) f) := by rw [hA, if_pos hw1]
    have hO0 : X t i j = some (.inr (0, [.int mo, .ref (ad t2 i2 j2), .int (nI w)])) := by rw [hO, if_neg hw0]
    rw [if_neg hw0] at hl
    refine bn_0 (if_neg hw0).symm ?_
    refine g_alen hC hG 6 rfl hA0 (v := nI (capL w)) rfl dJx4a65c_add_72be8_2 ?_
    by_cases hcap : w < capL w
    · refine lv_icmp_ne (tgt := 11) hx hb dJx4a65c_add_72be8_3 (by decide) (fun h3 => ?_) (fun h3 => absurd ((nI_eq (by omega) (capL_lt _)).mp h3) (by omega))
      refine W.widen (k := 1) (n := 22) (by omega) (by omega) ?_
      exact tail (ad t2 i2 j2) s.heap [] (by rw [up3_same rfl, cap_room hw1 hcap hw16, up3_same hA0, up3_same hO0]; exact hG) hS ls hl
    · have hfull := cap_full hcap hw16
      have hcw : capL w = w := by rcases hfull with rfl | rfl <;> rfl
      refine lv_icmp_ne (tgt := 11) hx hb dJx4a65c_add_72be8_3 (by decide) (fun h3 => absurd (by rw [hcw]) h3) (fun h3 => ?_)
      refine o_aload_n hx hb dJx4a65c_add_72be8_6 hl rfl ?_
      refine k_Jx4a65c_grow_d5877 (t2 := t2) (i2 := i2) (j2 := j2) hC hS hG ⟨⟨hO, hA⟩, Or.inr hfull, hok, hX19, ht, ht2, hne⟩ ml_Jx4a65c_129 ⟨Nat.le_of_ble_eq_true rfl, Nat.le_of_ble_eq_true rfl⟩ hl.1 (Nat.le_of_ble_eq_true rfl) dJx4a65c_add_72be8_7 ⟨Nat.le_of_ble_eq_true rfl, Nat.le_of_ble_eq_true rfl⟩ (fun r9 H locs hp hS => ?_)
      obtain ⟨q, rfl, hG⟩ := hp
      rw [hcut] at hG
      refine o_astore_n (x := q) hx hb dJx4a65c_add_72be8_10 hl (by decide) rfl (fun ls hl => ?_)
      exact tail q H locs hG hS ls hl
theorem k_Jx4a65c_add_72be8 {p : Program} {l : Launch} {e : Env} {R : Room} {s : State} {m : MethodId} {args : Array Value} {below : List Frame} {meth : Method} {c : Code} {H : Heap} {locs : List Loc} {cells slots : Nat} {Q : State → Prop} {cc : ByteArray} {pc nL : Nat} {ls : Array Slot} {rest : List Value} {own : String} {D : va_G} {cy : Nat → ClassId} {sa : Nat → Nat} {de B : Nat} {ad : Ad} {X : Rl} {mo : Int32} {f : Nat → Option Nat} {w t i j t2 i2 j2 tv iv jv ci : Nat} {fs : List Value} {rc : vw_C}  (hC : Cx p m c cc nL s args own D cy sa de B) (hS : va_S (AB B) s.heap H locs) (hG : GW D B ad (X) H) (h0 : isL de cy ad X t i j t2 i2 j2 mo w f ∧ w ≤ 16 ∧ okEl ad X f w ∧ (∀ k, w ≤ k → f k = none) ∧ X 19 0 0 = none ∧ t < 19 ∧ t2 < 19 ∧ ¬ (t = t2 ∧ i = i2 ∧ j = j2) ∧ X tv iv jv = some (.inr (ci, fs)) ∧ vwCl[ci]? = some rc ∧ (rc.1, "java/lang/Object") ∈ castL ∧ ¬ (tv = t2 ∧ iv = i2 ∧ jv = j2) ∧ ¬ (tv = t ∧ iv = i ∧ jv = j))  {idx : Nat} (wl : Cond.methodLink own idx yJx4a65c_add_72be8 ∈ G0) (hR : 6 + 1 ≤ R.frames ∧ 8 + (4 + 11) + 147 ≤ R.locals) (hsz : ls.size = nL) (hst : (rest.map fun v => v.category).sum ≤ 8) (hdg : decode cc pc = .ok (.invokevirtual idx, 3)) (hcs : cells + 1 ≤ R.cells ∧ slots + 22 ≤ R.slots) (kk : ∀ (H1 : Heap) (locs1 : List Loc), ((fun H => ∃ q, GW D B (up3 ad t2 i2 j2 q) (up3 (up3 X t2 i2 j2 (some (eQ (cy 6) (capL (w + 1)) (va_up f w (some (ad tv iv jv)))))) t i j (some (.inr (0, [.int mo, .ref q, .int (nI (w + 1))])))) H)) H1 → va_S (AB B) s.heap H1 locs1 → W p l e R s m args below meth c H1 locs1 (cells + 1) (slots + 22) Q (F0 m (pc + 3) ls (rest))) : W p l e R s m args below meth c H locs cells slots Q (F0 m pc ls (.int (nI w) :: .ref (if w = 0 then de else ad t2 i2 j2) :: .ref (ad tv iv jv) :: .ref (ad t i j) :: rest)) :=
  va_callv (rV hC hS hG h0 (As := [.ref (ad tv iv jv), .ref (if w = 0 then de else ad t2 i2 j2), .int (nI w)]) (c_Jx4a65c_add_72be8 l) ⟨rfl, rfl⟩ wl im_Jx4a65c_add_72be8 sl_Jx4a65c_Jx4a65c_add_72be8 in_Jx4a65c cd_Jx4a65c_add_72be8 (n := 3) (by decide +kernel) hR (recv hC hG (q := (RJx4a65c, TJx4a65c, 3)) rfl h0.1.1) rfl hsz hst rfl hdg hcs) hS (fun _ _ h => h) (fun _ h => h) (fun u t H1 locs1 ht _ _ hB _ _ hS1 => kk H1 locs1 (by (try dsimp only at hB); rw [ht] at hB; exact hB) hS1)
set_option maxHeartbeats 4000000 in
set_option maxRecDepth 100000 in
theorem c_Jx4a65c_add_9ea2d (l : Launch) {D : va_G} {cy : Nat → ClassId} {sa : Nat → Nat} {de B : Nat} {ad : Ad} {X : Rl} {mo : Int32} {f : Nat → Option Nat} {w t i j t2 i2 j2 tv iv jv ci : Nat} {fs : List Value} {rc : vw_C}  : Met l yJx4a65c_add_9ea2d (Cond.code yJx4a65c_add_9ea2d cJx4a65c_add_9ea2d 2 (Option.some Jvm.ClassFile.FieldType.boolean) :: G0) ({ frames := 7, cells := 1, slots := 22, locals := 170 } : Room) (va_Pc [.ref (ad t i j), .ref (ad tv iv jv)] (PW D cy sa de B ad (X) (isL de cy ad X t i j t2 i2 j2 mo w f ∧ w ≤ 16 ∧ okEl ad X f w ∧ (∀ k, w ≤ k → f k = none) ∧ X 19 0 0 = none ∧ t < 19 ∧ t2 < 19 ∧ ¬ (t = t2 ∧ i = i2 ∧ j = j2) ∧ X tv iv jv = some (.inr (ci, fs)) ∧ vwCl[ci]? = some rc ∧ (rc.1, "java/lang/Object") ∈ castL ∧ ¬ (tv = t2 ∧ iv = i2 ∧ jv = j2) ∧ ¬ (tv = t ∧ iv = i ∧ jv = j)))) (oI B (fun r H => r = 1 ∧ ∃ q, GW D B (up3 ad t2 i2 j2 q) (up3 (up3 X t2 i2 j2 (some (eQ (cy 6) (capL (w + 1)) (va_up f w (some (ad tv iv jv)))))) t i j (some (.inr (0, [.int (mo + 1), .ref q, .int (nI (w + 1))])))) H)) 1 22 (AB B) := by
  refine E_met (own := RJx4a65c) rfl rfl (Nat.le_of_ble_eq_true rfl) ?_
  intro p e s m below meth c hC hr hlk hnm hG h0 ls hl
  have hx := hC.x
  have hb := hC.b
  have hS : va_S (AB B) s.heap s.heap [] := va_S.rf
  have hl : lo ls 2 [some (.ref (ad t i j)), some (.ref (ad tv iv jv))] := lo_of hl
  obtain ⟨⟨hO, hA⟩, hw16, hok, hf0, hX19, ht, ht2, hne, hE, hrc, hcast, hne2, hne3⟩ := h0
  have hsm : ∀ x, s.fieldFound? "java/util/AbstractList" "modCount" "I" = some x → s.fieldFound? "java/util/ArrayList" "modCount" "I" = some x := fun x hx0 => u_same (hC.t _ sf_mod) x hx0
  refine o_aload_n hx hb dJx4a65c_add_9ea2d_0 hl rfl ?_
  refine lv_dup hx hb dJx4a65c_add_9ea2d_1 rfl ?_
  refine g_getS hC hG us_Jx4a65c rfl 0 (by decide) fl_Jx4a65c_63 hsm hO rfl dJx4a65c_add_9ea2d_2 ?_
  refine lv_iconst (v := 1) hx hb dJx4a65c_add_9ea2d_5 (by decide) ?_
  refine lv_iadd hx hb dJx4a65c_add_9ea2d_6 ?_
  refine g_putS hC hG hS us_Jx4a65c tyJx4a65c_ok nmJx4a65c rfl 0 (by decide) fl_Jx4a65c_63 hsm rfl hO rfl rfl (Nat.le_of_ble_eq_true rfl) rfl dJx4a65c_add_9ea2d_7 (fun H locs hG hS => ?_)
  have hne' : ¬ (t2 = t ∧ i2 = i ∧ j2 = j) := fun z => hne ⟨z.1.symm, z.2.1.symm, z.2.2.symm⟩
  have hO1 : (up3 X t i j (some (.inr (0, [.int (mo + 1), .ref (if w = 0 then de else ad t2 i2 j2), .int (nI w)])))) t i j = some (.inr (0, [.int (mo + 1), .ref (if w = 0 then de else ad t2 i2 j2), .int (nI w)])) := up3_self
  refine o_aload_n hx hb dJx4a65c_add_9ea2d_10 hl rfl ?_
  refine o_aload_n hx hb dJx4a65c_add_9ea2d_11 hl rfl ?_
  refine o_aload_n hx hb dJx4a65c_add_9ea2d_12 hl rfl ?_
  refine g_get hC hG us_Jx4a65c rfl 1 (by decide) fl_Jx4a65c_9 hO1 rfl dJx4a65c_add_9ea2d_13 ?_
  refine o_aload_n hx hb dJx4a65c_add_9ea2d_16 hl rfl ?_
  refine g_get hC hG us_Jx4a65c rfl 2 (by decide) fl_Jx4a65c_48 hO1 rfl dJx4a65c_add_9ea2d_17 ?_
  refine k_Jx4a65c_add_72be8 (t2 := t2) (i2 := i2) (j2 := j2) (ci := ci) (fs := fs) (rc := rc) hC hS hG ⟨⟨hO1, (up3_ne hne').trans hA⟩, hw16, hok.up hO, hf0, (up3_ne (fun z => absurd z.1 (by omega))).trans hX19, ht, ht2, hne, (up3_ne hne3).trans hE, hrc, hcast, hne2, hne3⟩ ml_Jx4a65c_131 ⟨Nat.le_of_ble_eq_true rfl, Nat.le_of_ble_eq_true rfl⟩ hl.1 (Nat.le_of_ble_eq_true rfl) dJx4a65c_add_9ea2d_20 ⟨Nat.le_of_ble_eq_true rfl, Nat.le_of_ble_eq_true rfl⟩ (fun H locs hp hS => ?_)
  obtain ⟨q, hG⟩ := hp
  rw [up3_comm hne, up3_up3] at hG
  refine lv_iconst (v := 1) hx hb dJx4a65c_add_9ea2d_23 (by decide) ?_
  exact R_I hC hS hr hlk rfl (⟨rfl, q, hG⟩) (Nat.le_of_ble_eq_true rfl) (Nat.le_of_ble_eq_true rfl) dJx4a65c_add_9ea2d_24
theorem k_Jx4a65c_add_9ea2d {p : Program} {l : Launch} {e : Env} {R : Room} {s : State} {m : MethodId} {args : Array Value} {below : List Frame} {meth : Method} {c : Code} {H : Heap} {locs : List Loc} {cells slots : Nat} {Q : State → Prop} {cc : ByteArray} {pc nL : Nat} {ls : Array Slot} {rest : List Value} {own : String} {D : va_G} {cy : Nat → ClassId} {sa : Nat → Nat} {de B : Nat} {ad : Ad} {X : Rl} {mo : Int32} {f : Nat → Option Nat} {w t i j t2 i2 j2 tv iv jv ci : Nat} {fs : List Value} {rc : vw_C}  (hC : Cx p m c cc nL s args own D cy sa de B) (hS : va_S (AB B) s.heap H locs) (hG : GW D B ad (X) H) (h0 : isL de cy ad X t i j t2 i2 j2 mo w f ∧ w ≤ 16 ∧ okEl ad X f w ∧ (∀ k, w ≤ k → f k = none) ∧ X 19 0 0 = none ∧ t < 19 ∧ t2 < 19 ∧ ¬ (t = t2 ∧ i = i2 ∧ j = j2) ∧ X tv iv jv = some (.inr (ci, fs)) ∧ vwCl[ci]? = some rc ∧ (rc.1, "java/lang/Object") ∈ castL ∧ ¬ (tv = t2 ∧ iv = i2 ∧ jv = j2) ∧ ¬ (tv = t ∧ iv = i ∧ jv = j))  {idx : Nat} (wl : Cond.methodLink own idx yJx4a65c_add_9ea2d ∈ G0) (hR : 7 + 1 ≤ R.frames ∧ 8 + (2 + 11) + 170 ≤ R.locals) (hsz : ls.size = nL) (hst : (rest.map fun v => v.category).sum ≤ 8) (hdg : decode cc pc = .ok (.invokevirtual idx, 3)) (hcs : cells + 1 ≤ R.cells ∧ slots + 22 ≤ R.slots) (kk : ∀ (r9 : Int32) (H1 : Heap) (locs1 : List Loc), ((fun r H => r = 1 ∧ ∃ q, GW D B (up3 ad t2 i2 j2 q) (up3 (up3 X t2 i2 j2 (some (eQ (cy 6) (capL (w + 1)) (va_up f w (some (ad tv iv jv)))))) t i j (some (.inr (0, [.int (mo + 1), .ref q, .int (nI (w + 1))])))) H)) r9 H1 → va_S (AB B) s.heap H1 locs1 → W p l e R s m args below meth c H1 locs1 (cells + 1) (slots + 22) Q (F0 m (pc + 3) ls (.int r9 :: rest))) : W p l e R s m args below meth c H locs cells slots Q (F0 m pc ls (.ref (ad tv iv jv) :: .ref (ad t i j) :: rest)) :=
  va_calli (rV hC hS hG h0 (As := [.ref (ad tv iv jv)]) (c_Jx4a65c_add_9ea2d l) ⟨rfl, rfl⟩ wl im_Jx4a65c_add_9ea2d sl_Jx4a65c_Jx4a65c_add_9ea2d in_Jx4a65c cd_Jx4a65c_add_9ea2d (n := 1) (by decide +kernel) hR (recv hC hG (q := (RJx4a65c, TJx4a65c, 3)) rfl h0.1.1) rfl hsz hst rfl hdg hcs) hS (fun _ _ h => h) (fun _ h => h) (fun r u t H1 locs1 ht _ hr hB _ _ hS1 => by subst hr; exact kk r H1 locs1 (by (try dsimp only at hB); rw [ht] at hB; exact hB) hS1)
