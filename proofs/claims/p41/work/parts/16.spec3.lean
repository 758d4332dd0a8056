/-! WORDS FOR THE NUMBERS, 3: an event's entries. -/
theorem lo_set2 {ls' : Array Slot} {nL i : Nat} {v : Value} {vs : List (Option Value)} (hp : okp vs i = true) (h' : lv_has ls' nL ((i, v) :: (lvOf vs).filter (fun q => !(q.1 == i) && (!(q.1 == i + 1) && !(q.1 + 1 == i && q.2.category == 2))))) : lo ls' nL ((vs.set i (some v)).set (i + 1) none) := by
  refine ⟨h'.1, h'.2.1, fun a w hw => ?_⟩
  by_cases hc : a = i + 1
  · subst hc
    have hl := (List.getElem?_eq_some_iff.mp hw).1
    rw [List.length_set] at hl
    rw [List.getElem?_set_self hl] at hw
    cases hw
  · rw [List.getElem?_set_ne (Ne.symm hc)] at hw
    by_cases ha : a = i
    · subst ha
      have hl : a < vs.length := by
        have h1 := (List.getElem?_eq_some_iff.mp hw).1
        rw [List.length_set] at h1; exact h1
      rw [List.getElem?_set_self hl] at hw
      cases hw
      exact h'.2.2 _ List.mem_cons_self
    · rw [List.getElem?_set_ne (Ne.symm ha)] at hw
      refine h'.2.2 (a, w) (List.mem_cons_of_mem _ (List.mem_filter.mpr ⟨lvOf_mem hw, ?_⟩))
      have h1 : (a == i) = false := by simpa using ha
      have h3 : (a == i + 1) = false := by simpa using hc
      by_cases hb : a + 1 = i
      · subst hb
        have h2 : w.category = 1 := by
          unfold okp at hp
          simp only [hw] at hp
          simpa using hp
        simp [h1, h2]
        omega
      · simp [h1, h3, hb]
section LO2
variable {p : Program} {l : Launch} {e : Env} {R : Room} {s : State} {m : MethodId} {args : Array Value} {below : List Frame} {meth : Method} {c : Code} {H : Heap} {locs : List Loc} {cells slots : Nat} {Q : State → Prop}
variable {cc : ByteArray} {pc nL : Nat} {ls : Array Slot} {rest : List Value} {vs : List (Option Value)}
theorem o_lstore_n (hx : p.tables.exec = Jvm.exec) (hb : c.code = cc) {k : Fin 4} {x : Int64} (hdg : decode cc pc = .ok (.lstore_n k, 1)) (hl : lo ls nL vs) (hi : (k : Nat) + 1 < nL) (hp : okp vs k = true)
    (kk : ∀ ls' : Array Slot, lo ls' nL ((vs.set k (some (.long x))).set (k + 1) none) → W p l e R s m args below meth c H locs cells slots Q (F0 m (pc + 1) ls' rest)) : W p l e R s m args below meth c H locs cells slots Q (F0 m pc ls (.long x :: rest)) := lv_lstore_n hx hb hdg rfl (lo_lv hl) hi rfl (fun ls' h => kk ls' (lo_set2 hp h))
theorem o_lstore (hx : p.tables.exec = Jvm.exec) (hb : c.code = cc) {k : Nat} {x : Int64} (hdg : decode cc pc = .ok (.lstore k, 2)) (hl : lo ls nL vs) (hi : k + 1 < nL) (hp : okp vs k = true)
    (kk : ∀ ls' : Array Slot, lo ls' nL ((vs.set k (some (.long x))).set (k + 1) none) → W p l e R s m args below meth c H locs cells slots Q (F0 m (pc + 2) ls' rest)) : W p l e R s m args below meth c H locs cells slots Q (F0 m pc ls (.long x :: rest)) := lv_lstore hx hb hdg (lo_lv hl) hi rfl (fun ls' h => kk ls' (lo_set2 hp h))
end LO2
theorem nI_ne_m1 {q : Nat} (h : q < 2 ^ 31) : ¬ nI q = -1 := fun e => absurd (show nI q < 0 by rw [e]; decide) (nI_pos h)
/-- how many of the first numbers have P -/
noncomputable def cnt (P : Nat → Prop) : Nat → Int32
  | 0 => 0
  | c + 1 => cif (P c) (cnt P c + 1) (cnt P c)
theorem cnt_t {P : Nat → Prop} {c : Nat} (h : P c) : cnt P (c + 1) = cnt P c + 1 := cif_t h
theorem cnt_f {P : Nat → Prop} {c : Nat} (h : ¬ P c) : cnt P (c + 1) = cnt P c := cif_f h
/-- where there is no entry there is no time, and none fell -/
def NE (S : St) : Prop := ∀ e a, S 20 e a = -1 → S 22 e a = -1 ∧ S 21 e a = 0
def entP (S : St) (e a : Nat) : Prop := ¬ S 20 e a = -1
def stP (S : St) (e a : Nat) : Prop := ¬ S 20 e a = -1 ∧ S 21 e a = 0
def fasP (S : St) (e b a : Nat) : Prop := ¬ S 22 e a = -1 ∧ S 22 e a < S 22 e b
def lanP (S : St) (e b a : Nat) : Prop := ¬ S 22 e a = -1 ∧ S 5 a 0 = S 5 b 0 ∧ aheadP S e a b
noncomputable def lnd (S : St) (e : Nat) : Nat → Int32
  | 0 => 0
  | c + 1 => cif (stP S e c) (lnd S e c ||| ((1 : Int32) <<< (S 5 c 0 &&& 31))) (lnd S e c)
theorem lnd_t {S : St} {e c : Nat} (h : stP S e c) : lnd S e (c + 1) = lnd S e c ||| ((1 : Int32) <<< (S 5 c 0 &&& 31)) := cif_t h
theorem lnd_f {S : St} {e c : Nat} (h : ¬ stP S e c) : lnd S e (c + 1) = lnd S e c := cif_f h
def bcF (x : Int32) : Int32 :=
  let a := x - (ushr x 1 &&& 1431655765)
  let b := (a &&& 858993459) + (ushr a 2 &&& 858993459)
  let c := b + ushr b 4 &&& 252645135
  let d := c + ushr c 8
  d + ushr d 16 &&& 63
/-- the next in the order of places behind bf, of the first c -/
def bef (S : St) (e : Nat) (bf : Option Nat) (c : Nat) : Prop := match bf with
  | none => True
  | some b => aheadP S e b c
def bet (S : St) (e c : Nat) (o : Option Nat) : Prop := match o with
  | none => True
  | some w => aheadP S e c w
noncomputable def nx (S : St) (e : Nat) (bf : Option Nat) : Nat → Option Nat
  | 0 => none
  | c + 1 => cif (timeP S e c ∧ bef S e bf c ∧ bet S e c (nx S e bf c)) (some c) (nx S e bf c)
theorem nx_t {S : St} {e c : Nat} {bf : Option Nat} (h : timeP S e c ∧ bef S e bf c ∧ bet S e c (nx S e bf c)) : nx S e bf (c + 1) = some c := cif_t h
theorem nx_f {S : St} {e c : Nat} {bf : Option Nat} (h : ¬ (timeP S e c ∧ bef S e bf c ∧ bet S e c (nx S e bf c))) : nx S e bf (c + 1) = nx S e bf c := cif_f h
theorem nx_in {S : St} {e : Nat} {bf : Option Nat} : ∀ (c : Nat) {w : Nat}, nx S e bf c = some w → w < c ∧ timeP S e w
  | 0, _, h => by cases h
  | c + 1, w, h => by
    by_cases hz : timeP S e c ∧ bef S e bf c ∧ bet S e c (nx S e bf c)
    · rw [nx_t hz] at h
      cases h
      exact ⟨by omega, hz.1⟩
    · rw [nx_f hz] at h
      have := nx_in c h
      exact ⟨by omega, this.2⟩
theorem live {S : St} {n : Nat → Nat} {e w : Nat} (hW : WF S n) (hN : NE S) (h : timeP S e w) : e < n 3 ∧ w < n 0 ∧ w < 16 ∧ neg (S 20 e w) = false ∧ ∃ q, q < n 2 ∧ S 20 e w = nI q := by
  obtain ⟨b0, b1, b2, b3, -, -, -, -, -, hE, -⟩ := hW
  rcases hE e w with h1 | ⟨h1, h2, q, h3, h4⟩
  · exact absurd (hN e w h1).1 h
  · exact ⟨h1, h2, by omega, by rw [h4]; exact neg_nI (by omega), q, h3, h4⟩
abbrev eo (ad : Ad) (e : Nat) (o : Option Nat) : Option Nat := o.map (fun a => ad 11 e a)
/-- the entry at an index of the order of places -/
noncomputable def io (S : St) (e : Nat) : Nat → Option Nat
  | 0 => nx S e none 16
  | k + 1 => match io S e k with
    | none => none
    | some b => nx S e (some b) 16
theorem io_s {S : St} {e k b : Nat} (h : io S e k = some b) : io S e (k + 1) = nx S e (some b) 16 := by
  show (match io S e k with | none => none | some b => nx S e (some b) 16) = _
  rw [h]
theorem io_n {S : St} {e k : Nat} (h : io S e k = none) : io S e (k + 1) = none := by
  show (match io S e k with | none => none | some b => nx S e (some b) 16) = _
  rw [h]
theorem io_no {S : St} {e k : Nat} (h : io S e k = none) : ∀ d, io S e (k + d) = none
  | 0 => h
  | d + 1 => io_n (io_no h d)
theorem io_none {S : St} {e k a : Nat} (h : io S e k = none) (ha : k ≤ a) : io S e a = none := by
  have := io_no h (a - k)
  rwa [show k + (a - k) = a by omega] at this
theorem io_time {S : St} {e w : Nat} : ∀ (k : Nat), io S e k = some w → timeP S e w
  | 0, h => (nx_in 16 h).2
  | k + 1, h => by
    cases hz : io S e k with
    | none => rw [io_n hz] at h; cases h
    | some b => rw [io_s hz] at h; exact (nx_in 16 h).2
noncomputable def ordn (S : St) (e : Nat) (x : Int32) : Option Nat := cif (ix x 16) (io S e x.toNatClampNeg) none
/-- how many of the first in the order can have a slot -/
noncomputable def gv (S : St) (e : Nat) : Nat → Int32
  | 0 => 0
  | y + 1 => match io S e y with
    | none => gv S e y
    | some w => cif (cnt (lanP S e w) 16 < 2) (gv S e y + 1) (gv S e y)
theorem gv_t {S : St} {e y w : Nat} (h : io S e y = some w) (hc : cnt (lanP S e w) 16 < 2) : gv S e (y + 1) = gv S e y + 1 := by
  show (match io S e y with | none => gv S e y | some w => cif (cnt (lanP S e w) 16 < 2) (gv S e y + 1) (gv S e y)) = _
  rw [h]; exact cif_t hc
theorem gv_f {S : St} {e y w : Nat} (h : io S e y = some w) (hc : ¬ cnt (lanP S e w) 16 < 2) : gv S e (y + 1) = gv S e y := by
  show (match io S e y with | none => gv S e y | some w => cif (cnt (lanP S e w) 16 < 2) (gv S e y + 1) (gv S e y)) = _
  rw [h]; exact cif_f hc
noncomputable def slF (S : St) (e : Nat) (x : Int32) : Nat → Nat → Option Nat
  | _, 0 => none
  | y, r + 1 => match io S e y with
    | none => none
    | some w => cif (cnt (lanP S e w) 16 < 2 ∧ gv S e y = x) (some w) (slF S e x (y + 1) r)
theorem slF_end {S : St} {e y m : Nat} {x : Int32} (h : m ≤ y) : slF S e x y (m - y) = none := by rw [show m - y = 0 by omega]; rfl
theorem slF_none {S : St} {e y : Nat} {x : Int32} (h : io S e y = none) : ∀ r, slF S e x y r = none
  | 0 => rfl
  | r + 1 => by
    show (match io S e y with | none => none | some w => cif (cnt (lanP S e w) 16 < 2 ∧ gv S e y = x) (some w) (slF S e x (y + 1) r)) = none
    rw [h]
theorem slF_yes {S : St} {e y m w : Nat} {x : Int32} (hy : y < m) (h : io S e y = some w) (hc : cnt (lanP S e w) 16 < 2 ∧ gv S e y = x) : slF S e x y (m - y) = some w := by
  obtain ⟨r, hr⟩ : ∃ r, m - y = r + 1 := ⟨m - y - 1, by omega⟩
  rw [hr]
  show (match io S e y with | none => none | some w => cif (cnt (lanP S e w) 16 < 2 ∧ gv S e y = x) (some w) (slF S e x (y + 1) r)) = _
  rw [h]; exact cif_t hc
theorem slF_no {S : St} {e y m w : Nat} {x : Int32} (hy : y < m) (h : io S e y = some w) (hc : ¬ (cnt (lanP S e w) 16 < 2 ∧ gv S e y = x)) : slF S e x y (m - y) = slF S e x (y + 1) (m - (y + 1)) := by
  obtain ⟨r, hr⟩ : ∃ r, m - y = r + 1 := ⟨m - y - 1, by omega⟩
  rw [hr, show m - (y + 1) = r by omega]
  show (match io S e y with | none => none | some w => cif (cnt (lanP S e w) 16 < 2 ∧ gv S e y = x) (some w) (slF S e x (y + 1) r)) = _
  rw [h]; exact cif_f hc
theorem slF_in {S : St} {e : Nat} {x : Int32} {w : Nat} : ∀ (r y : Nat), slF S e x y r = some w → timeP S e w
  | 0, _, h => by cases h
  | r + 1, y, h => by
    cases hz : io S e y with
    | none => rw [slF_none hz] at h; cases h
    | some b =>
      by_cases hc : cnt (lanP S e b) 16 < 2 ∧ gv S e y = x
      · have := slF_yes (m := y + (r + 1)) (by omega) hz hc
        rw [show y + (r + 1) - y = r + 1 by omega] at this
        rw [this] at h; cases h
        exact io_time _ hz
      · have := slF_no (m := y + (r + 1)) (by omega) hz hc
        rw [show y + (r + 1) - y = r + 1 by omega, show y + (r + 1) - (y + 1) = r by omega] at this
        rw [this] at h
        exact slF_in r _ h
/-- the times of an event behind a sum -/
noncomputable def sumT (S : St) (e : Nat) (x : Int64) : Nat → Int64
  | 0 => x
  | c + 1 => cif (S 20 e c = -1) (sumT S e x c) (31 * sumT S e x c + (cif (timeP S e c) (S 22 e c) 0).toInt64)
theorem sumT_n {S : St} {e c : Nat} {x : Int64} (h : S 20 e c = -1) : sumT S e x (c + 1) = sumT S e x c := cif_t h
theorem sumT_t {S : St} {e c : Nat} {x : Int64} (h : ¬ S 20 e c = -1) (ht : timeP S e c) : sumT S e x (c + 1) = 31 * sumT S e x c + (S 22 e c).toInt64 := (cif_f h).trans (by rw [cif_t ht])
theorem sumT_f {S : St} {e c : Nat} {x : Int64} (h : ¬ S 20 e c = -1) (ht : ¬ timeP S e c) : sumT S e x (c + 1) = 31 * sumT S e x c + (0 : Int32).toInt64 := (cif_f h).trans (by rw [cif_f ht])
def badE (S : St) (e a : Nat) : Prop := S 19 e 0 = 0 ∧ ¬ S 20 e a = -1 ∧ S 21 e a = 0 ∧ ¬ S 10 a 0 = S 20 e a
def ptsOf (S : St) (i : Nat) : Int32 := if S 10 i 0 = -1 then 0 else S 10 i 0 + 1
/-- what isInOrder asks of an athlete -/
def okA (S : St) (i : Nat) : Prop := ¬ (S 9 i 0 = 99 ∧ ∀ q, q < 8 → S 10 i 0 = nI q → ¬ holdsP S q (fMea S i 2)) ∧ ¬ (¬ S 11 i 0 = 0 ∧ (S 9 i 0 = 120 ∨ S 10 i 0 = -1)) ∧ (S 10 i 0 = -1 ∨ mayP S i)
def forP (S : St) (e : Nat) (x : Int32) : Prop := ix x 8 ∧ bitP (S 16 e 0) x