/-! THE WORLD: every cell of the game, of the reference and of the law has a role (t, i, j); 'ad' says where it lies, 'V' what it holds. -/
abbrev St : Type := Nat → Nat → Nat → Int32
abbrev Ad : Type := Nat → Nat → Nat → Nat
abbrev Rl : Type := Nat → Nat → Nat → Option va_E
abbrev AB (B : Nat) : Nat → Prop := fun q : Nat => B ≤ q
/-- f, but v at one place -/
def up3 {α : Type} (f : Nat → Nat → Nat → α) (a b c : Nat) (v : α) : Nat → Nat → Nat → α := fun x y z => if x = a ∧ y = b ∧ z = c then v else f x y z
theorem up3_self {α : Type} {f : Nat → Nat → Nat → α} {a b c : Nat} {v : α} : up3 f a b c v a b c = v := if_pos ⟨rfl, rfl, rfl⟩
theorem up3_ne {α : Type} {f : Nat → Nat → Nat → α} {a b c x y z : Nat} {v : α} (h : ¬ (x = a ∧ y = b ∧ z = c)) : up3 f a b c v x y z = f x y z := if_neg h
theorem up3_at {α : Type} {f : Nat → Nat → Nat → α} {a b c x y z : Nat} {v : α} : up3 f a b c v x y z = if x = a ∧ y = b ∧ z = c then v else f x y z := rfl
/-- the heap holds what V says, each role at a place of its own -/
def GW (D : va_G) (B : Nat) (ad : Ad) (V : Rl) (H : Heap) : Prop :=
  (∀ (t i j : Nat) (e : va_E), V t i j = some e → va_at D vwCl (ad t i j, e) H ∧ B ≤ ad t i j) ∧
  ∀ (t i j : Nat) (e : va_E) (t' i' j' : Nat) (e' : va_E), V t i j = some e → V t' i' j' = some e' → ad t i j = ad t' i' j' → t = t' ∧ i = i' ∧ j = j'
theorem GW.at {D : va_G} {B : Nat} {ad : Ad} {V : Rl} {H : Heap} (h : GW D B ad V H) {t i j : Nat} {e : va_E} (he : V t i j = some e) : va_at D vwCl (ad t i j, e) H := (h.1 t i j e he).1
theorem GW.ge {D : va_G} {B : Nat} {ad : Ad} {V : Rl} {H : Heap} (h : GW D B ad V H) {t i j : Nat} {e : va_E} (he : V t i j = some e) : B ≤ ad t i j := (h.1 t i j e he).2
theorem GW.lt {D : va_G} {B : Nat} {ad : Ad} {V : Rl} {H : Heap} (h : GW D B ad V H) {t i j : Nat} {e : va_E} (he : V t i j = some e) : ad t i j < H.size := (h.at he).lt
theorem GW.inj {D : va_G} {B : Nat} {ad : Ad} {V : Rl} {H : Heap} (h : GW D B ad V H) {t i j t' i' j' : Nat} {e e' : va_E} (he : V t i j = some e) (he' : V t' i' j' = some e') (ha : ad t i j = ad t' i' j') : t = t' ∧ i = i' ∧ j = j' := h.2 t i j e t' i' j' e' he he' ha
/-- its cells as a list of one: what the kit's rows ask -/
theorem GW.one {D : va_G} {B : Nat} {ad : Ad} {V : Rl} {H : Heap} (h : GW D B ad V H) {t i j : Nat} {e : va_E} (he : V t i j = some e) : va_P D vwCl [(ad t i j, e)] H := by
  intro k q hk
  have hz : k < 1 := (List.getElem?_eq_some_iff.mp hk).1
  have h0 : k = 0 := by omega
  subst h0
  cases hk
  exact h.at he
theorem one_D {A : Nat → Prop} {a : Nat} {e : va_E} (h : A a) : va_D A [(a, e)] := by
  have z : ∀ (k : Nat) (q : Nat × va_E), [(a, e)][k]? = some q → k = 0 ∧ q = (a, e) := by
    intro k q hk
    have hz : k < 1 := (List.getElem?_eq_some_iff.mp hk).1
    have h0 : k = 0 := by omega
    subst h0
    cases hk
    exact ⟨rfl, rfl⟩
  refine ⟨fun i j p q hp hq _ => by rw [(z i p hp).1, (z j q hq).1], fun k q hk => ?_⟩
  rw [(z k q hk).2]; exact h
theorem GW.kept {D : va_G} {B : Nat} {ad : Ad} {V : Rl} {H H1 : Heap} (h : GW D B ad V H) (hq : ∀ q : Nat, q < H.size → H1[q]? = H[q]?) : GW D B ad V H1 :=
  ⟨fun t i j e he => ⟨(h.at he).kept (hq _ (h.lt he)), h.ge he⟩, h.2⟩
theorem GW.put {D : va_G} {B : Nat} {ad : Ad} {V : Rl} {H H1 : Heap} (h : GW D B ad V H) {t i j : Nat} {e e' : va_E} (he : V t i j = some e) (e1 : va_at D vwCl (ad t i j, e') H1) (oq : ∀ q : Nat, q ≠ ad t i j → H1[q]? = H[q]?) : GW D B ad (up3 V t i j (some e')) H1 := by
  refine ⟨fun a b c x hx => ?_, fun a b c x a' b' c' x' hx hx' ha => ?_⟩
  · by_cases hz : a = t ∧ b = i ∧ c = j
    · obtain ⟨rfl, rfl, rfl⟩ := hz
      rw [up3_self] at hx
      cases hx
      exact ⟨e1, h.ge he⟩
    · rw [up3_ne hz] at hx
      exact ⟨(h.at hx).kept (oq _ (fun q => hz (h.inj hx he q))), h.ge hx⟩
  · have key : ∀ {a b c : Nat} {x : va_E}, up3 V t i j (some e') a b c = some x → ∃ y, V a b c = some y := by
      intro a b c x hx
      by_cases hz : a = t ∧ b = i ∧ c = j
      · obtain ⟨rfl, rfl, rfl⟩ := hz
        exact ⟨e, he⟩
      · rw [up3_ne hz] at hx
        exact ⟨x, hx⟩
    obtain ⟨y, hy⟩ := key hx
    obtain ⟨y', hy'⟩ := key hx'
    exact h.inj hy hy' ha
theorem GW.new {D : va_G} {B : Nat} {ad : Ad} {V : Rl} {H H1 : Heap} (h : GW D B ad V H) {t i j q : Nat} {e : va_E} (hn : V t i j = none) (hq : H.size ≤ q) (hB : B ≤ q) (e1 : va_at D vwCl (q, e) H1) (oq : ∀ x : Nat, x < H.size → H1[x]? = H[x]?) : GW D B (up3 ad t i j q) (up3 V t i j (some e)) H1 := by
  have key : ∀ {a b c : Nat} {x : va_E}, up3 V t i j (some e) a b c = some x → (a = t ∧ b = i ∧ c = j ∧ x = e ∧ up3 ad t i j q a b c = q) ∨ (V a b c = some x ∧ up3 ad t i j q a b c = ad a b c ∧ ad a b c < q) := by
    intro a b c x hx
    by_cases hz : a = t ∧ b = i ∧ c = j
    · obtain ⟨rfl, rfl, rfl⟩ := hz
      rw [up3_self] at hx
      cases hx
      exact Or.inl ⟨rfl, rfl, rfl, rfl, up3_self⟩
    · rw [up3_ne hz] at hx
      exact Or.inr ⟨hx, up3_ne hz, Nat.lt_of_lt_of_le (h.lt hx) hq⟩
  refine ⟨fun a b c x hx => ?_, fun a b c x a' b' c' x' hx hx' ha => ?_⟩
  · rcases key hx with ⟨-, -, -, rfl, h5⟩ | ⟨h1, h2, -⟩
    · rw [h5]; exact ⟨e1, hB⟩
    · rw [h2]; exact ⟨(h.at h1).kept (oq _ (h.lt h1)), h.ge h1⟩
  · rcases key hx with ⟨h1, h2, h3, -, h5⟩ | ⟨h1, h2, h3⟩ <;> rcases key hx' with ⟨g1, g2, g3, -, g5⟩ | ⟨g1, g2, g3⟩
    · exact ⟨h1.trans g1.symm, h2.trans g2.symm, h3.trans g3.symm⟩
    · rw [h5, g2] at ha; omega
    · rw [h2, g5] at ha; omega
    · rw [h2, g2] at ha; exact h.inj h1 g1 ha
/-- a cell is given another role -/
theorem GW.move {D : va_G} {B : Nat} {ad : Ad} {V : Rl} {H : Heap} (h : GW D B ad V H) {t i j t' i' j' : Nat} {e : va_E} (he : V t i j = some e) (hn : V t' i' j' = none) : GW D B (up3 ad t' i' j' (ad t i j)) (up3 (up3 V t i j none) t' i' j' (some e)) H := by
  have hne : ¬ (t = t' ∧ i = i' ∧ j = j') := by
    rintro ⟨rfl, rfl, rfl⟩
    rw [he] at hn; cases hn
  have key : ∀ {a b c : Nat} {x : va_E}, up3 (up3 V t i j none) t' i' j' (some e) a b c = some x → (a = t' ∧ b = i' ∧ c = j' ∧ x = e ∧ up3 ad t' i' j' (ad t i j) a b c = ad t i j) ∨ (V a b c = some x ∧ ¬ (a = t ∧ b = i ∧ c = j) ∧ up3 ad t' i' j' (ad t i j) a b c = ad a b c) := by
    intro a b c x hx
    by_cases hz : a = t' ∧ b = i' ∧ c = j'
    · obtain ⟨rfl, rfl, rfl⟩ := hz
      rw [up3_self] at hx
      cases hx
      exact Or.inl ⟨rfl, rfl, rfl, rfl, up3_self⟩
    · rw [up3_ne hz] at hx
      by_cases hy : a = t ∧ b = i ∧ c = j
      · obtain ⟨rfl, rfl, rfl⟩ := hy
        rw [up3_self] at hx; cases hx
      · rw [up3_ne hy] at hx
        exact Or.inr ⟨hx, hy, up3_ne hz⟩
  refine ⟨fun a b c x hx => ?_, fun a b c x a' b' c' x' hx hx' ha => ?_⟩
  · rcases key hx with ⟨-, -, -, rfl, h5⟩ | ⟨h1, h2, h3⟩
    · rw [h5]; exact ⟨h.at he, h.ge he⟩
    · rw [h3]; exact ⟨h.at h1, h.ge h1⟩
  · rcases key hx with ⟨h1, h2, h3, -, h5⟩ | ⟨h1, h2, h3⟩ <;> rcases key hx' with ⟨g1, g2, g3, -, g5⟩ | ⟨g1, g2, g3⟩
    · exact ⟨h1.trans g1.symm, h2.trans g2.symm, h3.trans g3.symm⟩
    · rw [h5, g3] at ha; exact absurd (h.inj he g1 ha) (fun z => g2 ⟨z.1.symm, z.2.1.symm, z.2.2.symm⟩)
    · rw [h3, g5] at ha; exact absurd (h.inj h1 he ha) h2
    · rw [h3, g3] at ha; exact h.inj h1 g1 ha
theorem GW.ext {D : va_G} {B : Nat} {ad ad' : Ad} {V V' : Rl} {H : Heap} (h : GW D B ad V H) (hV : ∀ t i j, V' t i j = V t i j) (ha : ∀ (t i j : Nat) (e : va_E), V t i j = some e → ad' t i j = ad t i j) : GW D B ad' V' H := by
  refine ⟨fun a b c x hx => ?_, fun a b c x a' b' c' x' hx hx' hh => ?_⟩
  · rw [hV] at hx
    rw [ha _ _ _ _ hx]; exact ⟨h.at hx, h.ge hx⟩
  · rw [hV] at hx hx'
    rw [ha _ _ _ _ hx, ha _ _ _ _ hx'] at hh
    exact h.inj hx hx' hh
/-- fewer roles -/
theorem GW.less {D : va_G} {B : Nat} {ad : Ad} {V V' : Rl} {H : Heap} (h : GW D B ad V H) (hV : ∀ (t i j : Nat) (e : va_E), V' t i j = some e → V t i j = some e) : GW D B ad V' H :=
  ⟨fun a b c x hx => ⟨h.at (hV _ _ _ _ hx), h.ge (hV _ _ _ _ hx)⟩, fun a b c x a' b' c' x' hx hx' hh => h.inj (hV _ _ _ _ hx) (hV _ _ _ _ hx') hh⟩
/-! WHAT THE ROLES HOLD. S: the numbers of the game by code and two places (below); n: 0..3 how long its four lists are, 4..7 how many athletes, classifiers, kinds, events are made.
Codes: 0 a list's modCount, 1 found (class), 2 until (class) | 5 land, 6 is, 7 told, 8 wasFound, 9 status, 10 kind (-1 none), 11 stands, 12 classifier's land, 13 kind's four numbers, 14 record, 15 money, 16 event's kinds, 17 factors, 18 began, 19 closed, 20 entry's kind (-1 none), 21 fell, 22 time (-1 none), 23 year | 30 found (model), 31 until (model). -/
def neg (x : Int32) : Bool := decide (x < 0)
theorem neg_t {x : Int32} (h : x < 0) : neg x = true := decide_eq_true h
theorem neg_f {x : Int32} (h : ¬ x < 0) : neg x = false := decide_eq_false h
theorem neg_nI {a : Nat} (h : a < 2 ^ 31) : neg (nI a) = false := neg_f (nI_pos h)
theorem neg_m1 : neg (-1) = true := rfl
def kro (ad : Ad) (x : Int32) : Option Nat := if neg x = true then none else some (ad 7 x.toNatClampNeg 0)
def elT (k : Nat) : Nat := if k = 0 then 3 else if k = 1 then 6 else if k = 2 then 7 else 8
def capL (n : Nat) : Nat := if n ≤ 10 then 10 else if n ≤ 15 then 15 else 22
abbrev eI (c : ClassId) (n : Nat) (f : Nat → Int32) : va_E := .inl (c, n, .inl f)
abbrev eQ (c : ClassId) (n : Nat) (f : Nat → Option Nat) : va_E := .inl (c, n, .inr (.inr (.inr (.inr f))))
def eGames (ad : Ad) (S : St) : va_E := .inr (7, [.ref (ad 1 0 0), .ref (ad 1 1 0), .ref (ad 1 2 0), .ref (ad 1 3 0), .ref (ad 12 0 0), .int (S 23 0 0)])
def eList (de : Nat) (ad : Ad) (S : St) (n : Nat → Nat) (i : Nat) : va_E := .inr (0, [.int (S 0 i 0), .ref (if n i = 0 then de else ad 2 i 0), .int (nI (n i))])
def fData (ad : Ad) (n : Nat → Nat) (i : Nat) : Nat → Option Nat := fun k => if k < n i then some (ad (elT i) k 0) else none
def eAth (ad : Ad) (S : St) (i : Nat) : va_E := .inr (1, [.int (nI i), .int (S 5 i 0), .ref (ad 4 i 0), .ref (ad 4 i 1), .ref (ad 4 i 2), .int (S 8 i 0), .int (S 9 i 0), va_rf (kro ad (S 10 i 0)), .int (S 2 i 0), .int (S 11 i 0)])
def fMea (S : St) (i k : Nat) : Nat → Int32 := fun j => if k = 0 then S 6 i j else if k = 1 then S 7 i j else S 1 i j
def eKind (S : St) (i : Nat) : va_E := .inr (5, [.int (nI i), .int (S 13 i 0), .int (S 13 i 1), .int (S 13 i 2), .int (S 13 i 3), .int (S 14 i 0)])
def eEvent (ad : Ad) (S : St) (i : Nat) : va_E := .inr (4, [.int (S 16 i 0), .ref (ad 9 i 0), .ref (ad 10 i 0), .int (S 18 i 0), .int (S 19 i 0)])
def fEnt (ad : Ad) (S : St) (i : Nat) : Nat → Option Nat := fun a => if neg (S 20 i a) = true then none else some (ad 11 i a)
def eEnt (ad : Ad) (S : St) (i a : Nat) : va_E := .inr (3, [.ref (ad 3 a 0), va_rf (kro ad (S 20 i a)), .int (S 21 i a), .int (S 22 i a)])
def VC (cy : Nat → ClassId) (de : Nat) (ad : Ad) (S : St) (n : Nat → Nat) (t i j : Nat) : Option va_E := match t with
  | 0 => if i = 0 ∧ j = 0 then some (eGames ad S) else none
  | 1 => if i < 4 ∧ j = 0 then some (eList de ad S n i) else none
  | 2 => if i < 4 ∧ j = 0 ∧ 0 < n i then some (eQ (cy 6) (capL (n i)) (fData ad n i)) else none
  | 3 => if i < n 4 ∧ j = 0 then some (eAth ad S i) else none
  | 4 => if i < n 4 ∧ j < 3 then some (.inr (6, [.ref (ad 5 i j)])) else none
  | 5 => if i < n 4 ∧ j < 3 then some (eI (cy 0) 5 (fMea S i j)) else none
  | 6 => if i < n 5 ∧ j = 0 then some (.inr (2, [.int (S 12 i 0)])) else none
  | 7 => if i < n 6 ∧ j = 0 then some (eKind S i) else none
  | 8 => if i < n 7 ∧ j = 0 then some (eEvent ad S i) else none
  | 9 => if i < n 7 ∧ j = 0 then some (eI (cy 0) 8 (fun x => S 17 i x)) else none
  | 10 => if i < n 7 ∧ j = 0 then some (eQ (cy 5) 16 (fEnt ad S i)) else none
  | 11 => if i < n 7 ∧ j < 16 ∧ neg (S 20 i j) = false then some (eEnt ad S i j) else none
  | 12 => if i = 0 ∧ j = 0 then some (eI (cy 0) 6 (fun x => S 15 x 0)) else none
  | _ => none
def eModel (ad : Ad) (T : St) (k : Nat → Nat) (th : Int32) : Option va_E := none
def VA (cy : Nat → ClassId) (ad : Ad) (T : St) (f : Nat) : Option va_E := none
def VB (cy : Nat → ClassId) (T : St) (f x : Nat) : Option va_E := none
/-- the whole: the class's roles 0..12, the reference's 13..15, loose cells from 16 on -/
def Vw (cy : Nat → ClassId) (de : Nat) (ad : Ad) (S : St) (n : Nat → Nat) (T : St) (k : Nat → Nat) (th : Int32) (X : Rl) : Rl := fun t i j =>
  if t < 13 then VC cy de ad S n t i j else if t = 13 then (if i = 0 ∧ j = 0 then eModel ad T k th else none) else if t = 14 then (if j = 0 then VA cy ad T i else none) else if t = 15 then VB cy T i j else X t i j
/-! WHAT A BODY STANDS ON: the machine, the code, the words, the tables, the statics. -/
abbrev tyL (cy : Nat → ClassId) : List (ClassId × FieldType) := [(cy 0, .int), (cy 0, .int), (cy 0, .int), (cy 0, .int), (cy 0, .int), (cy 0, .int), (cy 6, .object "java/lang/Object"), (cy 7, .array .int)]
/-- tables' words that a throw asks and that aren't among the good ones -/
def castL : List (String × String) := [("java/lang/IndexOutOfBoundsException", "java/lang/IndexOutOfBoundsException"), ("java/lang/IllegalStateException", "java/lang/IllegalStateException"), ("java/lang/IllegalArgumentException", "java/lang/IllegalArgumentException"), ("java/util/NoSuchElementException", "java/util/NoSuchElementException"), ("java/lang/UnsupportedOperationException", "java/lang/UnsupportedOperationException"), ("EvenstartGames", "java/lang/Object"), ("java/util/ArrayList", "java/lang/Object"), ("java/lang/IndexOutOfBoundsException", "java/lang/Object"), ("java/lang/IllegalStateException", "java/lang/Object"), ("EvenstartGames$Athlete", "java/lang/Object"), ("EvenstartGames$Measures", "java/lang/Object"), ("java/lang/IllegalArgumentException", "java/lang/Object"), ("java/util/NoSuchElementException", "java/lang/Object"), ("EvenstartGames$Classifier", "java/lang/Object"), ("EvenstartGames$Kind", "java/lang/Object"), ("java/lang/UnsupportedOperationException", "java/lang/Object"), ("java/lang/Throwable", "java/lang/Object"), ("java/lang/String", "java/lang/Object"), ("[I", "java/lang/Object"), ("[B", "java/lang/Object"), ("[Ljava/lang/Object;", "java/lang/Object"), ("[[I", "java/lang/Object")]
def declL : List MethodName := [⟨"java/lang/RuntimeException", "<init>", "()V"⟩, ⟨"java/lang/RuntimeException", "<init>", "(Ljava/lang/String;)V"⟩, ⟨"java/lang/Exception", "<init>", "()V"⟩, ⟨"java/lang/Exception", "<init>", "(Ljava/lang/String;)V"⟩, ⟨"java/lang/Throwable", "<init>", "()V"⟩, ⟨"java/lang/Throwable", "<init>", "(Ljava/lang/String;)V"⟩]
def ncL : List (String × String) := [("java/lang/IllegalStateException", "java/lang/IndexOutOfBoundsException"), ("java/lang/IllegalArgumentException", "java/lang/IndexOutOfBoundsException"), ("java/util/NoSuchElementException", "java/lang/IndexOutOfBoundsException"), ("java/lang/UnsupportedOperationException", "java/lang/IndexOutOfBoundsException"), ("java/lang/IndexOutOfBoundsException", "java/lang/IllegalStateException"), ("java/lang/IllegalArgumentException", "java/lang/IllegalStateException"), ("java/util/NoSuchElementException", "java/lang/IllegalStateException"), ("java/lang/UnsupportedOperationException", "java/lang/IllegalStateException"), ("java/lang/IndexOutOfBoundsException", "java/lang/IllegalArgumentException"), ("java/lang/IllegalStateException", "java/lang/IllegalArgumentException"), ("java/util/NoSuchElementException", "java/lang/IllegalArgumentException"), ("java/lang/UnsupportedOperationException", "java/lang/IllegalArgumentException"), ("java/lang/IndexOutOfBoundsException", "java/util/NoSuchElementException"), ("java/lang/IllegalStateException", "java/util/NoSuchElementException"), ("java/lang/IllegalArgumentException", "java/util/NoSuchElementException"), ("java/lang/UnsupportedOperationException", "java/util/NoSuchElementException"), ("java/lang/IndexOutOfBoundsException", "java/lang/UnsupportedOperationException"), ("java/lang/IllegalStateException", "java/lang/UnsupportedOperationException"), ("java/lang/IllegalArgumentException", "java/lang/UnsupportedOperationException"), ("java/util/NoSuchElementException", "java/lang/UnsupportedOperationException")]
def strL : List (Nat × String) := [(402, "there is no such land"), (39, "there are 16 athletes"), (408, "there is no such athlete"), (404, "there is no such measure"), (62, "a measure is 0 to 100"), (78, "what is shown is 0 to 100, or -1"), (92, "nothing was found"), (98, "there are 8 classifiers"), (104, "a least lack is 1 to 100"), (406, "bounds are 0 to 500, the greatest not less"), (109, "there are 8 classes"), (410, "there is no such classifier"), (139, "the panel is not of unlike lands"), (147, "the athlete is banned"), (161, "the athlete is not new or under review"), (167, "the athlete has no result"), (177, "the athlete is not new, confirmed or under review"), (179, "the land has less than 100"), (402, "there is no such land"), (200, "it is the year 40"), (211, "there is no ban and no review"), (402, "there is no such land"), (402, "there is no such land"), (402, "there is no such land"), (402, "there is no such land"), (402, "there is no such land"), (402, "there is no such land"), (402, "there is no such land"), (402, "there is no such land"), (402, "there is no such land"), (402, "there is no such land"), (402, "there is no such land"), (402, "there is no such land"), (402, "there is no such land"), (402, "there is no such land"), (402, "there is no such land"), (402, "there is no such land"), (402, "there is no such land"), (402, "there is no such land"), (402, "there is no such land"), (402, "there is no such land"), (402, "there is no such land"), (402, "there is no such land"), (402, "there is no such land"), (402, "there is no such land"), (402, "there is no such land")]
def KS (D : va_G) (cy : Nat → ClassId) (sa : Nat → Nat) (U : State) : Prop :=
  va_K D vwCl (tyL cy) U ∧ va_Nw (.castable "EvenstartGames" "java/lang/Object") U ∧ (∀ q ∈ castL, va_Nw (.castable q.1 q.2) U) ∧ (∀ q ∈ declL, va_Nw (.declares q) U) ∧ (∀ q ∈ ncL, va_Nc q.1 q.2 U) ∧ (∀ (i : Nat) (q : Nat × String), strL[i]? = some q → vk_R RX6 q.1 q.2 (sa i) U) ∧ va_AO "java/lang/Object" U ∧ va_AO "java/lang/Object" U ∧ va_Mi "[Ljava/lang/Object;" (sa 1000) U ∧ va_Dc U
theorem KS.warm {D : va_G} {cy : Nat → ClassId} {sa : Nat → Nat} {s U : State} (hW : s.WarmedH U.vm) (h : KS D cy sa s) : KS D cy sa U := by
  obtain ⟨h1, h2, h3, h4, h5, h6, h7, h8, h9, h10⟩ := h
  exact ⟨va_K.moved hW.alike h1, va_Nw.warmC hW h2, fun q hq => va_Nw.warmC hW (h3 q hq), fun q hq => va_Nw.warmD hW (h4 q hq), fun q hq => va_Nc.moved hW.alike (h5 q hq), fun i q hq => vk_R.warm hW (h6 i q hq), va_AO.moved hW.alike h7, va_AO.moved hW.alike h8, va_Mi.moved hW.alike h9, va_Dc.moved hW.alike h10⟩
theorem KS.same {D : va_G} {cy : Nat → ClassId} {sa : Nat → Nat} {s U : State} (hv : s.vm = U.vm) (h : KS D cy sa s) : KS D cy sa U := by
  obtain ⟨h1, h2, h3, h4, h5, h6, h7, h8, h9, h10⟩ := h
  have hal : s.vm.Alike U.vm := by rw [← hv]; exact Vm.Alike.refl s.vm
  exact ⟨va_K.moved hal h1, va_Nw.same rfl hv h2, fun q hq => va_Nw.same rfl hv (h3 q hq), fun q hq => va_Nw.same rfl hv (h4 q hq), fun q hq => va_Nc.moved hal (h5 q hq), fun i q hq => vk_R.same hv.symm (h6 i q hq), va_AO.moved hal h7, va_AO.moved hal h8, va_Mi.moved hal h9, va_Dc.moved hal h10⟩
/-- the statics: they lie below B, where nothing is written -/
def SF (B de : Nat) (U : State) (H : Heap) : Prop := vx_Zq Bundle.tN "UNASSIGNED_STACK" Bundle.steD (AB B) U H ∧ vx_Zq Bundle.tN "SUPPRESSED_SENTINEL" Bundle.listD (AB B) U H ∧ va_Z "java/util/ArrayList" "DEFAULTCAPACITY_EMPTY_ELEMENTDATA" "[Ljava/lang/Object;" (.ref de) (AB B) U H ∧ va_T (.object "java/lang/Object") de 0 (fun _ => .null) (AB B) U H
theorem SF.moved {B de : Nat} {u U : State} {H : Heap} (hvm : u.vm.Alike U.vm) (h : SF B de u H) : SF B de U H := ⟨h.1.moved hvm, h.2.1.moved hvm, va_Z.moved hvm h.2.2.1, va_T.moved hvm h.2.2.2⟩
theorem SF.kept {B de : Nat} {U : State} {H H1 : Heap} (h : SF B de U H) (hq : ∀ a : Nat, a < H.size → ¬ AB B a → H1[a]? = H[a]?) : SF B de U H1 := ⟨h.1.kept hq, h.2.1.kept hq, va_Z.kept h.2.2.1 hq, va_T.kept h.2.2.2 hq⟩
/-- a world at a state -/
def Wd (D : va_G) (cy : Nat → ClassId) (sa : Nat → Nat) (de B : Nat) (ad : Ad) (V : Rl) (U : State) : Prop := KS D cy sa U ∧ SF B de U U.heap ∧ B ≤ U.heap.size ∧ GW D B ad V U.heap
theorem Wd.blind {D : va_G} {cy : Nat → ClassId} {sa : Nat → Nat} {de B : Nat} {ad : Ad} {V : Rl} {U U' : State} (hv : U'.vm = U.vm) (hh : U'.heap = U.heap) (h : Wd D cy sa de B ad V U) : Wd D cy sa de B ad V U' := by
  obtain ⟨h1, h2, h3, h4⟩ := h
  refine ⟨h1.same hv.symm, ?_, by rw [hh]; exact h3, by rw [hh]; exact h4⟩
  rw [hh]; exact h2.moved (by rw [hv]; exact Vm.Alike.refl U.vm)
def Cx (p : Program) (m : MethodId) (c : Code) (cc : ByteArray) (nL : Nat) (s : State) (args : Array Value) (own : String) (D : va_G) (cy : Nat → ClassId) (sa : Nat → Nat) (de B : Nat) : Prop :=
  (p.tables.exec = Jvm.exec ∧ c.code = cc ∧ c.maxLocals = nL ∧ s.vm.findClass own = some m.cls ∧ ∀ w ∈ G0, w.before args s = true) ∧ KS D cy sa s ∧ SF B de s s.heap ∧ B ≤ s.heap.size
section CXR
variable {p : Program} {m : MethodId} {c : Code} {cc : ByteArray} {nL : Nat} {s : State} {args : Array Value} {own : String} {D : va_G} {cy : Nat → ClassId} {sa : Nat → Nat} {de B : Nat}
theorem Cx.x (h : Cx p m c cc nL s args own D cy sa de B) : p.tables.exec = Jvm.exec := h.1.1
theorem Cx.b (h : Cx p m c cc nL s args own D cy sa de B) : c.code = cc := h.1.2.1
theorem Cx.l (h : Cx p m c cc nL s args own D cy sa de B) : c.maxLocals = nL := h.1.2.2.1
theorem Cx.o (h : Cx p m c cc nL s args own D cy sa de B) : s.vm.findClass own = some m.cls := h.1.2.2.2.1
theorem Cx.t (h : Cx p m c cc nL s args own D cy sa de B) : ∀ w ∈ G0, w.before args s = true := h.1.2.2.2.2
theorem Cx.k (h : Cx p m c cc nL s args own D cy sa de B) : KS D cy sa s := h.2.1
theorem Cx.K (h : Cx p m c cc nL s args own D cy sa de B) : va_K D vwCl (tyL cy) s := h.2.1.1
theorem Cx.A (h : Cx p m c cc nL s args own D cy sa de B) : ∀ q : Nat, s.heap.size ≤ q → AB B q := fun _ h1 => Nat.le_trans h.2.2.2 h1
/-- the statics where the walk stands -/
theorem Cx.f (h : Cx p m c cc nL s args own D cy sa de B) {H : Heap} {locs : List Loc} (hS : va_S (AB B) s.heap H locs) : SF B de s H := h.2.2.1.kept (fun a h1 h2 => hS.2.1 a h1 h2)
/-- a world is handed to a callee -/
theorem Cx.w (h : Cx p m c cc nL s args own D cy sa de B) {H : Heap} {locs : List Loc} (hS : va_S (AB B) s.heap H locs) {ad : Ad} {V : Rl} (hG : GW D B ad V H) {U : State} (hU : U.heap = H) (hW : s.WarmedH U.vm) : Wd D cy sa de B ad V U := by
  subst hU
  exact ⟨h.k.warm hW, (h.f hS).moved hW.alike, Nat.le_trans h.2.2.2 hS.1, hG⟩
end CXR
section GR
variable {p : Program} {l : Launch} {e : Env} {R : Room} {s : State} {m : MethodId} {args : Array Value} {below : List Frame} {meth : Method} {c : Code} {H : Heap} {locs : List Loc} {cells slots : Nat} {Q : State → Prop}
variable {cc : ByteArray} {pc nL : Nat} {ls : Array Slot} {rest : List Value} {own : String} {D : va_G} {cy : Nat → ClassId} {sa : Nat → Nat} {de B : Nat} {ad : Ad} {V : Rl} {t i j : Nat}
theorem g_getS (hC : Cx p m c cc nL s args own D cy sa de B) (hG : GW D B ad V H) {ci : Nat} {fs : List Value} {C ref : String} {T : u_T} {N idx : Nat} (hus : ∀ w ∈ u_ws C T N, w ∈ G0) (hc : vwCl[ci]? = some (C, T, N)) (k : Nat) (hk : k < N) {v : Value} (hfl : Cond.fieldLink own idx ref (T k).2.1 (T k).2.2.1 ∈ G0) (hsame : ∀ x, s.fieldFound? (T k).1 (T k).2.1 (T k).2.2.1 = some x → s.fieldFound? ref (T k).2.1 (T k).2.2.1 = some x) (he : V t i j = some (.inr (ci, fs))) (hv : fs[k]? = some v) (hdg : decode cc pc = .ok (.getfield idx, 3))
    (kk : W p l e R s m args below meth c H locs cells slots Q (F0 m (pc + 3) ls (v :: rest))) : W p l e R s m args below meth c H locs cells slots Q (F0 m pc ls (.ref (ad t i j) :: rest)) :=
  va_get (ref := ref) hC.x hC.b hC.t hus hC.o hC.K (hG.one he) 0 rfl hc k hk (hC.t _ hfl) hsame hv hdg kk
theorem g_get (hC : Cx p m c cc nL s args own D cy sa de B) (hG : GW D B ad V H) {ci : Nat} {fs : List Value} {C : String} {T : u_T} {N idx : Nat} (hus : ∀ w ∈ u_ws C T N, w ∈ G0) (hc : vwCl[ci]? = some (C, T, N)) (k : Nat) (hk : k < N) {v : Value} (hfl : Cond.fieldLink own idx (T k).1 (T k).2.1 (T k).2.2.1 ∈ G0) (he : V t i j = some (.inr (ci, fs))) (hv : fs[k]? = some v) (hdg : decode cc pc = .ok (.getfield idx, 3))
    (kk : W p l e R s m args below meth c H locs cells slots Q (F0 m (pc + 3) ls (v :: rest))) : W p l e R s m args below meth c H locs cells slots Q (F0 m pc ls (.ref (ad t i j) :: rest)) :=
  g_getS hC hG hus hc k hk hfl (fun _ h => h) he hv hdg kk
theorem g_putS (hC : Cx p m c cc nL s args own D cy sa de B) (hG : GW D B ad V H) (hS : va_S (AB B) s.heap H locs) {ci : Nat} {fs : List Value} {C ref : String} {T : u_T} {N idx : Nat} (hus : ∀ w ∈ u_ws C T N, w ∈ G0) {ty0 : Nat → FieldType} (hty : ∀ k, k < N → parseFieldDescriptor (T k).2.2.1 = some (ty0 k)) (hnm : ∀ a, a < N → ∀ b, b < N → a ≠ b → (T a).2.1 ≠ (T b).2.1) (hc : vwCl[ci]? = some (C, T, N)) (k : Nat) (hk : k < N) (hfl : Cond.fieldLink own idx ref (T k).2.1 (T k).2.2.1 ∈ G0) (hsame : ∀ x, s.fieldFound? (T k).1 (T k).2.1 (T k).2.2.1 = some x → s.fieldFound? ref (T k).2.1 (T k).2.2.1 = some x) (hfin : (T k).2.2.2 = false) (he : V t i j = some (.inr (ci, fs))) {v : Value} (hn : narrow (ty0 k) v = v) (hfit : fits (ty0 k) v = true) (hl : k < fs.length) {V' : Rl} (hV : up3 V t i j (some (.inr (ci, fs.set k v))) = V') (hdg : decode cc pc = .ok (.putfield idx, 3))
    (kk : ∀ (H1 : Heap) (locs1 : List Loc), GW D B ad V' H1 → va_S (AB B) s.heap H1 locs1 → W p l e R s m args below meth c H1 locs1 cells slots Q (F0 m (pc + 3) ls rest)) : W p l e R s m args below meth c H locs cells slots Q (F0 m pc ls (v :: .ref (ad t i j) :: rest)) := by
  subst hV
  have hts := hC.t
  have hap := va_apart (own := own) hts hus ty0 hty hnm hC.K hc
  obtain ⟨r, h1, cell, q1, q2, q3, q4⟩ := hG.at he
  have hr : r = (C, T, N) := Option.some.inj (h1.symm.trans hc)
  subst hr
  obtain ⟨hSl, hfc, kC, hkC, hkind⟩ := hC.K.1 ci _ hc
  obtain ⟨cf, kf, fi, f, hi, hsl⟩ := hSl k hk
  have hlay := hts _ (hus _ (u_in_lay hk))
  unfold u_lay at hlay
  rw [if_neg (by rw [hfin]; decide)] at hlay
  have hst := (u_facts hfc hkC (u_lays hts hus hk) hi).1
  have h6 := u_store hfc hkC hkind hlay hi (hty k hk) hn hfit
  refine W.putK hC.x hC.b (f := f) ⟨hC.o, hts _ hfl, ⟨_, _, _, hsame _ hi⟩, hst⟩ (by rw [q2]; exact h6) q1 q3 (by rw [hsl]; exact k2_hasslot (q4 k hk)) rfl rfl hdg fun H' e1 e2 e3 => ?_
  rw [hsl] at e1 ⊢
  exact kk H' _ (hG.put he ⟨_, hc, t_OB.to (V := updV (vp_V fs) k v) ⟨_, e1, q2, q3, t_set q4 hap hk v⟩ (fun j _ => vp_updV_set hl v j)⟩ e3) (hS.put e2 e3 (hG.ge he))
theorem g_put (hC : Cx p m c cc nL s args own D cy sa de B) (hG : GW D B ad V H) (hS : va_S (AB B) s.heap H locs) {ci : Nat} {fs : List Value} {C : String} {T : u_T} {N idx : Nat} (hus : ∀ w ∈ u_ws C T N, w ∈ G0) {ty0 : Nat → FieldType} (hty : ∀ k, k < N → parseFieldDescriptor (T k).2.2.1 = some (ty0 k)) (hnm : ∀ a, a < N → ∀ b, b < N → a ≠ b → (T a).2.1 ≠ (T b).2.1) (hc : vwCl[ci]? = some (C, T, N)) (k : Nat) (hk : k < N) (hfl : Cond.fieldLink own idx (T k).1 (T k).2.1 (T k).2.2.1 ∈ G0) (hfin : (T k).2.2.2 = false) (he : V t i j = some (.inr (ci, fs))) {v : Value} (hn : narrow (ty0 k) v = v) (hfit : fits (ty0 k) v = true) (hl : k < fs.length) {V' : Rl} (hV : up3 V t i j (some (.inr (ci, fs.set k v))) = V') (hdg : decode cc pc = .ok (.putfield idx, 3))
    (kk : ∀ (H1 : Heap) (locs1 : List Loc), GW D B ad V' H1 → va_S (AB B) s.heap H1 locs1 → W p l e R s m args below meth c H1 locs1 cells slots Q (F0 m (pc + 3) ls rest)) : W p l e R s m args below meth c H locs cells slots Q (F0 m pc ls (v :: .ref (ad t i j) :: rest)) :=
  g_putS hC hG hS hus hty hnm hc k hk hfl (fun _ h => h) hfin he hn hfit hl hV hdg kk
/-- a final field, in its constructor -/
theorem g_putF (hC : Cx p m c cc nL s args own D cy sa de B) (hin2 : meth.name = "<init>") (hG : GW D B ad V H) (hS : va_S (AB B) s.heap H locs) {ci : Nat} {fs : List Value} {C : String} {T : u_T} {N idx : Nat} (hus : ∀ w ∈ u_ws C T N, w ∈ G0) {ty0 : Nat → FieldType} (hty : ∀ k, k < N → parseFieldDescriptor (T k).2.2.1 = some (ty0 k)) (hnm : ∀ a, a < N → ∀ b, b < N → a ≠ b → (T a).2.1 ≠ (T b).2.1) (hc : vwCl[ci]? = some (C, T, N)) (k : Nat) (hk : k < N) (hfl : Cond.fieldLink own idx (T k).1 (T k).2.1 (T k).2.2.1 ∈ G0) (hfin : (T k).2.2.2 = true) (hdecl : (T k).1 = own) (he : V t i j = some (.inr (ci, fs))) {v : Value} (hn : narrow (ty0 k) v = v) (hfit : fits (ty0 k) v = true) (hl : k < fs.length) {V' : Rl} (hV : up3 V t i j (some (.inr (ci, fs.set k v))) = V') (hdg : decode cc pc = .ok (.putfield idx, 3))
    (kk : ∀ (H1 : Heap) (locs1 : List Loc), GW D B ad V' H1 → va_S (AB B) s.heap H1 locs1 → W p l e R s m args below meth c H1 locs1 cells slots Q (F0 m (pc + 3) ls rest)) : W p l e R s m args below meth c H locs cells slots Q (F0 m pc ls (v :: .ref (ad t i j) :: rest)) := by
  subst hV
  have hts := hC.t
  have hap := va_apart (own := own) hts hus ty0 hty hnm hC.K hc
  obtain ⟨r, h1, cell, q1, q2, q3, q4⟩ := hG.at he
  have hr : r = (C, T, N) := Option.some.inj (h1.symm.trans hc)
  subst hr
  obtain ⟨hSl, hfc, kC, hkC, hkind⟩ := hC.K.1 ci _ hc
  obtain ⟨cf, kf, fi, f, hi, hsl⟩ := hSl k hk
  have hlay := hts _ (hus _ (u_in_lay hk))
  unfold u_lay at hlay
  rw [if_pos hfin] at hlay
  have hst := (u_facts hfc hkC (u_lays hts hus hk) hi).1
  have hcf : m.cls = cf := by
    obtain ⟨_, _, c', _, _, _, -, -, hf', -, -, -, hown2, -⟩ := Cond.laysFinal_spec hlay
    have e1 : c' = cf := by have := hi.symm.trans hf'; simp at this; exact this.1.symm
    rw [hdecl] at hown2
    rw [← e1]; exact Option.some.inj (hC.o.symm.trans hown2)
  have h6 := u_fits hfc hkC hkind (Or.inr hlay) hi (hty k hk) hn hfit
  refine W.putFinK hC.x hC.b hC.o (hts _ hfl) hi hst hcf hin2 (by rw [q2]; exact h6) q1 q3 (by rw [hsl]; exact k2_hasslot (q4 k hk)) rfl rfl hdg fun H' e1 e2 e3 => ?_
  rw [hsl] at e1 ⊢
  exact kk H' _ (hG.put he ⟨_, hc, t_OB.to (V := updV (vp_V fs) k v) ⟨_, e1, q2, q3, t_set q4 hap hk v⟩ (fun j _ => vp_updV_set hl v j)⟩ e3) (hS.put e2 e3 (hG.ge he))
theorem g_iald (hC : Cx p m c cc nL s args own D cy sa de B) (hG : GW D B ad V H) {N : Nat} {f : Nat → Int32} (he : V t i j = some (eI (cy 0) N f)) {x : Int32} (a : Nat) (hx : x = nI a) (ha : a < N) (hN : N < 2 ^ 31) (hdg : decode cc pc = .ok (.iaload, 1))
    (kk : W p l e R s m args below meth c H locs cells slots Q (F0 m (pc + 1) ls (.int (f a) :: rest))) : W p l e R s m args below meth c H locs cells slots Q (F0 m pc ls (.int x :: .ref (ad t i j) :: rest)) := by
  subst hx
  refine va_iald hC.x hC.b hC.K (hG.one he) 0 0 rfl rfl (vp_in_nI ha hN) hdg ?_
  rw [nI_clamp (by omega)]; exact kk
theorem g_aald (hC : Cx p m c cc nL s args own D cy sa de B) (hG : GW D B ad V H) (t0 : Nat) {N : Nat} {cA : ClassId} {ty : FieldType} (ht : (tyL cy)[t0]? = some (cA, ty)) (hty : ty.isReference = true) {f : Nat → Option Nat} (he : V t i j = some (eQ cA N f)) {x : Int32} (a : Nat) (hx : x = nI a) (ha : a < N) (hN : N < 2 ^ 31) (hdg : decode cc pc = .ok (.aaload, 1))
    (kk : W p l e R s m args below meth c H locs cells slots Q (F0 m (pc + 1) ls (va_rf (f a) :: rest))) : W p l e R s m args below meth c H locs cells slots Q (F0 m pc ls (.int x :: .ref (ad t i j) :: rest)) := by
  subst hx
  have hlt : (nI a).toNatClampNeg < N := by rw [nI_clamp (by omega)]; exact ha
  refine W.aald (v := va_rf (f (nI a).toNatClampNeg)) (ty := ty) hC.x hC.b (hG.at he) ((hC.K.2 t0 _ ht).1 N (fun j => va_rf (f j))) hty (fun q => by cases q) (by show ¬ (_ ∨ (arrV _ _ _).slots.size ≤ _); rw [arrV_size]; exact vp_in_nI ha hN) (by show (arrV _ _ _).slots[_]? = _; rw [arrV_read _ _ hlt]) rfl rfl hdg ?_
  rw [nI_clamp (by omega)]; exact kk
theorem g_alen (hC : Cx p m c cc nL s args own D cy sa de B) (hG : GW D B ad V H) (t0 : Nat) {cA : ClassId} {ty : FieldType} (ht : (tyL cy)[t0]? = some (cA, ty)) {x : vp_A} (he : V t i j = some (.inl (cA, x))) {v : Int32} (hv : Int32.ofNat x.1 = v) (hdg : decode cc pc = .ok (.arraylength, 1))
    (kk : W p l e R s m args below meth c H locs cells slots Q (F0 m (pc + 1) ls (.int v :: rest))) : W p l e R s m args below meth c H locs cells slots Q (F0 m pc ls (.ref (ad t i j) :: rest)) :=
  va_alen hC.x hC.b hC.K (hG.one he) 0 t0 rfl ht hv hdg kk
theorem g_iast (hC : Cx p m c cc nL s args own D cy sa de B) (hG : GW D B ad V H) (hS : va_S (AB B) s.heap H locs) {N : Nat} {f : Nat → Int32} (he : V t i j = some (eI (cy 0) N f)) {x y : Int32} (a : Nat) (hx : x = nI a) (ha : a < N) (hN : N < 2 ^ 31) {V' : Rl} (hV : up3 V t i j (some (eI (cy 0) N (upd f a y))) = V') (hdg : decode cc pc = .ok (.iastore, 1))
    (kk : ∀ (H1 : Heap) (locs1 : List Loc), GW D B ad V' H1 → va_S (AB B) s.heap H1 locs1 → W p l e R s m args below meth c H1 locs1 cells slots Q (F0 m (pc + 1) ls rest)) : W p l e R s m args below meth c H locs cells slots Q (F0 m pc ls (.int y :: .int x :: .ref (ad t i j) :: rest)) := by
  subst hx; subst hV
  refine W.iast hC.x hC.b (hG.at he) ((hC.K.2 0 _ rfl).1 N (fun j => .int (f j))) (fun q => by cases q) (by show ¬ (_ ∨ (arrV _ _ _).slots.size ≤ _); rw [arrV_size]; exact vp_in_nI ha hN) rfl rfl hdg fun H1 e z oq => ?_
  refine kk H1 _ (hG.put he ?_ oq) (hS.put z oq (hG.ge he))
  show H1[ad t i j]? = some (vp_cell _ _)
  rw [e, nI_clamp (by omega)]
  rw [vp_cell_i, vp_cell_i, arrV_store]
  congr 2
  funext q
  by_cases hq : q = a
  · subst hq
    simp [updV, upd]
  · simp [updV, upd, hq]
end GR
