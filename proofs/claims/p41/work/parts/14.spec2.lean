/-! WORDS FOR THE NUMBERS, 2: places, first kinds, settling. -/
noncomputable def cif {α : Type} (P : Prop) (a b : α) : α := @ite α P (Classical.propDecidable P) a b
theorem cif_t {α : Type} {P : Prop} {a b : α} (h : P) : cif P a b = a := if_pos h
theorem cif_f {α : Type} {P : Prop} {a b : α} (h : ¬ P) : cif P a b = b := if_neg h
abbrev ci (x : Int32) : Nat := x.toNatClampNeg
def ix (x : Int32) (N : Nat) : Prop := ∃ a, a < N ∧ x = nI a
theorem ix_nI {a N : Nat} (h : a < N) : ix (nI a) N := ⟨a, h, rfl⟩
theorem nix_neg {x : Int32} {N : Nat} (hN : N < 2 ^ 31) (h : x < 0) : ¬ ix x N := fun ⟨_, ha, e⟩ => absurd (e ▸ h) (nI_pos (by omega))
theorem nix_ge {x : Int32} {N : Nat} (hN : N < 2 ^ 31) (h : ¬ x < nI N) : ¬ ix x N := fun ⟨_, ha, e⟩ => h (e ▸ nI_lt ha hN)
theorem ix_of {x : Int32} {N : Nat} (hN : N < 2 ^ 31) (h0 : ¬ x < 0) (h1 : x < nI N) : ∃ a, a < N ∧ x = nI a := ix_in hN h0 (Int32.not_le.mpr h1)
theorem fEnt_none {ad : Ad} {S : St} {e a : Nat} (h : S 20 e a = -1) : va_rf (fEnt ad S e a) = .null := by unfold fEnt; rw [h]; rfl
theorem fEnt_some {ad : Ad} {S : St} {e a : Nat} (h : neg (S 20 e a) = false) : va_rf (fEnt ad S e a) = .ref (ad 11 e a) := by unfold fEnt; rw [h]; rfl
theorem fData_some {ad : Ad} {n : Nat → Nat} {q a w : Nat} (hw : elT q = w) (h : a < n q) : va_rf (fData ad n q a) = .ref (ad w a 0) := by unfold fData; rw [if_pos h, hw]; rfl
theorem capL_le {n a : Nat} (h : n ≤ 22) (ha : a < n) : a < capL n := by
  unfold capL
  by_cases h1 : n ≤ 10
  · rw [if_pos h1]; omega
  · rw [if_neg h1]
    by_cases h2 : n ≤ 15
    · rw [if_pos h2]; omega
    · rw [if_neg h2]; omega
theorem capL_lt (n : Nat) : capL n < 2 ^ 31 := by
  unfold capL
  by_cases h1 : n ≤ 10
  · rw [if_pos h1]; omega
  · rw [if_neg h1]
    by_cases h2 : n ≤ 15
    · rw [if_pos h2]; omega
    · rw [if_neg h2]; omega
theorem lo_none {ls : Array Slot} {nL : Nat} {vs : List (Option Value)} {i : Nat} (h : lo ls nL vs) : lo ls nL (vs.set i none) := lo_sub h (fun a v hv => by
  by_cases ha : a = i
  · subst ha
    have hl : a < vs.length := by
      have h1 := (List.getElem?_eq_some_iff.mp hv).1
      rw [List.length_set] at h1; exact h1
    rw [List.getElem?_set_self hl] at hv
    cases hv
  · rw [List.getElem?_set_ne (Ne.symm ha)] at hv; exact hv)
/-- what the class's methods ask of its numbers -/
def WF (S : St) (n : Nat → Nat) : Prop :=
  n 0 ≤ 16 ∧ n 1 ≤ 8 ∧ n 2 ≤ 8 ∧ n 3 ≤ 0 ∧ n 4 = n 0 ∧ n 5 = n 1 ∧ n 6 = n 2 ∧ n 7 = n 3 ∧
  (∀ i, i < n 0 → S 10 i 0 = -1 ∨ ∃ q, q < n 2 ∧ S 10 i 0 = nI q) ∧
  (∀ e a, S 20 e a = -1 ∨ (e < n 3 ∧ a < n 0 ∧ ∃ q, q < n 2 ∧ S 20 e a = nI q)) ∧
  (∀ q, q < n 2 → ∃ y, y < 5 ∧ S 13 q 0 = nI y)
/-- the first of the numbers j, j+1, .. (r of them) of which P holds, or -1 -/
noncomputable def fK (P : Nat → Prop) : Nat → Nat → Int32
  | _, 0 => -1
  | j, r + 1 => cif (P j) (nI j) (fK P (j + 1) r)
theorem fK_yes {P : Nat → Prop} {y m : Nat} (h : y < m) (hp : P y) : fK P y (m - y) = nI y := by
  obtain ⟨r, hr⟩ : ∃ r, m - y = r + 1 := ⟨m - y - 1, by omega⟩
  rw [hr]; exact cif_t hp
theorem fK_no {P : Nat → Prop} {y m : Nat} (h : y < m) (hp : ¬ P y) : fK P y (m - y) = fK P (y + 1) (m - (y + 1)) := by
  obtain ⟨r, hr⟩ : ∃ r, m - y = r + 1 := ⟨m - y - 1, by omega⟩
  rw [hr, show m - (y + 1) = r by omega]; exact cif_f hp
theorem fK_end {P : Nat → Prop} {y m : Nat} (h : m ≤ y) : fK P y (m - y) = -1 := by
  rw [show m - y = 0 by omega]; rfl
theorem fK_cases {P : Nat → Prop} : ∀ (r j : Nat), fK P j r = -1 ∨ ∃ q, j ≤ q ∧ q < j + r ∧ P q ∧ fK P j r = nI q
  | 0, _ => Or.inl rfl
  | r + 1, j => by
    by_cases h : P j
    · exact Or.inr ⟨j, by omega, by omega, h, cif_t h⟩
    · rcases fK_cases (P := P) r (j + 1) with h1 | ⟨q, h1, h2, h3, h4⟩
      · exact Or.inl ((cif_f h).trans h1)
      · exact Or.inr ⟨q, by omega, by omega, h3, (cif_f h).trans h4⟩
/-- the class to which measures belong -/
noncomputable def kbel (S : St) (n : Nat → Nat) (f : Nat → Int32) : Int32 := fK (fun q => holdsP S q f) 0 (n 2)
theorem kbel_cases {S : St} {n : Nat → Nat} {f : Nat → Int32} : kbel S n f = -1 ∨ ∃ q, q < n 2 ∧ kbel S n f = nI q := by
  rcases fK_cases (P := fun q => holdsP S q f) (n 2) 0 with h | ⟨q, -, h2, -, h4⟩
  · exact Or.inl h
  · exact Or.inr ⟨q, by omega, h4⟩
def ushr (x y : Int32) : Int32 := (x.toUInt32 >>> (y.toUInt32 &&& Int32.toUInt32 31)).toInt32
def bitP (x y : Int32) : Prop := ushr x y &&& 1 = 1
def belowP (x y : Int32) : Prop := ushr x y = 0
def timeIs (x : Int32) : Prop := 1 ≤ x ∧ x ≤ 99999
theorem P_ath_kindN {cy : Nat → ClassId} {de : Nat} {ad : Ad} {S : St} {n : Nat → Nat} {T : St} {k : Nat → Nat} {th : Int32} {X : Rl} {i : Nat} (h : i < n 4) : up3 (Vw cy de ad S n T k th X) 3 i 0 (some (.inr (1, [.int (nI i), .int (S 5 i 0), .ref (ad 4 i 0), .ref (ad 4 i 1), .ref (ad 4 i 2), .int (S 8 i 0), .int (S 9 i 0), .null, .int (S 2 i 0), .int (S 11 i 0)]))) = Vw cy de ad (up3 S 10 i 0 (-1)) n T k th X := by
  have z := P_ath_kind (cy := cy) (de := de) (ad := ad) (S := S) (n := n) (T := T) (k := k) (th := th) (X := X) h (v := -1)
  rwa [kro_null rfl] at z
theorem P_ath_kindQ {cy : Nat → ClassId} {de : Nat} {ad : Ad} {S : St} {n : Nat → Nat} {T : St} {k : Nat → Nat} {th : Int32} {X : Rl} {i q : Nat} (h : i < n 4) (hq : q < 2 ^ 31) : up3 (Vw cy de ad S n T k th X) 3 i 0 (some (.inr (1, [.int (nI i), .int (S 5 i 0), .ref (ad 4 i 0), .ref (ad 4 i 1), .ref (ad 4 i 2), .int (S 8 i 0), .int (S 9 i 0), .ref (ad 7 q 0), .int (S 2 i 0), .int (S 11 i 0)]))) = Vw cy de ad (up3 S 10 i 0 (nI q)) n T k th X := by
  have z := P_ath_kind (cy := cy) (de := de) (ad := ad) (S := S) (n := n) (T := T) (k := k) (th := th) (X := X) h (v := nI q)
  rwa [kro_ref rfl hq] at z
def fallS (S : St) (e a : Nat) : St := up3 (up3 S 21 e a 1) 22 e a (-1)
/-- the open entries of one, in the first c events, fall -/
def dropS (S : St) (i : Nat) : Nat → St
  | 0 => S
  | c + 1 => if ¬ S 20 c i = -1 ∧ S 19 c 0 = 0 then fallS (dropS S i c) c i else dropS S i c
theorem dropS_o {S : St} {i : Nat} : ∀ (c : Nat) {x : Nat}, x ≠ 21 → x ≠ 22 → dropS S i c x = S x
  | 0, _, _, _ => rfl
  | c + 1, x, h1, h2 => by
    show (if ¬ S 20 c i = -1 ∧ S 19 c 0 = 0 then fallS (dropS S i c) c i else dropS S i c) x = _
    by_cases h : ¬ S 20 c i = -1 ∧ S 19 c 0 = 0
    · rw [if_pos h]
      show up3 (up3 (dropS S i c) 21 c i 1) 22 c i (-1) x = _
      rw [up3_c h2, up3_c h1, dropS_o c h1 h2]
    · rw [if_neg h, dropS_o c h1 h2]
theorem WF_c {S S2 : St} {n : Nat → Nat} (h : WF S n) (h10 : ∀ i, i < n 0 → S2 10 i 0 = -1 ∨ ∃ q, q < n 2 ∧ S2 10 i 0 = nI q) (h20 : S2 20 = S 20) (h13 : ∀ q, S2 13 q 0 = S 13 q 0) : WF S2 n := by
  obtain ⟨a0, a1, a2, a3, a4, a5, a6, a7, -, a9, a10⟩ := h
  refine ⟨a0, a1, a2, a3, a4, a5, a6, a7, h10, fun e a => by rw [h20]; exact a9 e a, fun q hq => by rw [h13]; exact a10 q hq⟩
section CQ
variable {p : Program} {l : Launch} {e : Env} {R : Room} {s : State} {m : MethodId} {args : Array Value} {below : List Frame} {meth : Method} {c : Code} {H : Heap} {locs : List Loc} {cells slots : Nat} {Q : State → Prop}
variable {mc ms : Nat} {free : Addr → Prop} {A0 A1 : Nat → Prop} {H0 : Heap} {a : Array Value} {pc : Nat} {ls : Array Slot} {st0 rest : List Value}
theorem vx_callq {S SX : Type} {post : Option Nat → S → Prop} {px : SX → Prop} {B : S → State → Prop} {BX : String → SX → State → Prop} {AX : Nat → Prop} (hr : vx_Run p l e R s m args below meth c H locs cells slots mc ms (F0 m pc ls st0) rest (va_Qq post B A1 a) (vx_X px BX AX) free) (hS : va_S A0 H0 H locs) (hA : ∀ q, q < H.size → A1 q → A0 q) (hf : ∀ q, free q → A0 q) (hAX : ∀ q, q < H.size → AX q → A0 q)
    (kx : ∀ (E : String) (ce : Cell) (q9 : Addr) (u : SX) (t : State) (H1 : Heap) (locs1 : List Loc), t.heap = H1 → s.vm.Alike t.vm → px u → BX E u t → H.size ≤ H1.size → (∀ q : Nat, q < H.size → ¬ AX q → H1[q]? = H[q]?) → va_S A0 H0 H1 locs1 → H1[q9]? = some ce → ce.vm = .none → s.vm.findClass E = some ce.cls → vx_W p l e R s m args below meth c H1 locs1 (cells + mc) (slots + ms) Q (F0 m pc ls rest) q9)
    (kk : ∀ (r : Option Nat) (u : S) (t : State) (H1 : Heap) (locs1 : List Loc), t.heap = H1 → s.vm.Alike t.vm → post r u → B u t → H.size ≤ H1.size → (∀ q : Nat, q < H.size → ¬ A1 q → H1[q]? = H[q]?) → va_S A0 H0 H1 locs1 → W p l e R s m args below meth c H1 locs1 (cells + mc) (slots + ms) Q (F0 m (pc + 3) ls (va_rf r :: rest))) : W p l e R s m args below meth c H locs cells slots Q (F0 m pc ls st0) := by
  intro T hT X
  rcases hr T hT X with ⟨v, st₀, t, T', L, h0, X', hL, e1, e2, ⟨⟨r, u, hv, hp, hb⟩, hF⟩, st⟩ | ⟨q, st₀, t, T', L, E, ce, h0, X', hL, e1, e2, ⟨u, hp, hb, hF⟩, hce, hcv, hcl, st⟩
  · cases hv
    obtain ⟨k1, k2, k3⟩ := vx_keep h0 e1 hS hA hf hL hF
    obtain ⟨t2, a1, b1⟩ := kk r u t T'.heap (locs ++ L) e1.symm (by rw [← e2]; exact X'.warmed.alike) hp hb k1 k2 k3 T' rfl X'
    exact ⟨t2, st t2 a1, b1⟩
  · obtain ⟨k1, k2, k3⟩ := vx_keep h0 e1 hS hAX hf hL hF
    obtain ⟨t2, a1, b1⟩ := kx E ce q u t T'.heap (locs ++ L) e1.symm (by rw [← e2]; exact X'.warmed.alike) hp hb k1 k2 k3 (by rw [e1]; exact hce) hcv hcl T' rfl X'
    exact ⟨t2, st.trans a1, b1⟩
end CQ
