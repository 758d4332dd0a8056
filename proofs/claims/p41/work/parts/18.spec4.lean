/-! WORDS FOR THE NUMBERS, 4: settling, floors, entries that are asked for. -/
theorem ordn_time {S : St} {e w : Nat} {x : Int32} (h : ordn S e x = some w) : timeP S e w := by
  unfold ordn at h
  by_cases hz : ix x 16
  · rw [cif_t hz] at h; exact io_time _ h
  · rw [cif_f hz] at h; cases h
theorem slF_time {S : St} {e w r y : Nat} {x : Int32} (h : slF S e x y r = some w) : timeP S e w := slF_in r y h
def setl (S1 : St) (i : Nat) (kk st y : Int32) : St := up3 (up3 (up3 S1 10 i 0 kk) 9 i 0 st) 2 i 0 y
def stlS (S : St) (i : Nat) (kk st : Int32) (m : Nat) : St :=
  if kk = -1 then up3 (setl (if S 10 i 0 = kk then S else dropS S i m) i kk st (S 23 0 0 + 2)) 11 i 0 0 else setl (if S 10 i 0 = kk then S else dropS S i m) i kk st (S 23 0 0 + 2)
theorem stlS_1 {S : St} {i m : Nat} {st : Int32} (h : S 10 i 0 = -1) : stlS S i (-1) st m = up3 (setl S i (-1) st (S 23 0 0 + 2)) 11 i 0 0 := by
  unfold stlS; rw [if_pos rfl, if_pos h]
theorem stlS_2 {S : St} {i m : Nat} {st : Int32} (h : ¬ S 10 i 0 = -1) : stlS S i (-1) st m = up3 (setl (dropS S i m) i (-1) st (S 23 0 0 + 2)) 11 i 0 0 := by
  unfold stlS; rw [if_pos rfl, if_neg h]
theorem stlS_3 {S : St} {i m : Nat} {kk st : Int32} (hk : ¬ kk = -1) (h : S 10 i 0 = kk) : stlS S i kk st m = setl S i kk st (S 23 0 0 + 2) := by
  unfold stlS; rw [if_neg hk, if_pos h]
theorem stlS_4 {S : St} {i m : Nat} {kk st : Int32} (hk : ¬ kk = -1) (h : ¬ S 10 i 0 = kk) : stlS S i kk st m = setl (dropS S i m) i kk st (S 23 0 0 + 2) := by
  unfold stlS; rw [if_neg hk, if_neg h]
theorem dropS_t {S : St} {i c : Nat} (h : ¬ S 20 c i = -1 ∧ S 19 c 0 = 0) : dropS S i (c + 1) = fallS (dropS S i c) c i := if_pos h
theorem dropS_f {S : St} {i c : Nat} (h : ¬ (¬ S 20 c i = -1 ∧ S 19 c 0 = 0)) : dropS S i (c + 1) = dropS S i c := if_neg h
theorem WF_codes {S S2 : St} {n : Nat → Nat} (h : WF S n) (h10 : S2 10 = S 10) (h20 : S2 20 = S 20) (h13 : S2 13 = S 13) : WF S2 n :=
  WF_c h (fun i hi => by rw [h10]; exact h.2.2.2.2.2.2.2.2.1 i hi) h20 (fun q => by rw [h13])
theorem WF_drop {S : St} {n : Nat → Nat} {i : Nat} (h : WF S n) (c : Nat) : WF (dropS S i c) n := WF_codes h (dropS_o c (by decide) (by decide)) (dropS_o c (by decide) (by decide)) (dropS_o c (by decide) (by decide))
theorem fndS_c {S : St} {i : Nat} {g : Nat → Int32} {x : Nat} (hx : x ≠ 1) (c : Nat) : fndS S i g c x = S x := by
  funext y z
  exact fndS_o c (fun q => hx q.1)
/-- the body itself is found, or what it shows -/
def fiS (S : St) (i : Nat) : St := up3 (fndS S i (S 6 i) 5) 8 i 0 1
def fsS (S : St) (i : Nat) : St := up3 (fndS S i (shv S i) 5) 8 i 0 1
theorem WF_fi {S : St} {n : Nat → Nat} {i : Nat} (h : WF S n) : WF (fiS S i) n := WF_codes h ((up3_c (by decide)).trans (fndS_c (by decide) 5)) ((up3_c (by decide)).trans (fndS_c (by decide) 5)) ((up3_c (by decide)).trans (fndS_c (by decide) 5))
theorem WF_fs {S : St} {n : Nat → Nat} {i : Nat} (h : WF S n) : WF (fsS S i) n := WF_codes h ((up3_c (by decide)).trans (fndS_c (by decide) 5)) ((up3_c (by decide)).trans (fndS_c (by decide) 5)) ((up3_c (by decide)).trans (fndS_c (by decide) 5))
noncomputable def sbfS (S : St) (n : Nat → Nat) (i : Nat) (st : Int32) : St := stlS S i (kbel S n (fMea S i 2)) (cif (kbel S n (fMea S i 2) = -1) 101 st) (n 3)
theorem sbfS_n {S : St} {n : Nat → Nat} {i : Nat} {st : Int32} (h : kbel S n (fMea S i 2) = -1) : sbfS S n i st = stlS S i (-1) 101 (n 3) := by unfold sbfS; rw [h, cif_t rfl]
theorem sbfS_q {S : St} {n : Nat → Nat} {i q : Nat} {st : Int32} (hq : q < 2 ^ 31) (h : kbel S n (fMea S i 2) = nI q) : sbfS S n i st = stlS S i (nI q) st (n 3) := by unfold sbfS; rw [h, cif_f (nI_ne_m1 hq)]
def hidP (S : St) (i : Nat) : Prop := ∃ y, y < 5 ∧ 20 < fMea S i 0 y - fMea S i 2 y
noncomputable def exS (S : St) (n : Nat → Nat) (i : Nat) : St := cif (hidP S i) (stlS (fiS S i) i (-1) 120 (n 3)) (sbfS (fiS S i) n i 99)
noncomputable def ewS (S : St) (n : Nat → Nat) (i : Nat) : St := cif (S 9 i 0 = 120) (stlS S i (-1) 45 (n 3)) (sbfS S n i 99)
def allL (S : St) (x land : Int32) (m : Nat) : Prop := ∀ a, a < m → bitP x (nI a) → S 5 a 0 = land
def allK (S : St) (x : Int32) (m : Nat) : Prop := ∀ a, a < m → bitP x (nI a) → ¬ S 10 a 0 = -1
noncomputable def ptF (S : St) (x : Int32) : Nat → Int32
  | 0 => 0
  | c + 1 => cif (bitP x (nI c)) (ptF S x c + ptsOf S c) (ptF S x c)
theorem ptF_t {S : St} {x : Int32} {c : Nat} (h : bitP x (nI c)) : ptF S x (c + 1) = ptF S x c + ptsOf S c := cif_t h
theorem ptF_f {S : St} {x : Int32} {c : Nat} (h : ¬ bitP x (nI c)) : ptF S x (c + 1) = ptF S x c := cif_f h
noncomputable def puF (S : St) (land x : Int32) : Nat → St
  | 0 => S
  | c + 1 => cif (S 5 c 0 = land) (up3 (puF S land x c) 11 c 0 (cif (bitP x (nI c)) 1 0)) (puF S land x c)
theorem puF_t {S : St} {land x : Int32} {c : Nat} (h : S 5 c 0 = land) : puF S land x (c + 1) = up3 (puF S land x c) 11 c 0 (cif (bitP x (nI c)) 1 0) := cif_t h
theorem puF_f {S : St} {land x : Int32} {c : Nat} (h : ¬ S 5 c 0 = land) : puF S land x (c + 1) = puF S land x c := cif_f h
theorem puF_o {S : St} {land x : Int32} : ∀ (c : Nat) {y : Nat}, y ≠ 11 → puF S land x c y = S y
  | 0, _, _ => rfl
  | c + 1, y, h => by
    by_cases hz : S 5 c 0 = land
    · rw [puF_t hz, up3_c h, puF_o c h]
    · rw [puF_f hz, puF_o c h]
noncomputable def biF (S : St) (land : Int32) : Nat → Int32
  | 0 => 0
  | c + 1 => cif (S 5 c 0 = land ∧ ¬ S 11 c 0 = 0) (biF S land c ||| ((1 : Int32) <<< (nI c &&& 31))) (biF S land c)
theorem biF_t {S : St} {land : Int32} {c : Nat} (h : S 5 c 0 = land ∧ ¬ S 11 c 0 = 0) : biF S land (c + 1) = biF S land c ||| ((1 : Int32) <<< (nI c &&& 31)) := cif_t h
theorem biF_f {S : St} {land : Int32} {c : Nat} (h : ¬ (S 5 c 0 = land ∧ ¬ S 11 c 0 = 0)) : biF S land (c + 1) = biF S land c := cif_f h
def resP (S : St) (i m : Nat) : Prop := ∃ e, e < m ∧ timeP S e i
/-- a char -/
def chP (x : Int32) : Prop := narrow .char (.int x) = .int x ∧ fits .char (.int x) = true
