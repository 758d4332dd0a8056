set_option maxHeartbeats 4000000 in
set_option maxRecDepth 100000 in
theorem c_X7_at (l : Launch) {D : va_G} {cy : Nat → ClassId} {sa : Nat → Nat} {de B : Nat} {ad : Ad} {S : St} {n : Nat → Nat} {T : St} {k : Nat → Nat} {th : Int32} {X : Rl} {x y : Int32}  : Met l yX7_at (Cond.code yX7_at cX7_at 4 (Option.some Jvm.ClassFile.FieldType.int) :: G0) ({ frames := 2, cells := 0, slots := 0, locals := 52 } : Room) (va_Pc [.ref (ad 13 0 0), .int x, .int y] (PW D cy sa de B ad (Vw cy de ad S n T k th X) (Inv T k))) (oI B (fun r H => (cd_at T k x y = 0 ∧ r = (vl_at T x y) ∧ GW D B ad (Vw cy de ad S n (T) (k) 0 X) H) ∨ (∃ (t9 : Nat), cd_at T k x y = t9 ∧ ¬ t9 = 0 ∧ GW D B ad (Vw cy de ad S n T k (nI t9) X) H))) 0 0 (AB B) := by
  refine E_met (own := RX7) rfl rfl (Nat.le_of_ble_eq_true rfl) ?_
  intro p e s m below meth c hC hr hlk hnm hG h0 ls hl
  have hx := hC.x
  have hb := hC.b
  have hS : va_S (AB B) s.heap s.heap [] := va_S.rf
  have hl : lo ls 4 [some (.ref (ad 13 0 0)), some (.int x), some (.int y), none] := lo_of hl
  have hI := h0
  obtain ⟨hCI, hD0, hD1, hD2, hB01, hF30, hK8, hMK, hU1, hU2, hS10, hEO, hCF, hFT, hME, hYR, hEK, hLA⟩ := h0
  obtain ⟨hW, hNE, hCH, hBL⟩ := hCI
  have hW9 := hW
  obtain ⟨hB0, hB1, hB2, hB3, hB4, hB5, hB6, hB7, hKI, hEI, hKY⟩ := hW9
  have hMB : MB k := ⟨hB0, hB1, hB2, hB3⟩
  have hKYm : KYm T k := hKY
  refine o_aload_n hx hb dX7_at_0 hl rfl ?_
  refine o_aload_n hx hb dX7_at_1 hl rfl ?_
  refine o_iload_n hx hb dX7_at_2 hl rfl ?_
  refine k_X7_isNoEvent hC hS hG hMB ml_X7_139 ⟨Nat.le_of_ble_eq_true rfl, Nat.le_of_ble_eq_true rfl⟩ hl.1 (Nat.le_of_ble_eq_true rfl) dX7_at_3 ⟨Nat.le_of_ble_eq_true rfl, Nat.le_of_ble_eq_true rfl⟩ (fun h3 => ?_) (fun h3 => ?_)
  · skip
    refine lv_iconst (v := 1) hx hb dX7_at_6 (by decide) ?_
    refine k_X7_isThrown hC hS hG (by first | exact Or.inl rfl | exact Or.inr rfl) ml_X7_94 ⟨Nat.le_of_ble_eq_true rfl, Nat.le_of_ble_eq_true rfl⟩ hl.1 (Nat.le_of_ble_eq_true rfl) dX7_at_7 ⟨Nat.le_of_ble_eq_true rfl, Nat.le_of_ble_eq_true rfl⟩ (fun h7_0 H locs hG hS => ?_) (fun h7_0 H locs hG hS => ?_)
    · skip
      refine lv_if_eq (tgt := 15) hx hb dX7_at_10 (by decide) (fun h10 => ?_) (fun h10 => ?_)
      · exact absurd h10 (by decide)
      · skip
        refine lv_iconst (v := 0) hx hb dX7_at_13 (by decide) ?_
        exact R_I hC hS hr hlk rfl (Or.inr ⟨1, (by simp only [cd_at]; exact cif_f h3), (by decide), hG⟩) (Nat.le_of_ble_eq_true rfl) (Nat.le_of_ble_eq_true rfl) dX7_at_14
    · skip
      exact absurd h7_0 (by decide)
  · skip
    refine lv_iconst (v := 1) hx hb dX7_at_6 (by decide) ?_
    refine k_X7_isThrown hC hS hG (by first | exact Or.inl rfl | exact Or.inr rfl) ml_X7_94 ⟨Nat.le_of_ble_eq_true rfl, Nat.le_of_ble_eq_true rfl⟩ hl.1 (Nat.le_of_ble_eq_true rfl) dX7_at_7 ⟨Nat.le_of_ble_eq_true rfl, Nat.le_of_ble_eq_true rfl⟩ (fun h7_0 H locs hG hS => ?_) (fun h7_0 H locs hG hS => ?_)
    · skip
      exact absurd h7_0 (by decide)
    · skip
      refine lv_if_eq (tgt := 15) hx hb dX7_at_10 (by decide) (fun h10 => ?_) (fun h10 => ?_)
      · skip
        obtain ⟨a3, ha3, hxa3⟩ := Classical.not_not.mp h3
        subst hxa3
        have za3 : ci (nI a3) = a3 := nI_clamp (by omega)
        refine o_aload_n hx hb dX7_at_15 hl rfl ?_
        refine o_iload_n hx hb dX7_at_16 hl rfl ?_
        refine o_iload_n hx hb dX7_at_17 hl rfl ?_
        refine k_X7_athleteAt hC hS hG ⟨by omega, hMB⟩ ml_X7_169 ⟨Nat.le_of_ble_eq_true rfl, Nat.le_of_ble_eq_true rfl⟩ hl.1 (Nat.le_of_ble_eq_true rfl) dX7_at_18 ⟨Nat.le_of_ble_eq_true rfl, Nat.le_of_ble_eq_true rfl⟩ ?_
        refine o_istore_n hx hb dX7_at_21 hl (by decide) rfl (fun ls hl => ?_)
        refine o_aload_n hx hb dX7_at_22 hl rfl ?_
        refine o_iload_n hx hb dX7_at_23 hl rfl ?_
        refine lv_iconst (v := (-1)) hx hb dX7_at_24 (by decide) ?_
        refine lv_icmp_ne (tgt := 32) hx hb dX7_at_25 (by decide) (fun h25 => ?_) (fun h25 => ?_)
        · skip
          refine lv_iconst (v := 0) hx hb dX7_at_32 (by decide) ?_
          refine lv_iconst (v := 2) hx hb dX7_at_33 (by decide) ?_
          refine k_X7_isThrown hC hS hG (by first | exact Or.inl rfl | exact Or.inr rfl) ml_X7_94 ⟨Nat.le_of_ble_eq_true rfl, Nat.le_of_ble_eq_true rfl⟩ hl.1 (Nat.le_of_ble_eq_true rfl) dX7_at_34 ⟨Nat.le_of_ble_eq_true rfl, Nat.le_of_ble_eq_true rfl⟩ (fun h34_0 H locs hG hS => ?_) (fun h34_0 H locs hG hS => ?_)
          · skip
            exact absurd h34_0 (by decide)
          · skip
            refine lv_if_eq (tgt := 44) hx hb dX7_at_37 (by decide) (fun h37 => ?_) (fun h37 => ?_)
            · skip
              refine o_iload_n hx hb dX7_at_44 hl rfl ?_
              exact R_I hC hS hr hlk rfl (by first | exact Or.inr ⟨2, (by simp only [cd_at, za3]; exact (cif_t (ix_nI ha3)).trans (cif_t (Classical.byContradiction (by intro z; obtain ⟨w9, hw9⟩ := Option.ne_none_iff_exists'.mp z; exact nI_ne_m1 (by have := tl hW hNE w9 (ordn_time hw9); omega) ((at_some hW hNE hw9).symm.trans h25))))), (by decide), hG⟩ | exact Or.inl ⟨(by simp only [cd_at, za3]; exact (cif_t (ix_nI ha3)).trans (cif_f (fun z => h25 (at_none hW hNE z)))), (by unfold vl_at; rw [za3]; cases hz : ordn T a3 y with
                    | none => exact absurd (at_none hW hNE hz) h25
                    | some w9 => rw [at_some hW hNE hz]; rfl), (by exact hG)⟩) (Nat.le_of_ble_eq_true rfl) (Nat.le_of_ble_eq_true rfl) dX7_at_45
            · exact absurd h37 (by decide)
        · skip
          refine lv_iconst (v := 1) hx hb dX7_at_28 (by decide) ?_
          refine lv_goto (tgt := 33) hx hb dX7_at_29 (by decide) ?_
          refine lv_iconst (v := 2) hx hb dX7_at_33 (by decide) ?_
          refine k_X7_isThrown hC hS hG (by first | exact Or.inl rfl | exact Or.inr rfl) ml_X7_94 ⟨Nat.le_of_ble_eq_true rfl, Nat.le_of_ble_eq_true rfl⟩ hl.1 (Nat.le_of_ble_eq_true rfl) dX7_at_34 ⟨Nat.le_of_ble_eq_true rfl, Nat.le_of_ble_eq_true rfl⟩ (fun h34_0 H locs hG hS => ?_) (fun h34_0 H locs hG hS => ?_)
          · skip
            refine lv_if_eq (tgt := 44) hx hb dX7_at_37 (by decide) (fun h37 => ?_) (fun h37 => ?_)
            · exact absurd h37 (by decide)
            · skip
              refine lv_iconst (v := 0) hx hb dX7_at_40 (by decide) ?_
              refine lv_goto (tgt := 45) hx hb dX7_at_41 (by decide) ?_
              exact R_I hC hS hr hlk rfl (by first | exact Or.inr ⟨2, (by simp only [cd_at, za3]; exact (cif_t (ix_nI ha3)).trans (cif_t (Classical.byContradiction (by intro z; obtain ⟨w9, hw9⟩ := Option.ne_none_iff_exists'.mp z; exact nI_ne_m1 (by have := tl hW hNE w9 (ordn_time hw9); omega) ((at_some hW hNE hw9).symm.trans h25))))), (by decide), hG⟩ | exact Or.inl ⟨(by simp only [cd_at, za3]; exact (cif_t (ix_nI ha3)).trans (cif_f (fun z => h25 (at_none hW hNE z)))), (by unfold vl_at; rw [za3]; cases hz : ordn T a3 y with
                    | none => exact absurd (at_none hW hNE hz) h25
                    | some w9 => rw [at_some hW hNE hz]; rfl), (by exact hG)⟩) (Nat.le_of_ble_eq_true rfl) (Nat.le_of_ble_eq_true rfl) dX7_at_45
          · skip
            exact absurd h34_0 (by decide)
      · exact absurd h10 (by decide)
theorem k_X7_at {p : Program} {l : Launch} {e : Env} {R : Room} {s : State} {m : MethodId} {args : Array Value} {below : List Frame} {meth : Method} {c : Code} {H : Heap} {locs : List Loc} {cells slots : Nat} {Q : State → Prop} {cc : ByteArray} {pc nL : Nat} {ls : Array Slot} {rest : List Value} {own : String} {D : va_G} {cy : Nat → ClassId} {sa : Nat → Nat} {de B : Nat} {ad : Ad} {S : St} {n : Nat → Nat} {T : St} {k : Nat → Nat} {th : Int32} {X : Rl} {x y : Int32}  (hC : Cx p m c cc nL s args own D cy sa de B) (hS : va_S (AB B) s.heap H locs) (hG : GW D B ad (Vw cy de ad S n T k th X) H) (h0 : Inv T k)  {idx : Nat} (wl : Cond.methodLink own idx yX7_at ∈ G0) (hR : 2 + 1 ≤ R.frames ∧ 8 + (4 + 11) + 52 ≤ R.locals) (hsz : ls.size = nL) (hst : (rest.map fun v => v.category).sum ≤ 8) (hdg : decode cc pc = .ok (.invokevirtual idx, 3)) (hcs : cells + 0 ≤ R.cells ∧ slots + 0 ≤ R.slots) (k0 : (cd_at T k x y = 0) → ∀ (H1 : Heap) (locs1 : List Loc), GW D B ad (Vw cy de ad S n (T) (k) 0 X) H1 → va_S (AB B) s.heap H1 locs1 → W p l e R s m args below meth c H1 locs1 cells slots Q (F0 m (pc + 3) ls (.int (vl_at T x y) :: rest))) (k1 : ∀ (r9 : Int32), ∀ (t9 : Nat), (cd_at T k x y = t9) → (¬ t9 = 0) → ∀ (H1 : Heap) (locs1 : List Loc), GW D B ad (Vw cy de ad S n T k (nI t9) X) H1 → va_S (AB B) s.heap H1 locs1 → W p l e R s m args below meth c H1 locs1 cells slots Q (F0 m (pc + 3) ls (.int r9 :: rest))) : W p l e R s m args below meth c H locs cells slots Q (F0 m pc ls (.int y :: .int x :: .ref (ad 13 0 0) :: rest)) :=
  va_calli (rV hC hS hG h0 (As := [.int x, .int y]) (c_X7_at l) ⟨rfl, rfl⟩ wl im_X7_at sl_X7_X7_at in_X7 cd_X7_at (n := 2) (by decide +kernel) hR (recv hC hG (q := (RX7, TX7, 26)) rfl V_model) rfl hsz hst rfl hdg hcs) hS (fun _ _ h => h) (fun _ h => h) (fun r u t H1 locs1 ht _ hr hB _ _ hS1 => by
      subst hr
      have hB9 := hB; try dsimp only at hB9
      rw [ht] at hB9
      rcases hB9 with ⟨q0, rfl, hG1⟩ | ⟨t9, q0, q1, hG1⟩
      · exact k0 q0 _ _ hG1 hS1
      · exact k1 r t9 q0 q1 _ _ hG1 hS1)
