set_option maxHeartbeats 4000000 in
set_option maxRecDepth 100000 in
theorem c_X6_numberOf (l : Launch) {D : va_G} {cy : Nat → ClassId} {sa : Nat → Nat} {de B : Nat} {ad : Ad} {S : St} {n : Nat → Nat} {T : St} {k : Nat → Nat} {th : Int32} {X : Rl} {kk : Int32} {o : Option Nat} (ho : kro ad kk = o) : Met l yX6_numberOf (Cond.code yX6_numberOf cX6_numberOf 1 (Option.some Jvm.ClassFile.FieldType.int) :: G0) ({ frames := 0, cells := 0, slots := 0, locals := 0 } : Room) (va_Pc [va_rf o] (PW D cy sa de B ad (Vw cy de ad S n T k th X) (WF S n ∧ (kk = -1 ∨ ∃ q, q < n 2 ∧ kk = nI q)))) (vp_Si (fun r => r = kk)) 0 0 (fun _ => False) := by
  by_cases hkm : kk = -1
  · skip
    subst hkm
    rw [kro_none rfl] at ho
    subst ho
    refine E_met (own := RX6) rfl rfl (Nat.le_of_ble_eq_true rfl) ?_
    intro p e s m below meth c hC hr hlk hnm hG h0 ls hl
    have hx := hC.x
    have hb := hC.b
    have hS : va_S (AB B) s.heap s.heap [] := va_S.rf
    have hl : lo ls 1 [some (va_rf none)] := lo_of hl
    refine o_aload_nq (x := none) hx hb dX6_numberOf_0 hl rfl ?_
    refine lv_ifnonnullN hx hb dX6_numberOf_1 ?_
    refine lv_iconst (v := (-1)) hx hb dX6_numberOf_4 (by decide) ?_
    refine lv_goto (tgt := 12) hx hb dX6_numberOf_5 (by decide) ?_
    exact R_i hC hr hlk rfl (rfl) dX6_numberOf_12
  · skip
    by_cases hkq : ∃ q, q < 2 ^ 31 ∧ kk = nI q
    · skip
      obtain ⟨q0, hq31, rfl⟩ := hkq
      rw [kro_some rfl hq31] at ho
      subst ho
      refine E_met (own := RX6) rfl rfl (Nat.le_of_ble_eq_true rfl) ?_
      intro p e s m below meth c hC hr hlk hnm hG h0 ls hl
      have hx := hC.x
      have hb := hC.b
      have hS : va_S (AB B) s.heap s.heap [] := va_S.rf
      have hl : lo ls 1 [some (.ref (ad 7 q0 0))] := lo_of hl
      obtain ⟨hW, hkk⟩ := h0
      have hq0 : q0 < n 2 := by
        rcases hkk with z | ⟨q, h1, h2⟩
        · exact absurd z hkm
        · have hn2 : n 2 ≤ 8 := hW.2.2.1
          rw [(nI_eq hq31 (by omega)).mp h2]; exact h1
      have hW9 := hW
      obtain ⟨hB0, hB1, hB2, hB3, hB4, hB5, hB6, hB7, hKI, hEI, hKY⟩ := hW9
      refine o_aload_n hx hb dX6_numberOf_0 hl rfl ?_
      refine lv_ifnonnull (tgt := 8) hx hb dX6_numberOf_1 (by decide) ?_
      refine o_aload_n hx hb dX6_numberOf_8 hl rfl ?_
      refine g_get hC hG us_X4 rfl 0 (by decide) fl_X6_119 (V_kind (by omega)) rfl dX6_numberOf_9 ?_
      exact R_i hC hr hlk rfl (rfl) dX6_numberOf_12
    · skip
      refine E_met (own := RX6) rfl rfl (by cases o <;> exact Nat.le_of_ble_eq_true rfl) ?_
      intro p e s m below meth c hC hr hlk hnm hG h0
      exact (h0.2.elim hkm (fun ⟨q, h1, h2⟩ => hkq ⟨q, by have := h0.1.2.2.1; omega, h2⟩)).elim
theorem k_X6_numberOf {p : Program} {l : Launch} {e : Env} {R : Room} {s : State} {m : MethodId} {args : Array Value} {below : List Frame} {meth : Method} {c : Code} {H : Heap} {locs : List Loc} {cells slots : Nat} {Q : State → Prop} {cc : ByteArray} {pc nL : Nat} {ls : Array Slot} {rest : List Value} {own : String} {D : va_G} {cy : Nat → ClassId} {sa : Nat → Nat} {de B : Nat} {ad : Ad} {S : St} {n : Nat → Nat} {T : St} {k : Nat → Nat} {th : Int32} {X : Rl} {kk : Int32} {o : Option Nat}  (hC : Cx p m c cc nL s args own D cy sa de B) (hS : va_S (AB B) s.heap H locs) (hG : GW D B ad (Vw cy de ad S n T k th X) H) (h0 : WF S n ∧ (kk = -1 ∨ ∃ q, q < n 2 ∧ kk = nI q)) (ho : kro ad kk = o) {idx : Nat} (wl : Cond.methodLink own idx yX6_numberOf ∈ G0) (hR : 0 + 1 ≤ R.frames ∧ 8 + (1 + 11) + 0 ≤ R.locals) (hsz : ls.size = nL) (hst : (rest.map fun v => v.category).sum ≤ 8) (hdg : decode cc pc = .ok (.invokestatic idx, 3)) (hcs : cells + 0 ≤ R.cells ∧ slots + 0 ≤ R.slots) (kk : W p l e R s m args below meth c H locs cells slots Q (F0 m (pc + 3) ls (.int kk :: rest))) : W p l e R s m args below meth c H locs cells slots Q (F0 m pc ls (va_rf o :: rest)) :=
  vp_callSi (va_Run.run (rS hC hS hG h0 (As := [va_rf o]) (c_X6_numberOf l ho) ⟨rfl, rfl⟩ wl sm_X6_numberOf in_X6 cd_X6_numberOf (n := 1) (by decide +kernel) hR rfl hsz hst rfl hdg hcs)) (fun r hr => by subst hr; exact kk)
set_option maxHeartbeats 4000000 in
set_option maxRecDepth 100000 in
theorem c_X6_body (l : Launch) (hfl : l.stackTraces = false) {D : va_G} {cy : Nat → ClassId} {sa : Nat → Nat} {de B : Nat} {ad : Ad} {S : St} {n : Nat → Nat} {T : St} {k : Nat → Nat} {th : Int32} {X : Rl} {x y z : Int32}  : vx_Met l yX6_body (Cond.code yX6_body cX6_body 6 (Option.some Jvm.ClassFile.FieldType.int) :: G0) ({ frames := 7, cells := 3, slots := 18, locals := 103 } : Room) (va_Pc [.ref (ad 0 0 0), .int x, .int y, .int z] (PW D cy sa de B ad (Vw cy de ad S n T k th X) (CI S n))) (oI B (fun r H => (cd_body n x y z = 0 ∧ r = (S 6 (ci x) (ci y)) ∧ GW D B ad (Vw cy de ad (up_body S x y z) n T k th X) H))) (oX B (fun E H => ((E = "java/lang/IndexOutOfBoundsException" ∧ cd_body n x y z = 1) ∨ (E = "java/lang/IllegalArgumentException" ∧ cd_body n x y z = 2)) ∧ GW D B ad (Vw cy de ad S n T k th X) H)) 3 18 (AB B) := by
  refine E_vx (own := RX6) rfl rfl (Nat.le_of_ble_eq_true rfl) ?_
  intro p e s m below meth c hC hr hlk hex hG h0 ls hl
  have hx := hC.x
  have hb := hC.b
  have hS : va_S (AB B) s.heap s.heap [] := va_S.rf
  have hl : lo ls 6 [some (.ref (ad 0 0 0)), some (.int x), some (.int y), some (.int z), none, none] := lo_of hl
  obtain ⟨hW, hNE, hCH, hBL⟩ := h0
  have hW9 := hW
  obtain ⟨hB0, hB1, hB2, hB3, hB4, hB5, hB6, hB7, hKI, hEI, hKY⟩ := hW9
  
  refine o_aload_n hx hb dX6_body_0 hl rfl ?_
  refine o_iload_n hx hb dX6_body_1 hl rfl ?_
  refine k_X6_needAthlete hfl hC hS hG hW ml_X6_53 ⟨Nat.le_of_ble_eq_true rfl, Nat.le_of_ble_eq_true rfl⟩ hl.1 (Nat.le_of_ble_eq_true rfl) dX6_body_2 ⟨Nat.le_of_ble_eq_true rfl, Nat.le_of_ble_eq_true rfl⟩ hex hlk (Nat.le_of_ble_eq_true rfl) (Nat.le_of_ble_eq_true rfl) (fun E H1 hE => ⟨Or.inl (⟨hE.1.1, (by simp only [cd_body]; exact cif_f hE.1.2)⟩), hE.2⟩) (fun a2 h2_0 h2_1 H locs hG hS => ?_)
  subst h2_1
  have z2 : ci (nI a2) = a2 := nI_clamp (by omega)
  refine o_astore hx hb dX6_body_5 hl (by decide) rfl (fun ls hl => ?_)
  refine o_iload_n hx hb dX6_body_7 hl rfl ?_
  refine k_X6_needMeasure hfl hC hS hG trivial ml_X6_57 ⟨Nat.le_of_ble_eq_true rfl, Nat.le_of_ble_eq_true rfl⟩ hl.1 (Nat.le_of_ble_eq_true rfl) dX6_body_8 ⟨Nat.le_of_ble_eq_true rfl, Nat.le_of_ble_eq_true rfl⟩ hex hlk (Nat.le_of_ble_eq_true rfl) (Nat.le_of_ble_eq_true rfl) (fun E H1 hE => ⟨Or.inr (⟨hE.1.1, (by simp only [cd_body]; exact (cif_t (ix_nI h2_0)).trans (cif_f (fun z => hE.1.2 z.1)))⟩), hE.2⟩) (fun a8 h8_0 h8_1 H locs hG hS => ?_)
  subst h8_1
  have z8 : ci (nI a8) = a8 := nI_clamp (by omega)
  refine o_iload_n hx hb dX6_body_11 hl rfl ?_
  refine lv_if_lt (tgt := 21) hx hb dX6_body_12 (by decide) (fun h12 => ?_) (fun h12 => ?_)
  · skip
    exact thr_IA hC hfl hS hG hex hlk hl.1 (si := 4) rfl dX6_body_21 dX6_body_24 dX6_body_25 dX6_body_27 dX6_body_30 (Nat.le_of_ble_eq_true rfl) (Nat.le_of_ble_eq_true rfl) (Nat.le_of_ble_eq_true rfl) (Nat.le_of_ble_eq_true rfl) (fun H1 hG1 => ⟨Or.inr (⟨rfl, (by simp only [cd_body]; exact (cif_t (ix_nI h2_0)).trans (cif_f (fun z => by first | exact absurd h12 (Int32.not_lt.mpr z.2.1) | exact h18 z.2.2)))⟩), hG1⟩) (Nat.le_of_ble_eq_true rfl) (Nat.le_of_ble_eq_true rfl)
  · skip
    refine o_iload_n hx hb dX6_body_15 hl rfl ?_
    refine lv_bipush (v := 100) hx hb dX6_body_16 (by decide) ?_
    refine lv_icmp_le (tgt := 31) hx hb dX6_body_18 (by decide) (fun h18 => ?_) (fun h18 => ?_)
    · skip
      refine o_aload hx hb dX6_body_31 hl rfl ?_
      refine g_get hC hG us_X0 rfl 2 (by decide) fl_X6_65 (V_ath (by omega)) rfl dX6_body_33 ?_
      refine o_iload_n hx hb dX6_body_36 hl rfl ?_
      refine k_X5_of hC hS hG ⟨by omega, by omega, by omega⟩ ml_X6_69 ⟨Nat.le_of_ble_eq_true rfl, Nat.le_of_ble_eq_true rfl⟩ hl.1 (Nat.le_of_ble_eq_true rfl) dX6_body_37 ⟨Nat.le_of_ble_eq_true rfl, Nat.le_of_ble_eq_true rfl⟩ ?_
      refine o_istore hx hb dX6_body_40 hl (by decide) rfl (fun ls hl => ?_)
      refine o_aload hx hb dX6_body_42 hl rfl ?_
      refine g_get hC hG us_X0 rfl 2 (by decide) fl_X6_65 (V_ath (by omega)) rfl dX6_body_44 ?_
      refine o_iload_n hx hb dX6_body_47 hl rfl ?_
      refine o_iload_n hx hb dX6_body_48 hl rfl ?_
      refine k_X5_tell hC hS hG ⟨by omega, by omega, by omega⟩ ml_X6_75 ⟨Nat.le_of_ble_eq_true rfl, Nat.le_of_ble_eq_true rfl⟩ hl.1 (Nat.le_of_ble_eq_true rfl) dX6_body_49 ⟨Nat.le_of_ble_eq_true rfl, Nat.le_of_ble_eq_true rfl⟩ (fun H locs hG hS => ?_)
      refine o_iload hx hb dX6_body_52 hl rfl ?_
      refine vx_ret ?_
      exact R_I hC hS hr hlk rfl (⟨(by simp only [cd_body]; exact (cif_t (ix_nI h2_0)).trans (cif_t ⟨ix_nI h8_0, Int32.not_lt.mp h12, h18⟩)), (by rw [z2, z8]; rfl), (by simp only [up_body, z2, z8]; exact hG)⟩) (Nat.le_of_ble_eq_true rfl) (Nat.le_of_ble_eq_true rfl) dX6_body_54
    · skip
      exact thr_IA hC hfl hS hG hex hlk hl.1 (si := 4) rfl dX6_body_21 dX6_body_24 dX6_body_25 dX6_body_27 dX6_body_30 (Nat.le_of_ble_eq_true rfl) (Nat.le_of_ble_eq_true rfl) (Nat.le_of_ble_eq_true rfl) (Nat.le_of_ble_eq_true rfl) (fun H1 hG1 => ⟨Or.inr (⟨rfl, (by simp only [cd_body]; exact (cif_t (ix_nI h2_0)).trans (cif_f (fun z => by first | exact absurd h12 (Int32.not_lt.mpr z.2.1) | exact h18 z.2.2)))⟩), hG1⟩) (Nat.le_of_ble_eq_true rfl) (Nat.le_of_ble_eq_true rfl)
theorem k_X6_body {p : Program} {l : Launch} {e : Env} {R : Room} {s : State} {m : MethodId} {args : Array Value} {below : List Frame} {meth : Method} {c : Code} {H : Heap} {locs : List Loc} {cells slots : Nat} {cc : ByteArray} {pc nL : Nat} {ls : Array Slot} {rest : List Value} {own : String} {D : va_G} {cy : Nat → ClassId} {sa : Nat → Nat} {de B : Nat} {ad : Ad} {S : St} {n : Nat → Nat} {T : St} {k : Nat → Nat} {th : Int32} {X : Rl} {x y z : Int32} {mcc mss : Nat} {Qc : Array Value → State → Outcome → State → Prop} {GX : String → Heap → Prop} (hfl : l.stackTraces = false)  (hC : Cx p m c cc nL s args own D cy sa de B) (hS : va_S (AB B) s.heap H locs) (hG : GW D B ad (Vw cy de ad S n T k th X) H) (h0 : CI S n)  {idx : Nat} (wl : Cond.methodLink own idx yX6_body ∈ G0) (hR : 7 + 1 ≤ R.frames ∧ 8 + (6 + 11) + 103 ≤ R.locals) (hsz : ls.size = nL) (hst : (rest.map fun v => v.category).sum ≤ 8) (hdg : decode cc pc = .ok (.invokevirtual idx, 3)) (hcs : cells + 3 ≤ R.cells ∧ slots + 18 ≤ R.slots) (hex : ∀ x ∈ c.exceptionTable.toList, False) (hlk : meth.locks = false) (hmc : cells + 3 ≤ mcc) (hms : slots + 18 ≤ mss) (hxx : ∀ (E : String) (H1 : Heap), ((fun E H => ((E = "java/lang/IndexOutOfBoundsException" ∧ cd_body n x y z = 1) ∨ (E = "java/lang/IllegalArgumentException" ∧ cd_body n x y z = 2)) ∧ GW D B ad (Vw cy de ad S n T k th X) H)) E H1 → GX E H1) (k0 : (cd_body n x y z = 0) → ∀ (H1 : Heap) (locs1 : List Loc), GW D B ad (Vw cy de ad (up_body S x y z) n T k th X) H1 → va_S (AB B) s.heap H1 locs1 → W p l e R s m args below meth c H1 locs1 (cells + 3) (slots + 18) (vx_MQ below Qc (oX B GX) args s mcc mss (AB B)) (F0 m (pc + 3) ls (.int (S 6 (ci x) (ci y)) :: rest))) : W p l e R s m args below meth c H locs cells slots (vx_MQ below Qc (oX B GX) args s mcc mss (AB B)) (F0 m pc ls (.int z :: .int y :: .int x :: .ref (ad 0 0 0) :: rest)) :=
  vx_calli (xV hC hS hG h0 (As := [.int x, .int y, .int z]) (c_X6_body l hfl) ⟨rfl, rfl⟩ wl im_X6_body sl_X6_X6_body in_X6 cd_X6_body (n := 3) (by decide +kernel) hR (recv hC hG (q := (RX6, TX6, 6)) rfl V_games) rfl hsz hst rfl hdg hcs) hS (fun _ _ h => h) (fun _ h => h) (fun _ _ h => h) (fun E ce q9 u t H1 locs1 ht hv hp hB hz hq hS1 hce hcv hcl => prop_out hS1 hex hlk (hxx E H1 (by dsimp only at hB; rw [ht] at hB; exact hB)) hce hcv hcl hmc hms) (fun r u t H1 locs1 ht _ hr hB _ _ hS1 => by
      subst hr
      have hB9 := hB; try dsimp only at hB9
      rw [ht] at hB9
      rcases hB9 with ⟨q0, rfl, hG1⟩
      · exact k0 q0 _ _ hG1 hS1)
set_option maxHeartbeats 4000000 in
set_option maxRecDepth 100000 in
theorem c_X6_show (l : Launch) (hfl : l.stackTraces = false) {D : va_G} {cy : Nat → ClassId} {sa : Nat → Nat} {de B : Nat} {ad : Ad} {S : St} {n : Nat → Nat} {T : St} {k : Nat → Nat} {th : Int32} {X : Rl} {x y z : Int32}  : vx_Met l yX6_show (Cond.code yX6_show cX6_show 6 (Option.some Jvm.ClassFile.FieldType.int) :: G0) ({ frames := 7, cells := 3, slots := 18, locals := 103 } : Room) (va_Pc [.ref (ad 0 0 0), .int x, .int y, .int z] (PW D cy sa de B ad (Vw cy de ad S n T k th X) (CI S n))) (oI B (fun r H => (cd_show n x y z = 0 ∧ r = (shv S (ci x) (ci y)) ∧ GW D B ad (Vw cy de ad (up_show S x y z) n T k th X) H))) (oX B (fun E H => ((E = "java/lang/IndexOutOfBoundsException" ∧ cd_show n x y z = 1) ∨ (E = "java/lang/IllegalArgumentException" ∧ cd_show n x y z = 2)) ∧ GW D B ad (Vw cy de ad S n T k th X) H)) 3 18 (AB B) := by
  refine E_vx (own := RX6) rfl rfl (Nat.le_of_ble_eq_true rfl) ?_
  intro p e s m below meth c hC hr hlk hex hG h0 ls hl
  have hx := hC.x
  have hb := hC.b
  have hS : va_S (AB B) s.heap s.heap [] := va_S.rf
  have hl : lo ls 6 [some (.ref (ad 0 0 0)), some (.int x), some (.int y), some (.int z), none, none] := lo_of hl
  obtain ⟨hW, hNE, hCH, hBL⟩ := h0
  have hW9 := hW
  obtain ⟨hB0, hB1, hB2, hB3, hB4, hB5, hB6, hB7, hKI, hEI, hKY⟩ := hW9
  
  refine o_aload_n hx hb dX6_show_0 hl rfl ?_
  refine o_iload_n hx hb dX6_show_1 hl rfl ?_
  refine k_X6_needAthlete hfl hC hS hG hW ml_X6_53 ⟨Nat.le_of_ble_eq_true rfl, Nat.le_of_ble_eq_true rfl⟩ hl.1 (Nat.le_of_ble_eq_true rfl) dX6_show_2 ⟨Nat.le_of_ble_eq_true rfl, Nat.le_of_ble_eq_true rfl⟩ hex hlk (Nat.le_of_ble_eq_true rfl) (Nat.le_of_ble_eq_true rfl) (fun E H1 hE => ⟨Or.inl (⟨hE.1.1, (by simp only [cd_show]; exact cif_f hE.1.2)⟩), hE.2⟩) (fun a2 h2_0 h2_1 H locs hG hS => ?_)
  subst h2_1
  have z2 : ci (nI a2) = a2 := nI_clamp (by omega)
  refine o_astore hx hb dX6_show_5 hl (by decide) rfl (fun ls hl => ?_)
  refine o_iload_n hx hb dX6_show_7 hl rfl ?_
  refine k_X6_needMeasure hfl hC hS hG trivial ml_X6_57 ⟨Nat.le_of_ble_eq_true rfl, Nat.le_of_ble_eq_true rfl⟩ hl.1 (Nat.le_of_ble_eq_true rfl) dX6_show_8 ⟨Nat.le_of_ble_eq_true rfl, Nat.le_of_ble_eq_true rfl⟩ hex hlk (Nat.le_of_ble_eq_true rfl) (Nat.le_of_ble_eq_true rfl) (fun E H1 hE => ⟨Or.inr (⟨hE.1.1, (by simp only [cd_show]; exact (cif_t (ix_nI h2_0)).trans (cif_f (fun z => hE.1.2 z.1)))⟩), hE.2⟩) (fun a8 h8_0 h8_1 H locs hG hS => ?_)
  subst h8_1
  have z8 : ci (nI a8) = a8 := nI_clamp (by omega)
  refine o_iload_n hx hb dX6_show_11 hl rfl ?_
  refine lv_iconst (v := (-1)) hx hb dX6_show_12 (by decide) ?_
  refine lv_icmp_eq (tgt := 36) hx hb dX6_show_13 (by decide) (fun h13 => ?_) (fun h13 => ?_)
  · skip
    refine o_aload hx hb dX6_show_36 hl rfl ?_
    refine o_iload_n hx hb dX6_show_38 hl rfl ?_
    refine k_X0_shownOf hC hS hG ⟨by omega, by omega⟩ ml_X6_80 ⟨Nat.le_of_ble_eq_true rfl, Nat.le_of_ble_eq_true rfl⟩ hl.1 (Nat.le_of_ble_eq_true rfl) dX6_show_39 ⟨Nat.le_of_ble_eq_true rfl, Nat.le_of_ble_eq_true rfl⟩ ?_
    refine o_istore hx hb dX6_show_42 hl (by decide) rfl (fun ls hl => ?_)
    refine o_aload hx hb dX6_show_44 hl rfl ?_
    refine g_get hC hG us_X0 rfl 3 (by decide) fl_X6_83 (V_ath (by omega)) rfl dX6_show_46 ?_
    refine o_iload_n hx hb dX6_show_49 hl rfl ?_
    refine o_iload_n hx hb dX6_show_50 hl rfl ?_
    refine k_X5_tell hC hS hG ⟨by omega, by omega, by omega⟩ ml_X6_75 ⟨Nat.le_of_ble_eq_true rfl, Nat.le_of_ble_eq_true rfl⟩ hl.1 (Nat.le_of_ble_eq_true rfl) dX6_show_51 ⟨Nat.le_of_ble_eq_true rfl, Nat.le_of_ble_eq_true rfl⟩ (fun H locs hG hS => ?_)
    refine o_iload hx hb dX6_show_54 hl rfl ?_
    refine vx_ret ?_
    exact R_I hC hS hr hlk rfl (⟨(by simp only [cd_show]; exact (cif_t (ix_nI h2_0)).trans (cif_t ⟨ix_nI h8_0, by first | exact Or.inl h13 | exact Or.inr ⟨Int32.not_lt.mp h17, h23⟩⟩)), (by rw [z2, z8]), (by simp only [up_show, z2, z8]; exact hG)⟩) (Nat.le_of_ble_eq_true rfl) (Nat.le_of_ble_eq_true rfl) dX6_show_56
  · skip
    refine o_iload_n hx hb dX6_show_16 hl rfl ?_
    refine lv_if_lt (tgt := 26) hx hb dX6_show_17 (by decide) (fun h17 => ?_) (fun h17 => ?_)
    · skip
      exact thr_IA hC hfl hS hG hex hlk hl.1 (si := 5) rfl dX6_show_26 dX6_show_29 dX6_show_30 dX6_show_32 dX6_show_35 (Nat.le_of_ble_eq_true rfl) (Nat.le_of_ble_eq_true rfl) (Nat.le_of_ble_eq_true rfl) (Nat.le_of_ble_eq_true rfl) (fun H1 hG1 => ⟨Or.inr (⟨rfl, (by simp only [cd_show]; exact (cif_t (ix_nI h2_0)).trans (cif_f (fun z => z.2.elim h13 (fun z => by first | exact absurd h17 (Int32.not_lt.mpr z.1) | exact h23 z.2))))⟩), hG1⟩) (Nat.le_of_ble_eq_true rfl) (Nat.le_of_ble_eq_true rfl)
    · skip
      refine o_iload_n hx hb dX6_show_20 hl rfl ?_
      refine lv_bipush (v := 100) hx hb dX6_show_21 (by decide) ?_
      refine lv_icmp_le (tgt := 36) hx hb dX6_show_23 (by decide) (fun h23 => ?_) (fun h23 => ?_)
      · skip
        refine o_aload hx hb dX6_show_36 hl rfl ?_
        refine o_iload_n hx hb dX6_show_38 hl rfl ?_
        refine k_X0_shownOf hC hS hG ⟨by omega, by omega⟩ ml_X6_80 ⟨Nat.le_of_ble_eq_true rfl, Nat.le_of_ble_eq_true rfl⟩ hl.1 (Nat.le_of_ble_eq_true rfl) dX6_show_39 ⟨Nat.le_of_ble_eq_true rfl, Nat.le_of_ble_eq_true rfl⟩ ?_
        refine o_istore hx hb dX6_show_42 hl (by decide) rfl (fun ls hl => ?_)
        refine o_aload hx hb dX6_show_44 hl rfl ?_
        refine g_get hC hG us_X0 rfl 3 (by decide) fl_X6_83 (V_ath (by omega)) rfl dX6_show_46 ?_
        refine o_iload_n hx hb dX6_show_49 hl rfl ?_
        refine o_iload_n hx hb dX6_show_50 hl rfl ?_
        refine k_X5_tell hC hS hG ⟨by omega, by omega, by omega⟩ ml_X6_75 ⟨Nat.le_of_ble_eq_true rfl, Nat.le_of_ble_eq_true rfl⟩ hl.1 (Nat.le_of_ble_eq_true rfl) dX6_show_51 ⟨Nat.le_of_ble_eq_true rfl, Nat.le_of_ble_eq_true rfl⟩ (fun H locs hG hS => ?_)
        refine o_iload hx hb dX6_show_54 hl rfl ?_
        refine vx_ret ?_
        exact R_I hC hS hr hlk rfl (⟨(by simp only [cd_show]; exact (cif_t (ix_nI h2_0)).trans (cif_t ⟨ix_nI h8_0, by first | exact Or.inl h13 | exact Or.inr ⟨Int32.not_lt.mp h17, h23⟩⟩)), (by rw [z2, z8]), (by simp only [up_show, z2, z8]; exact hG)⟩) (Nat.le_of_ble_eq_true rfl) (Nat.le_of_ble_eq_true rfl) dX6_show_56
      · skip
        exact thr_IA hC hfl hS hG hex hlk hl.1 (si := 5) rfl dX6_show_26 dX6_show_29 dX6_show_30 dX6_show_32 dX6_show_35 (Nat.le_of_ble_eq_true rfl) (Nat.le_of_ble_eq_true rfl) (Nat.le_of_ble_eq_true rfl) (Nat.le_of_ble_eq_true rfl) (fun H1 hG1 => ⟨Or.inr (⟨rfl, (by simp only [cd_show]; exact (cif_t (ix_nI h2_0)).trans (cif_f (fun z => z.2.elim h13 (fun z => by first | exact absurd h17 (Int32.not_lt.mpr z.1) | exact h23 z.2))))⟩), hG1⟩) (Nat.le_of_ble_eq_true rfl) (Nat.le_of_ble_eq_true rfl)
theorem k_X6_show {p : Program} {l : Launch} {e : Env} {R : Room} {s : State} {m : MethodId} {args : Array Value} {below : List Frame} {meth : Method} {c : Code} {H : Heap} {locs : List Loc} {cells slots : Nat} {cc : ByteArray} {pc nL : Nat} {ls : Array Slot} {rest : List Value} {own : String} {D : va_G} {cy : Nat → ClassId} {sa : Nat → Nat} {de B : Nat} {ad : Ad} {S : St} {n : Nat → Nat} {T : St} {k : Nat → Nat} {th : Int32} {X : Rl} {x y z : Int32} {mcc mss : Nat} {Qc : Array Value → State → Outcome → State → Prop} {GX : String → Heap → Prop} (hfl : l.stackTraces = false)  (hC : Cx p m c cc nL s args own D cy sa de B) (hS : va_S (AB B) s.heap H locs) (hG : GW D B ad (Vw cy de ad S n T k th X) H) (h0 : CI S n)  {idx : Nat} (wl : Cond.methodLink own idx yX6_show ∈ G0) (hR : 7 + 1 ≤ R.frames ∧ 8 + (6 + 11) + 103 ≤ R.locals) (hsz : ls.size = nL) (hst : (rest.map fun v => v.category).sum ≤ 8) (hdg : decode cc pc = .ok (.invokevirtual idx, 3)) (hcs : cells + 3 ≤ R.cells ∧ slots + 18 ≤ R.slots) (hex : ∀ x ∈ c.exceptionTable.toList, False) (hlk : meth.locks = false) (hmc : cells + 3 ≤ mcc) (hms : slots + 18 ≤ mss) (hxx : ∀ (E : String) (H1 : Heap), ((fun E H => ((E = "java/lang/IndexOutOfBoundsException" ∧ cd_show n x y z = 1) ∨ (E = "java/lang/IllegalArgumentException" ∧ cd_show n x y z = 2)) ∧ GW D B ad (Vw cy de ad S n T k th X) H)) E H1 → GX E H1) (k0 : (cd_show n x y z = 0) → ∀ (H1 : Heap) (locs1 : List Loc), GW D B ad (Vw cy de ad (up_show S x y z) n T k th X) H1 → va_S (AB B) s.heap H1 locs1 → W p l e R s m args below meth c H1 locs1 (cells + 3) (slots + 18) (vx_MQ below Qc (oX B GX) args s mcc mss (AB B)) (F0 m (pc + 3) ls (.int (shv S (ci x) (ci y)) :: rest))) : W p l e R s m args below meth c H locs cells slots (vx_MQ below Qc (oX B GX) args s mcc mss (AB B)) (F0 m pc ls (.int z :: .int y :: .int x :: .ref (ad 0 0 0) :: rest)) :=
  vx_calli (xV hC hS hG h0 (As := [.int x, .int y, .int z]) (c_X6_show l hfl) ⟨rfl, rfl⟩ wl im_X6_show sl_X6_X6_show in_X6 cd_X6_show (n := 3) (by decide +kernel) hR (recv hC hG (q := (RX6, TX6, 6)) rfl V_games) rfl hsz hst rfl hdg hcs) hS (fun _ _ h => h) (fun _ h => h) (fun _ _ h => h) (fun E ce q9 u t H1 locs1 ht hv hp hB hz hq hS1 hce hcv hcl => prop_out hS1 hex hlk (hxx E H1 (by dsimp only at hB; rw [ht] at hB; exact hB)) hce hcv hcl hmc hms) (fun r u t H1 locs1 ht _ hr hB _ _ hS1 => by
      subst hr
      have hB9 := hB; try dsimp only at hB9
      rw [ht] at hB9
      rcases hB9 with ⟨q0, rfl, hG1⟩
      · exact k0 q0 _ _ hG1 hS1)
set_option maxHeartbeats 4000000 in
set_option maxRecDepth 100000 in
theorem c_X6_found (l : Launch) (hfl : l.stackTraces = false) {D : va_G} {cy : Nat → ClassId} {sa : Nat → Nat} {de B : Nat} {ad : Ad} {S : St} {n : Nat → Nat} {T : St} {k : Nat → Nat} {th : Int32} {X : Rl} {x y : Int32}  : vx_Met l yX6_found (Cond.code yX6_found cX6_found 4 (Option.some Jvm.ClassFile.FieldType.int) :: G0) ({ frames := 7, cells := 3, slots := 18, locals := 103 } : Room) (va_Pc [.ref (ad 0 0 0), .int x, .int y] (PW D cy sa de B ad (Vw cy de ad S n T k th X) (CI S n))) (oI B (fun r H => (cd_found S n x y = 0 ∧ r = (S 1 (ci x) (ci y)) ∧ GW D B ad (Vw cy de ad S n T k th X) H))) (oX B (fun E H => ((E = "java/lang/IndexOutOfBoundsException" ∧ cd_found S n x y = 1) ∨ (E = "java/lang/IllegalArgumentException" ∧ cd_found S n x y = 2) ∨ (E = "java/util/NoSuchElementException" ∧ cd_found S n x y = 3)) ∧ GW D B ad (Vw cy de ad S n T k th X) H)) 3 18 (AB B) := by
  refine E_vx (own := RX6) rfl rfl (Nat.le_of_ble_eq_true rfl) ?_
  intro p e s m below meth c hC hr hlk hex hG h0 ls hl
  have hx := hC.x
  have hb := hC.b
  have hS : va_S (AB B) s.heap s.heap [] := va_S.rf
  have hl : lo ls 4 [some (.ref (ad 0 0 0)), some (.int x), some (.int y), none] := lo_of hl
  obtain ⟨hW, hNE, hCH, hBL⟩ := h0
  have hW9 := hW
  obtain ⟨hB0, hB1, hB2, hB3, hB4, hB5, hB6, hB7, hKI, hEI, hKY⟩ := hW9
  
  refine o_aload_n hx hb dX6_found_0 hl rfl ?_
  refine o_iload_n hx hb dX6_found_1 hl rfl ?_
  refine k_X6_needAthlete hfl hC hS hG hW ml_X6_53 ⟨Nat.le_of_ble_eq_true rfl, Nat.le_of_ble_eq_true rfl⟩ hl.1 (Nat.le_of_ble_eq_true rfl) dX6_found_2 ⟨Nat.le_of_ble_eq_true rfl, Nat.le_of_ble_eq_true rfl⟩ hex hlk (Nat.le_of_ble_eq_true rfl) (Nat.le_of_ble_eq_true rfl) (fun E H1 hE => ⟨Or.inl (⟨hE.1.1, (by simp only [cd_found]; exact cif_f hE.1.2)⟩), hE.2⟩) (fun a2 h2_0 h2_1 H locs hG hS => ?_)
  subst h2_1
  have z2 : ci (nI a2) = a2 := nI_clamp (by omega)
  refine o_astore_n hx hb dX6_found_5 hl (by decide) rfl (fun ls hl => ?_)
  refine o_iload_n hx hb dX6_found_6 hl rfl ?_
  refine k_X6_needMeasure hfl hC hS hG trivial ml_X6_57 ⟨Nat.le_of_ble_eq_true rfl, Nat.le_of_ble_eq_true rfl⟩ hl.1 (Nat.le_of_ble_eq_true rfl) dX6_found_7 ⟨Nat.le_of_ble_eq_true rfl, Nat.le_of_ble_eq_true rfl⟩ hex hlk (Nat.le_of_ble_eq_true rfl) (Nat.le_of_ble_eq_true rfl) (fun E H1 hE => ⟨Or.inr (Or.inl (⟨hE.1.1, (by simp only [cd_found]; exact (cif_t (ix_nI h2_0)).trans (cif_f hE.1.2))⟩)), hE.2⟩) (fun a7 h7_0 h7_1 H locs hG hS => ?_)
  subst h7_1
  have z7 : ci (nI a7) = a7 := nI_clamp (by omega)
  refine o_aload_n hx hb dX6_found_10 hl rfl ?_
  refine g_get hC hG us_X0 rfl 5 (by decide) fl_X6_86 (V_ath (by omega)) rfl dX6_found_11 ?_
  refine lv_if_ne (tgt := 27) hx hb dX6_found_14 (by decide) (fun h14 => ?_) (fun h14 => ?_)
  · skip
    refine o_aload_n hx hb dX6_found_27 hl rfl ?_
    refine g_get hC hG us_X0 rfl 4 (by decide) fl_X6_95 (V_ath (by omega)) rfl dX6_found_28 ?_
    refine o_iload_n hx hb dX6_found_31 hl rfl ?_
    refine k_X5_of hC hS hG ⟨by omega, by omega, by omega⟩ ml_X6_69 ⟨Nat.le_of_ble_eq_true rfl, Nat.le_of_ble_eq_true rfl⟩ hl.1 (Nat.le_of_ble_eq_true rfl) dX6_found_32 ⟨Nat.le_of_ble_eq_true rfl, Nat.le_of_ble_eq_true rfl⟩ ?_
    refine vx_ret ?_
    exact R_I hC hS hr hlk rfl (⟨(by simp only [cd_found, z2]; exact (cif_t (ix_nI h2_0)).trans ((cif_t (ix_nI h7_0)).trans (cif_f h14))), (by rw [z2, z7]; rfl), (by exact hG)⟩) (Nat.le_of_ble_eq_true rfl) (Nat.le_of_ble_eq_true rfl) dX6_found_35
  · skip
    exact thr_NS hC hfl hS hG hex hlk hl.1 (si := 6) rfl dX6_found_17 dX6_found_20 dX6_found_21 dX6_found_23 dX6_found_26 (Nat.le_of_ble_eq_true rfl) (Nat.le_of_ble_eq_true rfl) (Nat.le_of_ble_eq_true rfl) (Nat.le_of_ble_eq_true rfl) (fun H1 hG1 => ⟨Or.inr (Or.inr (⟨rfl, (by simp only [cd_found, z2]; exact (cif_t (ix_nI h2_0)).trans ((cif_t (ix_nI h7_0)).trans (cif_t h14)))⟩)), hG1⟩) (Nat.le_of_ble_eq_true rfl) (Nat.le_of_ble_eq_true rfl)
theorem k_X6_found {p : Program} {l : Launch} {e : Env} {R : Room} {s : State} {m : MethodId} {args : Array Value} {below : List Frame} {meth : Method} {c : Code} {H : Heap} {locs : List Loc} {cells slots : Nat} {cc : ByteArray} {pc nL : Nat} {ls : Array Slot} {rest : List Value} {own : String} {D : va_G} {cy : Nat → ClassId} {sa : Nat → Nat} {de B : Nat} {ad : Ad} {S : St} {n : Nat → Nat} {T : St} {k : Nat → Nat} {th : Int32} {X : Rl} {x y : Int32} {mcc mss : Nat} {Qc : Array Value → State → Outcome → State → Prop} {GX : String → Heap → Prop} (hfl : l.stackTraces = false)  (hC : Cx p m c cc nL s args own D cy sa de B) (hS : va_S (AB B) s.heap H locs) (hG : GW D B ad (Vw cy de ad S n T k th X) H) (h0 : CI S n)  {idx : Nat} (wl : Cond.methodLink own idx yX6_found ∈ G0) (hR : 7 + 1 ≤ R.frames ∧ 8 + (4 + 11) + 103 ≤ R.locals) (hsz : ls.size = nL) (hst : (rest.map fun v => v.category).sum ≤ 8) (hdg : decode cc pc = .ok (.invokevirtual idx, 3)) (hcs : cells + 3 ≤ R.cells ∧ slots + 18 ≤ R.slots) (hex : ∀ x ∈ c.exceptionTable.toList, False) (hlk : meth.locks = false) (hmc : cells + 3 ≤ mcc) (hms : slots + 18 ≤ mss) (hxx : ∀ (E : String) (H1 : Heap), ((fun E H => ((E = "java/lang/IndexOutOfBoundsException" ∧ cd_found S n x y = 1) ∨ (E = "java/lang/IllegalArgumentException" ∧ cd_found S n x y = 2) ∨ (E = "java/util/NoSuchElementException" ∧ cd_found S n x y = 3)) ∧ GW D B ad (Vw cy de ad S n T k th X) H)) E H1 → GX E H1) (k0 : (cd_found S n x y = 0) → ∀ (H1 : Heap) (locs1 : List Loc), GW D B ad (Vw cy de ad S n T k th X) H1 → va_S (AB B) s.heap H1 locs1 → W p l e R s m args below meth c H1 locs1 (cells + 3) (slots + 18) (vx_MQ below Qc (oX B GX) args s mcc mss (AB B)) (F0 m (pc + 3) ls (.int (S 1 (ci x) (ci y)) :: rest))) : W p l e R s m args below meth c H locs cells slots (vx_MQ below Qc (oX B GX) args s mcc mss (AB B)) (F0 m pc ls (.int y :: .int x :: .ref (ad 0 0 0) :: rest)) :=
  vx_calli (xV hC hS hG h0 (As := [.int x, .int y]) (c_X6_found l hfl) ⟨rfl, rfl⟩ wl im_X6_found sl_X6_X6_found in_X6 cd_X6_found (n := 2) (by decide +kernel) hR (recv hC hG (q := (RX6, TX6, 6)) rfl V_games) rfl hsz hst rfl hdg hcs) hS (fun _ _ h => h) (fun _ h => h) (fun _ _ h => h) (fun E ce q9 u t H1 locs1 ht hv hp hB hz hq hS1 hce hcv hcl => prop_out hS1 hex hlk (hxx E H1 (by dsimp only at hB; rw [ht] at hB; exact hB)) hce hcv hcl hmc hms) (fun r u t H1 locs1 ht _ hr hB _ _ hS1 => by
      subst hr
      have hB9 := hB; try dsimp only at hB9
      rw [ht] at hB9
      rcases hB9 with ⟨q0, rfl, hG1⟩
      · exact k0 q0 _ _ hG1 hS1)
set_option maxHeartbeats 4000000 in
set_option maxRecDepth 100000 in
theorem c_X6_belongs (l : Launch) (hfl : l.stackTraces = false) {D : va_G} {cy : Nat → ClassId} {sa : Nat → Nat} {de B : Nat} {ad : Ad} {S : St} {n : Nat → Nat} {T : St} {k : Nat → Nat} {th : Int32} {X : Rl} {x : Int32}  : vx_Met l yX6_belongs (Cond.code yX6_belongs cX6_belongs 2 (Option.some Jvm.ClassFile.FieldType.int) :: G0) ({ frames := 7, cells := 1, slots := 6, locals := 103 } : Room) (va_Pc [.ref (ad 0 0 0), .int x] (PW D cy sa de B ad (Vw cy de ad S n T k th X) (CI S n))) (oI B (fun r H => (cd_ath n x = 0 ∧ r = (kbel S n (fMea S (ci x) 0)) ∧ GW D B ad (Vw cy de ad S n T k th X) H))) (oX B (fun E H => ((E = "java/lang/IndexOutOfBoundsException" ∧ cd_ath n x = 1)) ∧ GW D B ad (Vw cy de ad S n T k th X) H)) 1 6 (AB B) := by
  refine E_vx (own := RX6) rfl rfl (Nat.le_of_ble_eq_true rfl) ?_
  intro p e s m below meth c hC hr hlk hex hG h0 ls hl
  have hx := hC.x
  have hb := hC.b
  have hS : va_S (AB B) s.heap s.heap [] := va_S.rf
  have hl : lo ls 2 [some (.ref (ad 0 0 0)), some (.int x)] := lo_of hl
  obtain ⟨hW, hNE, hCH, hBL⟩ := h0
  have hW9 := hW
  obtain ⟨hB0, hB1, hB2, hB3, hB4, hB5, hB6, hB7, hKI, hEI, hKY⟩ := hW9
  
  refine o_aload_n hx hb dX6_belongs_0 hl rfl ?_
  refine o_aload_n hx hb dX6_belongs_1 hl rfl ?_
  refine o_iload_n hx hb dX6_belongs_2 hl rfl ?_
  refine k_X6_needAthlete hfl hC hS hG hW ml_X6_53 ⟨Nat.le_of_ble_eq_true rfl, Nat.le_of_ble_eq_true rfl⟩ hl.1 (Nat.le_of_ble_eq_true rfl) dX6_belongs_3 ⟨Nat.le_of_ble_eq_true rfl, Nat.le_of_ble_eq_true rfl⟩ hex hlk (Nat.le_of_ble_eq_true rfl) (Nat.le_of_ble_eq_true rfl) (fun E H1 hE => ⟨⟨hE.1.1, (by simp only [cd_ath]; exact cif_f hE.1.2)⟩, hE.2⟩) (fun a3 h3_0 h3_1 H locs hG hS => ?_)
  subst h3_1
  have z3 : ci (nI a3) = a3 := nI_clamp (by omega)
  refine g_get hC hG us_X0 rfl 2 (by decide) fl_X6_65 (V_ath (by omega)) rfl dX6_belongs_6 ?_
  refine k_X6_kindAround hC hS hG ⟨by omega, by omega, hW⟩ ml_X6_123 ⟨Nat.le_of_ble_eq_true rfl, Nat.le_of_ble_eq_true rfl⟩ hl.1 (Nat.le_of_ble_eq_true rfl) dX6_belongs_9 ⟨Nat.le_of_ble_eq_true rfl, Nat.le_of_ble_eq_true rfl⟩ (fun h9_0 => ?_) (fun q9 h9_0 h9_1 => ?_)
  · skip
    refine k_X6_numberOf (o := none) (kk := (-1)) hC hS hG ⟨hW, Or.inl rfl⟩ (kro_none rfl) ml_X6_127 ⟨Nat.le_of_ble_eq_true rfl, Nat.le_of_ble_eq_true rfl⟩ hl.1 (Nat.le_of_ble_eq_true rfl) dX6_belongs_12 ⟨Nat.le_of_ble_eq_true rfl, Nat.le_of_ble_eq_true rfl⟩ ?_
    refine vx_ret ?_
    exact R_I hC hS hr hlk rfl (⟨(by simp only [cd_ath]; exact cif_t (ix_nI h3_0)), (by rw [z3]; first | exact h9_0.symm | exact h9_1.symm), (by exact hG)⟩) (Nat.le_of_ble_eq_true rfl) (Nat.le_of_ble_eq_true rfl) dX6_belongs_15
  · skip
    refine k_X6_numberOf (o := some (ad 7 q9 0)) (kk := (nI q9)) hC hS hG ⟨hW, Or.inr ⟨_, by omega, rfl⟩⟩ (kro_some rfl (by omega)) ml_X6_127 ⟨Nat.le_of_ble_eq_true rfl, Nat.le_of_ble_eq_true rfl⟩ hl.1 (Nat.le_of_ble_eq_true rfl) dX6_belongs_12 ⟨Nat.le_of_ble_eq_true rfl, Nat.le_of_ble_eq_true rfl⟩ ?_
    refine vx_ret ?_
    exact R_I hC hS hr hlk rfl (⟨(by simp only [cd_ath]; exact cif_t (ix_nI h3_0)), (by rw [z3]; first | exact h9_0.symm | exact h9_1.symm), (by exact hG)⟩) (Nat.le_of_ble_eq_true rfl) (Nat.le_of_ble_eq_true rfl) dX6_belongs_15
theorem k_X6_belongs {p : Program} {l : Launch} {e : Env} {R : Room} {s : State} {m : MethodId} {args : Array Value} {below : List Frame} {meth : Method} {c : Code} {H : Heap} {locs : List Loc} {cells slots : Nat} {cc : ByteArray} {pc nL : Nat} {ls : Array Slot} {rest : List Value} {own : String} {D : va_G} {cy : Nat → ClassId} {sa : Nat → Nat} {de B : Nat} {ad : Ad} {S : St} {n : Nat → Nat} {T : St} {k : Nat → Nat} {th : Int32} {X : Rl} {x : Int32} {mcc mss : Nat} {Qc : Array Value → State → Outcome → State → Prop} {GX : String → Heap → Prop} (hfl : l.stackTraces = false)  (hC : Cx p m c cc nL s args own D cy sa de B) (hS : va_S (AB B) s.heap H locs) (hG : GW D B ad (Vw cy de ad S n T k th X) H) (h0 : CI S n)  {idx : Nat} (wl : Cond.methodLink own idx yX6_belongs ∈ G0) (hR : 7 + 1 ≤ R.frames ∧ 8 + (2 + 11) + 103 ≤ R.locals) (hsz : ls.size = nL) (hst : (rest.map fun v => v.category).sum ≤ 8) (hdg : decode cc pc = .ok (.invokevirtual idx, 3)) (hcs : cells + 1 ≤ R.cells ∧ slots + 6 ≤ R.slots) (hex : ∀ x ∈ c.exceptionTable.toList, False) (hlk : meth.locks = false) (hmc : cells + 1 ≤ mcc) (hms : slots + 6 ≤ mss) (hxx : ∀ (E : String) (H1 : Heap), ((fun E H => ((E = "java/lang/IndexOutOfBoundsException" ∧ cd_ath n x = 1)) ∧ GW D B ad (Vw cy de ad S n T k th X) H)) E H1 → GX E H1) (k0 : (cd_ath n x = 0) → ∀ (H1 : Heap) (locs1 : List Loc), GW D B ad (Vw cy de ad S n T k th X) H1 → va_S (AB B) s.heap H1 locs1 → W p l e R s m args below meth c H1 locs1 (cells + 1) (slots + 6) (vx_MQ below Qc (oX B GX) args s mcc mss (AB B)) (F0 m (pc + 3) ls (.int (kbel S n (fMea S (ci x) 0)) :: rest))) : W p l e R s m args below meth c H locs cells slots (vx_MQ below Qc (oX B GX) args s mcc mss (AB B)) (F0 m pc ls (.int x :: .ref (ad 0 0 0) :: rest)) :=
  vx_calli (xV hC hS hG h0 (As := [.int x]) (c_X6_belongs l hfl) ⟨rfl, rfl⟩ wl im_X6_belongs sl_X6_X6_belongs in_X6 cd_X6_belongs (n := 1) (by decide +kernel) hR (recv hC hG (q := (RX6, TX6, 6)) rfl V_games) rfl hsz hst rfl hdg hcs) hS (fun _ _ h => h) (fun _ h => h) (fun _ _ h => h) (fun E ce q9 u t H1 locs1 ht hv hp hB hz hq hS1 hce hcv hcl => prop_out hS1 hex hlk (hxx E H1 (by dsimp only at hB; rw [ht] at hB; exact hB)) hce hcv hcl hmc hms) (fun r u t H1 locs1 ht _ hr hB _ _ hS1 => by
      subst hr
      have hB9 := hB; try dsimp only at hB9
      rw [ht] at hB9
      rcases hB9 with ⟨q0, rfl, hG1⟩
      · exact k0 q0 _ _ hG1 hS1)
set_option maxHeartbeats 4000000 in
set_option maxRecDepth 100000 in
theorem c_X6_test (l : Launch) (hfl : l.stackTraces = false) {D : va_G} {cy : Nat → ClassId} {sa : Nat → Nat} {de B : Nat} {ad : Ad} {S : St} {n : Nat → Nat} {T : St} {k : Nat → Nat} {th : Int32} {X : Rl} {x y z : Int32}  : vx_Met l yX6_test (Cond.code yX6_test cX6_test 7 (Option.some Jvm.ClassFile.FieldType.char) :: G0) ({ frames := 7, cells := 4, slots := 24, locals := 133 } : Room) (va_Pc [.ref (ad 0 0 0), .int x, .int y, .int z] (PW D cy sa de B ad (Vw cy de ad S n T k th X) (CI S n))) (oI B (fun r H => (cd_test S n x y z = 0 ∧ r = (teS S n (ci x) 9 (ci x) 0) ∧ GW D B ad (Vw cy de ad (teS S n (ci x)) n T k th X) H))) (oX B (fun E H => ((E = "java/lang/IndexOutOfBoundsException" ∧ cd_test S n x y z = 1) ∨ (E = "java/lang/IllegalArgumentException" ∧ cd_test S n x y z = 2) ∨ (E = "java/lang/UnsupportedOperationException" ∧ cd_test S n x y z = 3)) ∧ GW D B ad (Vw cy de ad S n T k th X) H)) 4 24 (AB B) := by
  refine E_vx (own := RX6) rfl rfl (Nat.le_of_ble_eq_true rfl) ?_
  intro p e s m below meth c hC hr hlk hex hG h0 ls hl
  have hx := hC.x
  have hb := hC.b
  have hS : va_S (AB B) s.heap s.heap [] := va_S.rf
  have hl : lo ls 7 [some (.ref (ad 0 0 0)), some (.int x), some (.int y), some (.int z), none, none, none] := lo_of hl
  obtain ⟨hW, hNE, hCH, hBL⟩ := h0
  have hW9 := hW
  obtain ⟨hB0, hB1, hB2, hB3, hB4, hB5, hB6, hB7, hKI, hEI, hKY⟩ := hW9
  
  refine o_aload_n hx hb dX6_test_0 hl rfl ?_
  refine o_iload_n hx hb dX6_test_1 hl rfl ?_
  refine k_X6_needAthlete hfl hC hS hG hW ml_X6_53 ⟨Nat.le_of_ble_eq_true rfl, Nat.le_of_ble_eq_true rfl⟩ hl.1 (Nat.le_of_ble_eq_true rfl) dX6_test_2 ⟨Nat.le_of_ble_eq_true rfl, Nat.le_of_ble_eq_true rfl⟩ hex hlk (Nat.le_of_ble_eq_true rfl) (Nat.le_of_ble_eq_true rfl) (fun E H1 hE => ⟨Or.inl (⟨hE.1.1, (by simp only [cd_test]; exact cif_f (fun z => hE.1.2 z.1))⟩), hE.2⟩) (fun a2 h2_0 h2_1 H locs hG hS => ?_)
  subst h2_1
  have z2 : ci (nI a2) = a2 := nI_clamp (by omega)
  refine o_astore hx hb dX6_test_5 hl (by decide) rfl (fun ls hl => ?_)
  refine o_aload_n hx hb dX6_test_7 hl rfl ?_
  refine o_iload_n hx hb dX6_test_8 hl rfl ?_
  refine k_X6_needClassifier hfl hC hS hG hW ml_X6_131 ⟨Nat.le_of_ble_eq_true rfl, Nat.le_of_ble_eq_true rfl⟩ hl.1 (Nat.le_of_ble_eq_true rfl) dX6_test_9 ⟨Nat.le_of_ble_eq_true rfl, Nat.le_of_ble_eq_true rfl⟩ hex hlk (Nat.le_of_ble_eq_true rfl) (Nat.le_of_ble_eq_true rfl) (fun E H1 hE => ⟨Or.inl (⟨hE.1.1, (by simp only [cd_test]; exact cif_f (fun z => hE.1.2 z.2.1))⟩), hE.2⟩) (fun a9 h9_0 h9_1 H locs hG hS => ?_)
  subst h9_1
  have z9 : ci (nI a9) = a9 := nI_clamp (by omega)
  refine g_get hC hG us_X1 rfl 0 (by decide) fl_X6_135 (V_cla (by omega)) rfl dX6_test_12 ?_
  refine o_istore hx hb dX6_test_15 hl (by decide) rfl (fun ls hl => ?_)
  refine o_aload_n hx hb dX6_test_17 hl rfl ?_
  refine o_iload_n hx hb dX6_test_18 hl rfl ?_
  refine k_X6_needClassifier hfl hC hS hG hW ml_X6_131 ⟨Nat.le_of_ble_eq_true rfl, Nat.le_of_ble_eq_true rfl⟩ hl.1 (Nat.le_of_ble_eq_true rfl) dX6_test_19 ⟨Nat.le_of_ble_eq_true rfl, Nat.le_of_ble_eq_true rfl⟩ hex hlk (Nat.le_of_ble_eq_true rfl) (Nat.le_of_ble_eq_true rfl) (fun E H1 hE => ⟨Or.inl (⟨hE.1.1, (by simp only [cd_test]; exact cif_f (fun z => hE.1.2 z.2.2))⟩), hE.2⟩) (fun a19 h19_0 h19_1 H locs hG hS => ?_)
  subst h19_1
  have z19 : ci (nI a19) = a19 := nI_clamp (by omega)
  refine g_get hC hG us_X1 rfl 0 (by decide) fl_X6_135 (V_cla (by omega)) rfl dX6_test_22 ?_
  refine o_istore hx hb dX6_test_25 hl (by decide) rfl (fun ls hl => ?_)
  refine o_iload hx hb dX6_test_27 hl rfl ?_
  refine o_iload hx hb dX6_test_29 hl rfl ?_
  refine lv_icmp_eq (tgt := 54) hx hb dX6_test_31 (by decide) (fun h31 => ?_) (fun h31 => ?_)
  · skip
    exact thr_IA hC hfl hS hG hex hlk hl.1 (si := 12) rfl dX6_test_54 dX6_test_57 dX6_test_58 dX6_test_60 dX6_test_63 (Nat.le_of_ble_eq_true rfl) (Nat.le_of_ble_eq_true rfl) (Nat.le_of_ble_eq_true rfl) (Nat.le_of_ble_eq_true rfl) (fun H1 hG1 => ⟨Or.inr (Or.inl (⟨rfl, (by simp only [cd_test, z2, z9, z19]; exact (cif_t ⟨ix_nI h2_0, ix_nI h9_0, ix_nI h19_0⟩).trans (cif_f (fun z => by first | exact z.1 h31 | exact z.2.1 h41 | exact z.2.2 h51)))⟩)), hG1⟩) (Nat.le_of_ble_eq_true rfl) (Nat.le_of_ble_eq_true rfl)
  · skip
    refine o_iload hx hb dX6_test_34 hl rfl ?_
    refine o_aload hx hb dX6_test_36 hl rfl ?_
    refine g_get hC hG us_X0 rfl 1 (by decide) fl_X6_138 (V_ath (by omega)) rfl dX6_test_38 ?_
    refine lv_icmp_eq (tgt := 54) hx hb dX6_test_41 (by decide) (fun h41 => ?_) (fun h41 => ?_)
    · skip
      exact thr_IA hC hfl hS hG hex hlk hl.1 (si := 12) rfl dX6_test_54 dX6_test_57 dX6_test_58 dX6_test_60 dX6_test_63 (Nat.le_of_ble_eq_true rfl) (Nat.le_of_ble_eq_true rfl) (Nat.le_of_ble_eq_true rfl) (Nat.le_of_ble_eq_true rfl) (fun H1 hG1 => ⟨Or.inr (Or.inl (⟨rfl, (by simp only [cd_test, z2, z9, z19]; exact (cif_t ⟨ix_nI h2_0, ix_nI h9_0, ix_nI h19_0⟩).trans (cif_f (fun z => by first | exact z.1 h31 | exact z.2.1 h41 | exact z.2.2 h51)))⟩)), hG1⟩) (Nat.le_of_ble_eq_true rfl) (Nat.le_of_ble_eq_true rfl)
    · skip
      refine o_iload hx hb dX6_test_44 hl rfl ?_
      refine o_aload hx hb dX6_test_46 hl rfl ?_
      refine g_get hC hG us_X0 rfl 1 (by decide) fl_X6_138 (V_ath (by omega)) rfl dX6_test_48 ?_
      refine lv_icmp_ne (tgt := 64) hx hb dX6_test_51 (by decide) (fun h51 => ?_) (fun h51 => ?_)
      · skip
        refine o_aload hx hb dX6_test_64 hl rfl ?_
        refine g_get hC hG us_X0 rfl 6 (by decide) fl_X6_141 (V_ath (by omega)) rfl dX6_test_66 ?_
        refine lv_bipush (v := 120) hx hb dX6_test_69 (by decide) ?_
        refine lv_icmp_ne (tgt := 84) hx hb dX6_test_71 (by decide) (fun h71 => ?_) (fun h71 => ?_)
        · skip
          refine o_aload hx hb dX6_test_84 hl rfl ?_
          refine k_X0_findWhatIsShown hC hS hG (by omega) ml_X6_150 ⟨Nat.le_of_ble_eq_true rfl, Nat.le_of_ble_eq_true rfl⟩ hl.1 (Nat.le_of_ble_eq_true rfl) dX6_test_86 ⟨Nat.le_of_ble_eq_true rfl, Nat.le_of_ble_eq_true rfl⟩ (fun H locs hG hS => ?_)
          have hG : GW D B ad (Vw cy de ad (fsS S a2) n T k th X) H := hG
          refine o_aload_n hx hb dX6_test_89 hl rfl ?_
          refine o_aload hx hb dX6_test_90 hl rfl ?_
          refine lv_bipush (v := 110) hx hb dX6_test_92 (by decide) ?_
          refine k_X6_settleByFound hC hS hG ⟨by omega, WF_fs (i := a2) hW, ⟨rfl, rfl⟩⟩ ml_X6_153 ⟨Nat.le_of_ble_eq_true rfl, Nat.le_of_ble_eq_true rfl⟩ hl.1 (Nat.le_of_ble_eq_true rfl) dX6_test_94 ⟨Nat.le_of_ble_eq_true rfl, Nat.le_of_ble_eq_true rfl⟩ (fun H locs hG hS => ?_)
          refine o_aload hx hb dX6_test_97 hl rfl ?_
          refine g_get hC hG us_X0 rfl 6 (by decide) fl_X6_141 (V_ath (by omega)) rfl dX6_test_99 ?_
          refine vx_ret ?_
          exact R_I hC hS hr hlk (ch_sbf ⟨rfl, rfl⟩).1 (⟨(by simp only [cd_test, z2, z9, z19]; exact (cif_t ⟨ix_nI h2_0, ix_nI h9_0, ix_nI h19_0⟩).trans ((cif_t ⟨h31, h41, h51⟩).trans (cif_f h71))), (by rw [z2, teS_c 9 (by decide) (by decide)]), (by rw [z2, Vw_cls teS_c]; exact hG)⟩) (Nat.le_of_ble_eq_true rfl) (Nat.le_of_ble_eq_true rfl) dX6_test_102
        · skip
          exact thr_UO hC hfl hS hG hex hlk hl.1 (si := 13) rfl dX6_test_74 dX6_test_77 dX6_test_78 dX6_test_80 dX6_test_83 (Nat.le_of_ble_eq_true rfl) (Nat.le_of_ble_eq_true rfl) (Nat.le_of_ble_eq_true rfl) (Nat.le_of_ble_eq_true rfl) (fun H1 hG1 => ⟨Or.inr (Or.inr (⟨rfl, (by simp only [cd_test, z2, z9, z19]; exact (cif_t ⟨ix_nI h2_0, ix_nI h9_0, ix_nI h19_0⟩).trans ((cif_t ⟨h31, h41, h51⟩).trans (cif_t h71)))⟩)), hG1⟩) (Nat.le_of_ble_eq_true rfl) (Nat.le_of_ble_eq_true rfl)
      · skip
        exact thr_IA hC hfl hS hG hex hlk hl.1 (si := 12) rfl dX6_test_54 dX6_test_57 dX6_test_58 dX6_test_60 dX6_test_63 (Nat.le_of_ble_eq_true rfl) (Nat.le_of_ble_eq_true rfl) (Nat.le_of_ble_eq_true rfl) (Nat.le_of_ble_eq_true rfl) (fun H1 hG1 => ⟨Or.inr (Or.inl (⟨rfl, (by simp only [cd_test, z2, z9, z19]; exact (cif_t ⟨ix_nI h2_0, ix_nI h9_0, ix_nI h19_0⟩).trans (cif_f (fun z => by first | exact z.1 h31 | exact z.2.1 h41 | exact z.2.2 h51)))⟩)), hG1⟩) (Nat.le_of_ble_eq_true rfl) (Nat.le_of_ble_eq_true rfl)
theorem k_X6_test {p : Program} {l : Launch} {e : Env} {R : Room} {s : State} {m : MethodId} {args : Array Value} {below : List Frame} {meth : Method} {c : Code} {H : Heap} {locs : List Loc} {cells slots : Nat} {cc : ByteArray} {pc nL : Nat} {ls : Array Slot} {rest : List Value} {own : String} {D : va_G} {cy : Nat → ClassId} {sa : Nat → Nat} {de B : Nat} {ad : Ad} {S : St} {n : Nat → Nat} {T : St} {k : Nat → Nat} {th : Int32} {X : Rl} {x y z : Int32} {mcc mss : Nat} {Qc : Array Value → State → Outcome → State → Prop} {GX : String → Heap → Prop} (hfl : l.stackTraces = false)  (hC : Cx p m c cc nL s args own D cy sa de B) (hS : va_S (AB B) s.heap H locs) (hG : GW D B ad (Vw cy de ad S n T k th X) H) (h0 : CI S n)  {idx : Nat} (wl : Cond.methodLink own idx yX6_test ∈ G0) (hR : 7 + 1 ≤ R.frames ∧ 8 + (7 + 11) + 133 ≤ R.locals) (hsz : ls.size = nL) (hst : (rest.map fun v => v.category).sum ≤ 8) (hdg : decode cc pc = .ok (.invokevirtual idx, 3)) (hcs : cells + 4 ≤ R.cells ∧ slots + 24 ≤ R.slots) (hex : ∀ x ∈ c.exceptionTable.toList, False) (hlk : meth.locks = false) (hmc : cells + 4 ≤ mcc) (hms : slots + 24 ≤ mss) (hxx : ∀ (E : String) (H1 : Heap), ((fun E H => ((E = "java/lang/IndexOutOfBoundsException" ∧ cd_test S n x y z = 1) ∨ (E = "java/lang/IllegalArgumentException" ∧ cd_test S n x y z = 2) ∨ (E = "java/lang/UnsupportedOperationException" ∧ cd_test S n x y z = 3)) ∧ GW D B ad (Vw cy de ad S n T k th X) H)) E H1 → GX E H1) (k0 : (cd_test S n x y z = 0) → ∀ (H1 : Heap) (locs1 : List Loc), GW D B ad (Vw cy de ad (teS S n (ci x)) n T k th X) H1 → va_S (AB B) s.heap H1 locs1 → W p l e R s m args below meth c H1 locs1 (cells + 4) (slots + 24) (vx_MQ below Qc (oX B GX) args s mcc mss (AB B)) (F0 m (pc + 3) ls (.int (teS S n (ci x) 9 (ci x) 0) :: rest))) : W p l e R s m args below meth c H locs cells slots (vx_MQ below Qc (oX B GX) args s mcc mss (AB B)) (F0 m pc ls (.int z :: .int y :: .int x :: .ref (ad 0 0 0) :: rest)) :=
  vx_calli (xV hC hS hG h0 (As := [.int x, .int y, .int z]) (c_X6_test l hfl) ⟨rfl, rfl⟩ wl im_X6_test sl_X6_X6_test in_X6 cd_X6_test (n := 3) (by decide +kernel) hR (recv hC hG (q := (RX6, TX6, 6)) rfl V_games) rfl hsz hst rfl hdg hcs) hS (fun _ _ h => h) (fun _ h => h) (fun _ _ h => h) (fun E ce q9 u t H1 locs1 ht hv hp hB hz hq hS1 hce hcv hcl => prop_out hS1 hex hlk (hxx E H1 (by dsimp only at hB; rw [ht] at hB; exact hB)) hce hcv hcl hmc hms) (fun r u t H1 locs1 ht _ hr hB _ _ hS1 => by
      subst hr
      have hB9 := hB; try dsimp only at hB9
      rw [ht] at hB9
      rcases hB9 with ⟨q0, rfl, hG1⟩
      · exact k0 q0 _ _ hG1 hS1)
set_option maxHeartbeats 4000000 in
set_option maxRecDepth 100000 in
theorem c_X6_status (l : Launch) (hfl : l.stackTraces = false) {D : va_G} {cy : Nat → ClassId} {sa : Nat → Nat} {de B : Nat} {ad : Ad} {S : St} {n : Nat → Nat} {T : St} {k : Nat → Nat} {th : Int32} {X : Rl} {x : Int32}  : vx_Met l yX6_status (Cond.code yX6_status cX6_status 2 (Option.some Jvm.ClassFile.FieldType.char) :: G0) ({ frames := 7, cells := 1, slots := 6, locals := 103 } : Room) (va_Pc [.ref (ad 0 0 0), .int x] (PW D cy sa de B ad (Vw cy de ad S n T k th X) (CI S n))) (oI B (fun r H => (cd_ath n x = 0 ∧ r = (S 9 (ci x) 0) ∧ GW D B ad (Vw cy de ad S n T k th X) H))) (oX B (fun E H => ((E = "java/lang/IndexOutOfBoundsException" ∧ cd_ath n x = 1)) ∧ GW D B ad (Vw cy de ad S n T k th X) H)) 1 6 (AB B) := by
  refine E_vx (own := RX6) rfl rfl (Nat.le_of_ble_eq_true rfl) ?_
  intro p e s m below meth c hC hr hlk hex hG h0 ls hl
  have hx := hC.x
  have hb := hC.b
  have hS : va_S (AB B) s.heap s.heap [] := va_S.rf
  have hl : lo ls 2 [some (.ref (ad 0 0 0)), some (.int x)] := lo_of hl
  obtain ⟨hW, hNE, hCH, hBL⟩ := h0
  have hW9 := hW
  obtain ⟨hB0, hB1, hB2, hB3, hB4, hB5, hB6, hB7, hKI, hEI, hKY⟩ := hW9
  
  refine o_aload_n hx hb dX6_status_0 hl rfl ?_
  refine o_iload_n hx hb dX6_status_1 hl rfl ?_
  refine k_X6_needAthlete hfl hC hS hG hW ml_X6_53 ⟨Nat.le_of_ble_eq_true rfl, Nat.le_of_ble_eq_true rfl⟩ hl.1 (Nat.le_of_ble_eq_true rfl) dX6_status_2 ⟨Nat.le_of_ble_eq_true rfl, Nat.le_of_ble_eq_true rfl⟩ hex hlk (Nat.le_of_ble_eq_true rfl) (Nat.le_of_ble_eq_true rfl) (fun E H1 hE => ⟨⟨hE.1.1, (by simp only [cd_ath]; exact cif_f hE.1.2)⟩, hE.2⟩) (fun a2 h2_0 h2_1 H locs hG hS => ?_)
  subst h2_1
  have z2 : ci (nI a2) = a2 := nI_clamp (by omega)
  refine g_get hC hG us_X0 rfl 6 (by decide) fl_X6_141 (V_ath (by omega)) rfl dX6_status_5 ?_
  refine vx_ret ?_
  exact R_I hC hS hr hlk (hCH _).1 (⟨(by simp only [cd_ath]; exact cif_t (ix_nI h2_0)), (by rw [z2]), (by exact hG)⟩) (Nat.le_of_ble_eq_true rfl) (Nat.le_of_ble_eq_true rfl) dX6_status_8
theorem k_X6_status {p : Program} {l : Launch} {e : Env} {R : Room} {s : State} {m : MethodId} {args : Array Value} {below : List Frame} {meth : Method} {c : Code} {H : Heap} {locs : List Loc} {cells slots : Nat} {cc : ByteArray} {pc nL : Nat} {ls : Array Slot} {rest : List Value} {own : String} {D : va_G} {cy : Nat → ClassId} {sa : Nat → Nat} {de B : Nat} {ad : Ad} {S : St} {n : Nat → Nat} {T : St} {k : Nat → Nat} {th : Int32} {X : Rl} {x : Int32} {mcc mss : Nat} {Qc : Array Value → State → Outcome → State → Prop} {GX : String → Heap → Prop} (hfl : l.stackTraces = false)  (hC : Cx p m c cc nL s args own D cy sa de B) (hS : va_S (AB B) s.heap H locs) (hG : GW D B ad (Vw cy de ad S n T k th X) H) (h0 : CI S n)  {idx : Nat} (wl : Cond.methodLink own idx yX6_status ∈ G0) (hR : 7 + 1 ≤ R.frames ∧ 8 + (2 + 11) + 103 ≤ R.locals) (hsz : ls.size = nL) (hst : (rest.map fun v => v.category).sum ≤ 8) (hdg : decode cc pc = .ok (.invokevirtual idx, 3)) (hcs : cells + 1 ≤ R.cells ∧ slots + 6 ≤ R.slots) (hex : ∀ x ∈ c.exceptionTable.toList, False) (hlk : meth.locks = false) (hmc : cells + 1 ≤ mcc) (hms : slots + 6 ≤ mss) (hxx : ∀ (E : String) (H1 : Heap), ((fun E H => ((E = "java/lang/IndexOutOfBoundsException" ∧ cd_ath n x = 1)) ∧ GW D B ad (Vw cy de ad S n T k th X) H)) E H1 → GX E H1) (k0 : (cd_ath n x = 0) → ∀ (H1 : Heap) (locs1 : List Loc), GW D B ad (Vw cy de ad S n T k th X) H1 → va_S (AB B) s.heap H1 locs1 → W p l e R s m args below meth c H1 locs1 (cells + 1) (slots + 6) (vx_MQ below Qc (oX B GX) args s mcc mss (AB B)) (F0 m (pc + 3) ls (.int (S 9 (ci x) 0) :: rest))) : W p l e R s m args below meth c H locs cells slots (vx_MQ below Qc (oX B GX) args s mcc mss (AB B)) (F0 m pc ls (.int x :: .ref (ad 0 0 0) :: rest)) :=
  vx_calli (xV hC hS hG h0 (As := [.int x]) (c_X6_status l hfl) ⟨rfl, rfl⟩ wl im_X6_status sl_X6_X6_status in_X6 cd_X6_status (n := 1) (by decide +kernel) hR (recv hC hG (q := (RX6, TX6, 6)) rfl V_games) rfl hsz hst rfl hdg hcs) hS (fun _ _ h => h) (fun _ h => h) (fun _ _ h => h) (fun E ce q9 u t H1 locs1 ht hv hp hB hz hq hS1 hce hcv hcl => prop_out hS1 hex hlk (hxx E H1 (by dsimp only at hB; rw [ht] at hB; exact hB)) hce hcv hcl hmc hms) (fun r u t H1 locs1 ht _ hr hB _ _ hS1 => by
      subst hr
      have hB9 := hB; try dsimp only at hB9
      rw [ht] at hB9
      rcases hB9 with ⟨q0, rfl, hG1⟩
      · exact k0 q0 _ _ hG1 hS1)
set_option maxHeartbeats 4000000 in
set_option maxRecDepth 100000 in
theorem c_X6_classOf (l : Launch) (hfl : l.stackTraces = false) {D : va_G} {cy : Nat → ClassId} {sa : Nat → Nat} {de B : Nat} {ad : Ad} {S : St} {n : Nat → Nat} {T : St} {k : Nat → Nat} {th : Int32} {X : Rl} {x : Int32}  : vx_Met l yX6_classOf (Cond.code yX6_classOf cX6_classOf 2 (Option.some Jvm.ClassFile.FieldType.int) :: G0) ({ frames := 7, cells := 1, slots := 6, locals := 103 } : Room) (va_Pc [.ref (ad 0 0 0), .int x] (PW D cy sa de B ad (Vw cy de ad S n T k th X) (CI S n))) (oI B (fun r H => (cd_ath n x = 0 ∧ r = (S 10 (ci x) 0) ∧ GW D B ad (Vw cy de ad S n T k th X) H))) (oX B (fun E H => ((E = "java/lang/IndexOutOfBoundsException" ∧ cd_ath n x = 1)) ∧ GW D B ad (Vw cy de ad S n T k th X) H)) 1 6 (AB B) := by
  refine E_vx (own := RX6) rfl rfl (Nat.le_of_ble_eq_true rfl) ?_
  intro p e s m below meth c hC hr hlk hex hG h0 ls hl
  have hx := hC.x
  have hb := hC.b
  have hS : va_S (AB B) s.heap s.heap [] := va_S.rf
  have hl : lo ls 2 [some (.ref (ad 0 0 0)), some (.int x)] := lo_of hl
  obtain ⟨hW, hNE, hCH, hBL⟩ := h0
  have hW9 := hW
  obtain ⟨hB0, hB1, hB2, hB3, hB4, hB5, hB6, hB7, hKI, hEI, hKY⟩ := hW9
  
  refine o_aload_n hx hb dX6_classOf_0 hl rfl ?_
  refine o_iload_n hx hb dX6_classOf_1 hl rfl ?_
  refine k_X6_needAthlete hfl hC hS hG hW ml_X6_53 ⟨Nat.le_of_ble_eq_true rfl, Nat.le_of_ble_eq_true rfl⟩ hl.1 (Nat.le_of_ble_eq_true rfl) dX6_classOf_2 ⟨Nat.le_of_ble_eq_true rfl, Nat.le_of_ble_eq_true rfl⟩ hex hlk (Nat.le_of_ble_eq_true rfl) (Nat.le_of_ble_eq_true rfl) (fun E H1 hE => ⟨⟨hE.1.1, (by simp only [cd_ath]; exact cif_f hE.1.2)⟩, hE.2⟩) (fun a2 h2_0 h2_1 H locs hG hS => ?_)
  subst h2_1
  have z2 : ci (nI a2) = a2 := nI_clamp (by omega)
  refine g_get hC hG us_X0 rfl 7 (by decide) fl_X6_157 (V_ath (by omega)) rfl dX6_classOf_5 ?_
  rcases hKI a2 (by omega) with hk5 | ⟨q5, hq5, hk5⟩
  · skip
    rw [kro_null (show _ = -1 by exact hk5)]
    refine k_X6_numberOf (o := none) (kk := (-1)) hC hS hG ⟨hW, Or.inl rfl⟩ (kro_none rfl) ml_X6_127 ⟨Nat.le_of_ble_eq_true rfl, Nat.le_of_ble_eq_true rfl⟩ hl.1 (Nat.le_of_ble_eq_true rfl) dX6_classOf_8 ⟨Nat.le_of_ble_eq_true rfl, Nat.le_of_ble_eq_true rfl⟩ ?_
    refine vx_ret ?_
    exact R_I hC hS hr hlk rfl (⟨(by simp only [cd_ath]; exact cif_t (ix_nI h2_0)), (by rw [z2]; exact hk5.symm), (by exact hG)⟩) (Nat.le_of_ble_eq_true rfl) (Nat.le_of_ble_eq_true rfl) dX6_classOf_11
  · skip
    rw [kro_ref (show _ = nI q5 by exact hk5) (by omega)]
    refine k_X6_numberOf (o := some (ad 7 q5 0)) (kk := (nI q5)) hC hS hG ⟨hW, Or.inr ⟨_, by omega, rfl⟩⟩ (kro_some rfl (by omega)) ml_X6_127 ⟨Nat.le_of_ble_eq_true rfl, Nat.le_of_ble_eq_true rfl⟩ hl.1 (Nat.le_of_ble_eq_true rfl) dX6_classOf_8 ⟨Nat.le_of_ble_eq_true rfl, Nat.le_of_ble_eq_true rfl⟩ ?_
    refine vx_ret ?_
    exact R_I hC hS hr hlk rfl (⟨(by simp only [cd_ath]; exact cif_t (ix_nI h2_0)), (by rw [z2]; exact hk5.symm), (by exact hG)⟩) (Nat.le_of_ble_eq_true rfl) (Nat.le_of_ble_eq_true rfl) dX6_classOf_11
theorem k_X6_classOf {p : Program} {l : Launch} {e : Env} {R : Room} {s : State} {m : MethodId} {args : Array Value} {below : List Frame} {meth : Method} {c : Code} {H : Heap} {locs : List Loc} {cells slots : Nat} {cc : ByteArray} {pc nL : Nat} {ls : Array Slot} {rest : List Value} {own : String} {D : va_G} {cy : Nat → ClassId} {sa : Nat → Nat} {de B : Nat} {ad : Ad} {S : St} {n : Nat → Nat} {T : St} {k : Nat → Nat} {th : Int32} {X : Rl} {x : Int32} {mcc mss : Nat} {Qc : Array Value → State → Outcome → State → Prop} {GX : String → Heap → Prop} (hfl : l.stackTraces = false)  (hC : Cx p m c cc nL s args own D cy sa de B) (hS : va_S (AB B) s.heap H locs) (hG : GW D B ad (Vw cy de ad S n T k th X) H) (h0 : CI S n)  {idx : Nat} (wl : Cond.methodLink own idx yX6_classOf ∈ G0) (hR : 7 + 1 ≤ R.frames ∧ 8 + (2 + 11) + 103 ≤ R.locals) (hsz : ls.size = nL) (hst : (rest.map fun v => v.category).sum ≤ 8) (hdg : decode cc pc = .ok (.invokevirtual idx, 3)) (hcs : cells + 1 ≤ R.cells ∧ slots + 6 ≤ R.slots) (hex : ∀ x ∈ c.exceptionTable.toList, False) (hlk : meth.locks = false) (hmc : cells + 1 ≤ mcc) (hms : slots + 6 ≤ mss) (hxx : ∀ (E : String) (H1 : Heap), ((fun E H => ((E = "java/lang/IndexOutOfBoundsException" ∧ cd_ath n x = 1)) ∧ GW D B ad (Vw cy de ad S n T k th X) H)) E H1 → GX E H1) (k0 : (cd_ath n x = 0) → ∀ (H1 : Heap) (locs1 : List Loc), GW D B ad (Vw cy de ad S n T k th X) H1 → va_S (AB B) s.heap H1 locs1 → W p l e R s m args below meth c H1 locs1 (cells + 1) (slots + 6) (vx_MQ below Qc (oX B GX) args s mcc mss (AB B)) (F0 m (pc + 3) ls (.int (S 10 (ci x) 0) :: rest))) : W p l e R s m args below meth c H locs cells slots (vx_MQ below Qc (oX B GX) args s mcc mss (AB B)) (F0 m pc ls (.int x :: .ref (ad 0 0 0) :: rest)) :=
  vx_calli (xV hC hS hG h0 (As := [.int x]) (c_X6_classOf l hfl) ⟨rfl, rfl⟩ wl im_X6_classOf sl_X6_X6_classOf in_X6 cd_X6_classOf (n := 1) (by decide +kernel) hR (recv hC hG (q := (RX6, TX6, 6)) rfl V_games) rfl hsz hst rfl hdg hcs) hS (fun _ _ h => h) (fun _ h => h) (fun _ _ h => h) (fun E ce q9 u t H1 locs1 ht hv hp hB hz hq hS1 hce hcv hcl => prop_out hS1 hex hlk (hxx E H1 (by dsimp only at hB; rw [ht] at hB; exact hB)) hce hcv hcl hmc hms) (fun r u t H1 locs1 ht _ hr hB _ _ hS1 => by
      subst hr
      have hB9 := hB; try dsimp only at hB9
      rw [ht] at hB9
      rcases hB9 with ⟨q0, rfl, hG1⟩
      · exact k0 q0 _ _ hG1 hS1)
set_option maxHeartbeats 4000000 in
set_option maxRecDepth 100000 in
theorem c_X6_watch (l : Launch) (hfl : l.stackTraces = false) {D : va_G} {cy : Nat → ClassId} {sa : Nat → Nat} {de B : Nat} {ad : Ad} {S : St} {n : Nat → Nat} {T : St} {k : Nat → Nat} {th : Int32} {X : Rl} {x : Int32}  : vx_Met l yX6_watch (Cond.code yX6_watch cX6_watch 3 (Option.some Jvm.ClassFile.FieldType.char) :: G0) ({ frames := 7, cells := 2, slots := 12, locals := 155 } : Room) (va_Pc [.ref (ad 0 0 0), .int x] (PW D cy sa de B ad (Vw cy de ad S n T k th X) (CI S n))) (oI B (fun r H => (cd_watch S n x = 0 ∧ r = (exJ S n (ci x) 9 (ci x) 0) ∧ GW D B ad (Vw cy de ad (exJ S n (ci x)) n T k th X) H))) (oX B (fun E H => ((E = "java/lang/IndexOutOfBoundsException" ∧ cd_watch S n x = 1) ∨ (E = "java/lang/UnsupportedOperationException" ∧ cd_watch S n x = 2)) ∧ GW D B ad (Vw cy de ad S n T k th X) H)) 2 12 (AB B) := by
  refine E_vx (own := RX6) rfl rfl (Nat.le_of_ble_eq_true rfl) ?_
  intro p e s m below meth c hC hr hlk hex hG h0 ls hl
  have hx := hC.x
  have hb := hC.b
  have hS : va_S (AB B) s.heap s.heap [] := va_S.rf
  have hl : lo ls 3 [some (.ref (ad 0 0 0)), some (.int x), none] := lo_of hl
  obtain ⟨hW, hNE, hCH, hBL⟩ := h0
  have hW9 := hW
  obtain ⟨hB0, hB1, hB2, hB3, hB4, hB5, hB6, hB7, hKI, hEI, hKY⟩ := hW9
  
  refine o_aload_n hx hb dX6_watch_0 hl rfl ?_
  refine o_iload_n hx hb dX6_watch_1 hl rfl ?_
  refine k_X6_needAthlete hfl hC hS hG hW ml_X6_53 ⟨Nat.le_of_ble_eq_true rfl, Nat.le_of_ble_eq_true rfl⟩ hl.1 (Nat.le_of_ble_eq_true rfl) dX6_watch_2 ⟨Nat.le_of_ble_eq_true rfl, Nat.le_of_ble_eq_true rfl⟩ hex hlk (Nat.le_of_ble_eq_true rfl) (Nat.le_of_ble_eq_true rfl) (fun E H1 hE => ⟨Or.inl (⟨hE.1.1, (by simp only [cd_watch]; exact cif_f hE.1.2)⟩), hE.2⟩) (fun a2 h2_0 h2_1 H locs hG hS => ?_)
  subst h2_1
  have z2 : ci (nI a2) = a2 := nI_clamp (by omega)
  refine o_astore_n hx hb dX6_watch_5 hl (by decide) rfl (fun ls hl => ?_)
  refine o_aload_n hx hb dX6_watch_6 hl rfl ?_
  refine g_get hC hG us_X0 rfl 6 (by decide) fl_X6_141 (V_ath (by omega)) rfl dX6_watch_7 ?_
  refine lv_bipush (v := 110) hx hb dX6_watch_10 (by decide) ?_
  refine lv_icmp_eq (tgt := 34) hx hb dX6_watch_12 (by decide) (fun h12 => ?_) (fun h12 => ?_)
  · skip
    refine o_aload_n hx hb dX6_watch_34 hl rfl ?_
    refine o_aload_n hx hb dX6_watch_35 hl rfl ?_
    refine k_X6_hasResult hC hS hG ⟨by omega, hW, hNE⟩ ml_X6_163 ⟨Nat.le_of_ble_eq_true rfl, Nat.le_of_ble_eq_true rfl⟩ hl.1 (Nat.le_of_ble_eq_true rfl) dX6_watch_36 ⟨Nat.le_of_ble_eq_true rfl, Nat.le_of_ble_eq_true rfl⟩ (fun h36 => ?_) (fun h36 => ?_)
    · skip
      refine lv_if_ne (tgt := 52) hx hb dX6_watch_39 (by decide) (fun h39 => ?_) (fun h39 => ?_)
      · skip
        refine o_aload_n hx hb dX6_watch_52 hl rfl ?_
        refine o_aload_n hx hb dX6_watch_53 hl rfl ?_
        refine k_X6_examine hC hS hG ⟨by omega, hW⟩ ml_X6_169 ⟨Nat.le_of_ble_eq_true rfl, Nat.le_of_ble_eq_true rfl⟩ hl.1 (Nat.le_of_ble_eq_true rfl) dX6_watch_54 ⟨Nat.le_of_ble_eq_true rfl, Nat.le_of_ble_eq_true rfl⟩ (fun H locs hG hS => ?_)
        refine o_aload_n hx hb dX6_watch_57 hl rfl ?_
        refine g_get hC hG us_X0 rfl 6 (by decide) fl_X6_141 (V_ath (by omega)) rfl dX6_watch_58 ?_
        refine vx_ret ?_
        exact R_I hC hS hr hlk ch_ex.1 (⟨(by simp only [cd_watch, z2]; exact (cif_t (ix_nI h2_0)).trans (cif_t ⟨by first | exact Or.inl h12 | exact Or.inr h21, h36⟩)), (by rw [z2, exJ_c 9 (by decide) (by decide)]), (by rw [z2, Vw_cls exJ_c]; exact hG)⟩) (Nat.le_of_ble_eq_true rfl) (Nat.le_of_ble_eq_true rfl) dX6_watch_61
      · exact absurd h39 (by decide)
    · skip
      refine lv_if_ne (tgt := 52) hx hb dX6_watch_39 (by decide) (fun h39 => ?_) (fun h39 => ?_)
      · exact absurd h39 (by decide)
      · skip
        exact thr_UO hC hfl hS hG hex hlk hl.1 (si := 15) rfl dX6_watch_42 dX6_watch_45 dX6_watch_46 dX6_watch_48 dX6_watch_51 (Nat.le_of_ble_eq_true rfl) (Nat.le_of_ble_eq_true rfl) (Nat.le_of_ble_eq_true rfl) (Nat.le_of_ble_eq_true rfl) (fun H1 hG1 => ⟨Or.inr (⟨rfl, (by simp only [cd_watch, z2]; exact (cif_t (ix_nI h2_0)).trans (cif_f (fun z => h36 z.2)))⟩), hG1⟩) (Nat.le_of_ble_eq_true rfl) (Nat.le_of_ble_eq_true rfl)
  · skip
    refine o_aload_n hx hb dX6_watch_15 hl rfl ?_
    refine g_get hC hG us_X0 rfl 6 (by decide) fl_X6_141 (V_ath (by omega)) rfl dX6_watch_16 ?_
    refine lv_bipush (v := 114) hx hb dX6_watch_19 (by decide) ?_
    refine lv_icmp_eq (tgt := 34) hx hb dX6_watch_21 (by decide) (fun h21 => ?_) (fun h21 => ?_)
    · skip
      refine o_aload_n hx hb dX6_watch_34 hl rfl ?_
      refine o_aload_n hx hb dX6_watch_35 hl rfl ?_
      refine k_X6_hasResult hC hS hG ⟨by omega, hW, hNE⟩ ml_X6_163 ⟨Nat.le_of_ble_eq_true rfl, Nat.le_of_ble_eq_true rfl⟩ hl.1 (Nat.le_of_ble_eq_true rfl) dX6_watch_36 ⟨Nat.le_of_ble_eq_true rfl, Nat.le_of_ble_eq_true rfl⟩ (fun h36 => ?_) (fun h36 => ?_)
      · skip
        refine lv_if_ne (tgt := 52) hx hb dX6_watch_39 (by decide) (fun h39 => ?_) (fun h39 => ?_)
        · skip
          refine o_aload_n hx hb dX6_watch_52 hl rfl ?_
          refine o_aload_n hx hb dX6_watch_53 hl rfl ?_
          refine k_X6_examine hC hS hG ⟨by omega, hW⟩ ml_X6_169 ⟨Nat.le_of_ble_eq_true rfl, Nat.le_of_ble_eq_true rfl⟩ hl.1 (Nat.le_of_ble_eq_true rfl) dX6_watch_54 ⟨Nat.le_of_ble_eq_true rfl, Nat.le_of_ble_eq_true rfl⟩ (fun H locs hG hS => ?_)
          refine o_aload_n hx hb dX6_watch_57 hl rfl ?_
          refine g_get hC hG us_X0 rfl 6 (by decide) fl_X6_141 (V_ath (by omega)) rfl dX6_watch_58 ?_
          refine vx_ret ?_
          exact R_I hC hS hr hlk ch_ex.1 (⟨(by simp only [cd_watch, z2]; exact (cif_t (ix_nI h2_0)).trans (cif_t ⟨by first | exact Or.inl h12 | exact Or.inr h21, h36⟩)), (by rw [z2, exJ_c 9 (by decide) (by decide)]), (by rw [z2, Vw_cls exJ_c]; exact hG)⟩) (Nat.le_of_ble_eq_true rfl) (Nat.le_of_ble_eq_true rfl) dX6_watch_61
        · exact absurd h39 (by decide)
      · skip
        refine lv_if_ne (tgt := 52) hx hb dX6_watch_39 (by decide) (fun h39 => ?_) (fun h39 => ?_)
        · exact absurd h39 (by decide)
        · skip
          exact thr_UO hC hfl hS hG hex hlk hl.1 (si := 15) rfl dX6_watch_42 dX6_watch_45 dX6_watch_46 dX6_watch_48 dX6_watch_51 (Nat.le_of_ble_eq_true rfl) (Nat.le_of_ble_eq_true rfl) (Nat.le_of_ble_eq_true rfl) (Nat.le_of_ble_eq_true rfl) (fun H1 hG1 => ⟨Or.inr (⟨rfl, (by simp only [cd_watch, z2]; exact (cif_t (ix_nI h2_0)).trans (cif_f (fun z => h36 z.2)))⟩), hG1⟩) (Nat.le_of_ble_eq_true rfl) (Nat.le_of_ble_eq_true rfl)
    · skip
      exact thr_UO hC hfl hS hG hex hlk hl.1 (si := 14) rfl dX6_watch_24 dX6_watch_27 dX6_watch_28 dX6_watch_30 dX6_watch_33 (Nat.le_of_ble_eq_true rfl) (Nat.le_of_ble_eq_true rfl) (Nat.le_of_ble_eq_true rfl) (Nat.le_of_ble_eq_true rfl) (fun H1 hG1 => ⟨Or.inr (⟨rfl, (by simp only [cd_watch, z2]; exact (cif_t (ix_nI h2_0)).trans (cif_f (fun z => z.1.elim h12 h21)))⟩), hG1⟩) (Nat.le_of_ble_eq_true rfl) (Nat.le_of_ble_eq_true rfl)
theorem k_X6_watch {p : Program} {l : Launch} {e : Env} {R : Room} {s : State} {m : MethodId} {args : Array Value} {below : List Frame} {meth : Method} {c : Code} {H : Heap} {locs : List Loc} {cells slots : Nat} {cc : ByteArray} {pc nL : Nat} {ls : Array Slot} {rest : List Value} {own : String} {D : va_G} {cy : Nat → ClassId} {sa : Nat → Nat} {de B : Nat} {ad : Ad} {S : St} {n : Nat → Nat} {T : St} {k : Nat → Nat} {th : Int32} {X : Rl} {x : Int32} {mcc mss : Nat} {Qc : Array Value → State → Outcome → State → Prop} {GX : String → Heap → Prop} (hfl : l.stackTraces = false)  (hC : Cx p m c cc nL s args own D cy sa de B) (hS : va_S (AB B) s.heap H locs) (hG : GW D B ad (Vw cy de ad S n T k th X) H) (h0 : CI S n)  {idx : Nat} (wl : Cond.methodLink own idx yX6_watch ∈ G0) (hR : 7 + 1 ≤ R.frames ∧ 8 + (3 + 11) + 155 ≤ R.locals) (hsz : ls.size = nL) (hst : (rest.map fun v => v.category).sum ≤ 8) (hdg : decode cc pc = .ok (.invokevirtual idx, 3)) (hcs : cells + 2 ≤ R.cells ∧ slots + 12 ≤ R.slots) (hex : ∀ x ∈ c.exceptionTable.toList, False) (hlk : meth.locks = false) (hmc : cells + 2 ≤ mcc) (hms : slots + 12 ≤ mss) (hxx : ∀ (E : String) (H1 : Heap), ((fun E H => ((E = "java/lang/IndexOutOfBoundsException" ∧ cd_watch S n x = 1) ∨ (E = "java/lang/UnsupportedOperationException" ∧ cd_watch S n x = 2)) ∧ GW D B ad (Vw cy de ad S n T k th X) H)) E H1 → GX E H1) (k0 : (cd_watch S n x = 0) → ∀ (H1 : Heap) (locs1 : List Loc), GW D B ad (Vw cy de ad (exJ S n (ci x)) n T k th X) H1 → va_S (AB B) s.heap H1 locs1 → W p l e R s m args below meth c H1 locs1 (cells + 2) (slots + 12) (vx_MQ below Qc (oX B GX) args s mcc mss (AB B)) (F0 m (pc + 3) ls (.int (exJ S n (ci x) 9 (ci x) 0) :: rest))) : W p l e R s m args below meth c H locs cells slots (vx_MQ below Qc (oX B GX) args s mcc mss (AB B)) (F0 m pc ls (.int x :: .ref (ad 0 0 0) :: rest)) :=
  vx_calli (xV hC hS hG h0 (As := [.int x]) (c_X6_watch l hfl) ⟨rfl, rfl⟩ wl im_X6_watch sl_X6_X6_watch in_X6 cd_X6_watch (n := 1) (by decide +kernel) hR (recv hC hG (q := (RX6, TX6, 6)) rfl V_games) rfl hsz hst rfl hdg hcs) hS (fun _ _ h => h) (fun _ h => h) (fun _ _ h => h) (fun E ce q9 u t H1 locs1 ht hv hp hB hz hq hS1 hce hcv hcl => prop_out hS1 hex hlk (hxx E H1 (by dsimp only at hB; rw [ht] at hB; exact hB)) hce hcv hcl hmc hms) (fun r u t H1 locs1 ht _ hr hB _ _ hS1 => by
      subst hr
      have hB9 := hB; try dsimp only at hB9
      rw [ht] at hB9
      rcases hB9 with ⟨q0, rfl, hG1⟩
      · exact k0 q0 _ _ hG1 hS1)
set_option maxHeartbeats 4000000 in
set_option maxRecDepth 100000 in
theorem c_X6_protest (l : Launch) (hfl : l.stackTraces = false) {D : va_G} {cy : Nat → ClassId} {sa : Nat → Nat} {de B : Nat} {ad : Ad} {S : St} {n : Nat → Nat} {T : St} {k : Nat → Nat} {th : Int32} {X : Rl} {x y : Int32}  : vx_Met l yX6_protest (Cond.code yX6_protest cX6_protest 6 (Option.some Jvm.ClassFile.FieldType.boolean) :: G0) ({ frames := 7, cells := 3, slots := 18, locals := 155 } : Room) (va_Pc [.ref (ad 0 0 0), .int x, .int y] (PW D cy sa de B ad (Vw cy de ad S n T k th X) (CI S n))) (oI B (fun r H => (cd_protest S n x y = 0 ∧ r = (vl_protest S n (ci y)) ∧ GW D B ad (Vw cy de ad (prS S n (ci x) (ci y)) n T k th X) H))) (oX B (fun E H => ((E = "java/lang/IndexOutOfBoundsException" ∧ cd_protest S n x y = 1) ∨ (E = "java/lang/UnsupportedOperationException" ∧ cd_protest S n x y = 2)) ∧ GW D B ad (Vw cy de ad S n T k th X) H)) 3 18 (AB B) := by
  refine E_vx (own := RX6) rfl rfl (Nat.le_of_ble_eq_true rfl) ?_
  intro p e s m below meth c hC hr hlk hex hG h0 ls hl
  have hx := hC.x
  have hb := hC.b
  have hS : va_S (AB B) s.heap s.heap [] := va_S.rf
  have hl : lo ls 6 [some (.ref (ad 0 0 0)), some (.int x), some (.int y), none, none, none] := lo_of hl
  obtain ⟨hW, hNE, hCH, hBL⟩ := h0
  have hW9 := hW
  obtain ⟨hB0, hB1, hB2, hB3, hB4, hB5, hB6, hB7, hKI, hEI, hKY⟩ := hW9
  
  refine o_iload_n hx hb dX6_protest_0 hl rfl ?_
  refine k_X6_needLand hfl hC hS hG trivial ml_X6_29 ⟨Nat.le_of_ble_eq_true rfl, Nat.le_of_ble_eq_true rfl⟩ hl.1 (Nat.le_of_ble_eq_true rfl) dX6_protest_1 ⟨Nat.le_of_ble_eq_true rfl, Nat.le_of_ble_eq_true rfl⟩ hex hlk (Nat.le_of_ble_eq_true rfl) (Nat.le_of_ble_eq_true rfl) (fun E H1 hE => ⟨Or.inl (⟨hE.1.1, (by simp only [cd_protest]; exact cif_f (fun z => hE.1.2 z.1))⟩), hE.2⟩) (fun a1 h1_0 h1_1 H locs hG hS => ?_)
  subst h1_1
  have z1 : ci (nI a1) = a1 := nI_clamp (by omega)
  refine o_aload_n hx hb dX6_protest_4 hl rfl ?_
  refine o_iload_n hx hb dX6_protest_5 hl rfl ?_
  refine k_X6_needAthlete hfl hC hS hG hW ml_X6_53 ⟨Nat.le_of_ble_eq_true rfl, Nat.le_of_ble_eq_true rfl⟩ hl.1 (Nat.le_of_ble_eq_true rfl) dX6_protest_6 ⟨Nat.le_of_ble_eq_true rfl, Nat.le_of_ble_eq_true rfl⟩ hex hlk (Nat.le_of_ble_eq_true rfl) (Nat.le_of_ble_eq_true rfl) (fun E H1 hE => ⟨Or.inl (⟨hE.1.1, (by simp only [cd_protest]; exact cif_f (fun z => hE.1.2 z.2))⟩), hE.2⟩) (fun a6 h6_0 h6_1 H locs hG hS => ?_)
  subst h6_1
  have z6 : ci (nI a6) = a6 := nI_clamp (by omega)
  refine o_astore_n hx hb dX6_protest_9 hl (by decide) rfl (fun ls hl => ?_)
  refine o_aload_n hx hb dX6_protest_10 hl rfl ?_
  refine k_X0_mayCompete hC hS hG (by omega) ml_X6_173 ⟨Nat.le_of_ble_eq_true rfl, Nat.le_of_ble_eq_true rfl⟩ hl.1 (Nat.le_of_ble_eq_true rfl) dX6_protest_11 ⟨Nat.le_of_ble_eq_true rfl, Nat.le_of_ble_eq_true rfl⟩ (fun h11 => ?_) (fun h11 => ?_)
  · skip
    refine lv_if_ne (tgt := 27) hx hb dX6_protest_14 (by decide) (fun h14 => ?_) (fun h14 => ?_)
    · skip
      refine o_aload_n hx hb dX6_protest_27 hl rfl ?_
      refine g_get hC hG us_X6 rfl 4 (by decide) fl_X6_25 V_games rfl dX6_protest_28 ?_
      refine o_iload_n hx hb dX6_protest_31 hl rfl ?_
      refine g_iald hC hG V_mon _ rfl (by omega) (by omega) dX6_protest_32 ?_
      refine lv_bipush (v := 100) hx hb dX6_protest_33 (by decide) ?_
      refine lv_icmp_ge (tgt := 48) hx hb dX6_protest_35 (by decide) (fun h35 => ?_) (fun h35 => ?_)
      · skip
        refine o_aload_n hx hb dX6_protest_48 hl rfl ?_
        refine g_get hC hG us_X0 rfl 7 (by decide) fl_X6_157 (V_ath (by omega)) rfl dX6_protest_49 ?_
        rcases hKI a6 (by omega) with hk49 | ⟨q49, hq49, hk49⟩
        · skip
          rw [kro_null (show _ = -1 by exact hk49)]
          refine o_astoreq (x := none) hx hb dX6_protest_52 hl (by decide) rfl (fun ls hl => ?_)
          refine o_aload_n hx hb dX6_protest_54 hl rfl ?_
          refine o_aload_n hx hb dX6_protest_55 hl rfl ?_
          refine k_X6_examine hC hS hG ⟨by omega, hW⟩ ml_X6_169 ⟨Nat.le_of_ble_eq_true rfl, Nat.le_of_ble_eq_true rfl⟩ hl.1 (Nat.le_of_ble_eq_true rfl) dX6_protest_56 ⟨Nat.le_of_ble_eq_true rfl, Nat.le_of_ble_eq_true rfl⟩ (fun H locs hG hS => ?_)
          refine o_aload_n hx hb dX6_protest_59 hl rfl ?_
          refine g_get hC hG us_X0 rfl 7 (by decide) fl_X6_157 (V_ath (by omega)) rfl dX6_protest_60 ?_
          rcases (KI_of (WF_ex (i := a6) hW)) a6 (by omega) with hk60 | ⟨q60, hq60, hk60⟩
          · skip
            rw [kro_null (show _ = -1 by exact hk60)]
            refine o_aloadq (x := none) hx hb dX6_protest_63 hl rfl ?_
            refine lv_acmp_eq (tgt := 72) (rx := none) (ry := none) hx hb dX6_protest_65 (by decide) (fun h65 => ?_) (fun h65 => ?_)
            · skip
              refine lv_iconst (v := 0) hx hb dX6_protest_72 (by decide) ?_
              refine o_istore hx hb dX6_protest_73 hl (by decide) rfl (fun ls hl => ?_)
              refine o_iload hx hb dX6_protest_75 hl rfl ?_
              refine lv_if_ne (tgt := 91) hx hb dX6_protest_77 (by decide) (fun h77 => ?_) (fun h77 => ?_)
              · exact absurd h77 (by decide)
              · skip
                refine o_aload_n hx hb dX6_protest_80 hl rfl ?_
                refine g_get hC hG us_X6 rfl 4 (by decide) fl_X6_25 V_games rfl dX6_protest_81 ?_
                refine o_iload_n hx hb dX6_protest_84 hl rfl ?_
                refine lv_dup2_11 hx hb dX6_protest_85 rfl rfl ?_
                refine g_iald hC hG V_mon _ rfl (by omega) (by omega) dX6_protest_86 ?_
                refine lv_bipush (v := 100) hx hb dX6_protest_87 (by decide) ?_
                refine lv_isub hx hb dX6_protest_89 ?_
                refine g_iast hC hG hS V_mon a1 rfl (by omega) (by omega) P_mon dX6_protest_90 (fun H locs hG hS => ?_)
                refine o_iload hx hb dX6_protest_91 hl rfl ?_
                refine vx_ret ?_
                exact R_I hC hS hr hlk rfl (⟨(by simp only [cd_protest, z1, z6]; exact (cif_t ⟨ix_nI h1_0, ix_nI h6_0⟩).trans (cif_t ⟨h11, h35⟩)), (by rw [z6]; first | exact (cif_t (by first | (rw [hk60, hk49, h65]; done) | (rw [hk60, hk49]; done))).symm | exact (cif_f (by rw [hk60, hk49]; first | exact nI_ne_m1 (by omega) | exact fun z => nI_ne_m1 (by omega) z.symm | exact fun z => h65 ((nI_eq (by omega) (by omega)).mp z))).symm), (by rw [z1, z6]; first | (rw [show prS S n a1 a6 = _ from cif_f (by rw [hk60, hk49]; first | exact nI_ne_m1 (by omega) | exact fun z => nI_ne_m1 (by omega) z.symm | exact fun z => h65 ((nI_eq (by omega) (by omega)).mp z)), Vw_cls exJ_c]; exact hG) | (rw [show prS S n a1 a6 = _ from cif_t (by first | (rw [hk60, hk49, h65]; done) | (rw [hk60, hk49]; done)), Vw_cls (S := up3 (exS S n a6) 15 a1 0 (exS S n a6 15 a1 0 - 100)) (fun c h h2 => by rw [exS_c (n := n) (x := 15) (by decide) (by decide) (by decide) (by decide) (by decide) (by decide) (by decide) (by decide)]; exact up3_congr (exJ_c c h h2))]; exact hG))⟩) (Nat.le_of_ble_eq_true rfl) (Nat.le_of_ble_eq_true rfl) dX6_protest_93
            · exact absurd rfl h65
          · skip
            rw [kro_ref (show _ = nI q60 by exact hk60) (by omega)]
            refine o_aloadq (x := none) hx hb dX6_protest_63 hl rfl ?_
            refine lv_acmp_eq (tgt := 72) (rx := (some (ad 7 q60 0))) (ry := none) hx hb dX6_protest_65 (by decide) (fun h65 => ?_) (fun h65 => ?_)
            · exact absurd h65 (by simp)
            · skip
              refine lv_iconst (v := 1) hx hb dX6_protest_68 (by decide) ?_
              refine lv_goto (tgt := 73) hx hb dX6_protest_69 (by decide) ?_
              refine o_istore hx hb dX6_protest_73 hl (by decide) rfl (fun ls hl => ?_)
              refine o_iload hx hb dX6_protest_75 hl rfl ?_
              refine lv_if_ne (tgt := 91) hx hb dX6_protest_77 (by decide) (fun h77 => ?_) (fun h77 => ?_)
              · skip
                refine o_iload hx hb dX6_protest_91 hl rfl ?_
                refine vx_ret ?_
                exact R_I hC hS hr hlk rfl (⟨(by simp only [cd_protest, z1, z6]; exact (cif_t ⟨ix_nI h1_0, ix_nI h6_0⟩).trans (cif_t ⟨h11, h35⟩)), (by rw [z6]; first | exact (cif_t (by first | (rw [hk60, hk49, h65]; done) | (rw [hk60, hk49]; done))).symm | exact (cif_f (by rw [hk60, hk49]; first | exact nI_ne_m1 (by omega) | exact fun z => nI_ne_m1 (by omega) z.symm | exact fun z => h65 ((nI_eq (by omega) (by omega)).mp z))).symm), (by rw [z1, z6]; first | (rw [show prS S n a1 a6 = _ from cif_f (by rw [hk60, hk49]; first | exact nI_ne_m1 (by omega) | exact fun z => nI_ne_m1 (by omega) z.symm | exact fun z => h65 ((nI_eq (by omega) (by omega)).mp z)), Vw_cls exJ_c]; exact hG) | (rw [show prS S n a1 a6 = _ from cif_t (by first | (rw [hk60, hk49, h65]; done) | (rw [hk60, hk49]; done)), Vw_cls (S := up3 (exS S n a6) 15 a1 0 (exS S n a6 15 a1 0 - 100)) (fun c h h2 => by rw [exS_c (n := n) (x := 15) (by decide) (by decide) (by decide) (by decide) (by decide) (by decide) (by decide) (by decide)]; exact up3_congr (exJ_c c h h2))]; exact hG))⟩) (Nat.le_of_ble_eq_true rfl) (Nat.le_of_ble_eq_true rfl) dX6_protest_93
              · exact absurd h77 (by decide)
        · skip
          rw [kro_ref (show _ = nI q49 by exact hk49) (by omega)]
          refine o_astore hx hb dX6_protest_52 hl (by decide) rfl (fun ls hl => ?_)
          refine o_aload_n hx hb dX6_protest_54 hl rfl ?_
          refine o_aload_n hx hb dX6_protest_55 hl rfl ?_
          refine k_X6_examine hC hS hG ⟨by omega, hW⟩ ml_X6_169 ⟨Nat.le_of_ble_eq_true rfl, Nat.le_of_ble_eq_true rfl⟩ hl.1 (Nat.le_of_ble_eq_true rfl) dX6_protest_56 ⟨Nat.le_of_ble_eq_true rfl, Nat.le_of_ble_eq_true rfl⟩ (fun H locs hG hS => ?_)
          refine o_aload_n hx hb dX6_protest_59 hl rfl ?_
          refine g_get hC hG us_X0 rfl 7 (by decide) fl_X6_157 (V_ath (by omega)) rfl dX6_protest_60 ?_
          rcases (KI_of (WF_ex (i := a6) hW)) a6 (by omega) with hk60 | ⟨q60, hq60, hk60⟩
          · skip
            rw [kro_null (show _ = -1 by exact hk60)]
            refine o_aload hx hb dX6_protest_63 hl rfl ?_
            refine lv_acmp_eq (tgt := 72) (rx := none) (ry := (some (ad 7 q49 0))) hx hb dX6_protest_65 (by decide) (fun h65 => ?_) (fun h65 => ?_)
            · exact absurd h65 (by simp)
            · skip
              refine lv_iconst (v := 1) hx hb dX6_protest_68 (by decide) ?_
              refine lv_goto (tgt := 73) hx hb dX6_protest_69 (by decide) ?_
              refine o_istore hx hb dX6_protest_73 hl (by decide) rfl (fun ls hl => ?_)
              refine o_iload hx hb dX6_protest_75 hl rfl ?_
              refine lv_if_ne (tgt := 91) hx hb dX6_protest_77 (by decide) (fun h77 => ?_) (fun h77 => ?_)
              · skip
                refine o_iload hx hb dX6_protest_91 hl rfl ?_
                refine vx_ret ?_
                exact R_I hC hS hr hlk rfl (⟨(by simp only [cd_protest, z1, z6]; exact (cif_t ⟨ix_nI h1_0, ix_nI h6_0⟩).trans (cif_t ⟨h11, h35⟩)), (by rw [z6]; first | exact (cif_t (by first | (rw [hk60, hk49, h65]; done) | (rw [hk60, hk49]; done))).symm | exact (cif_f (by rw [hk60, hk49]; first | exact nI_ne_m1 (by omega) | exact fun z => nI_ne_m1 (by omega) z.symm | exact fun z => h65 ((nI_eq (by omega) (by omega)).mp z))).symm), (by rw [z1, z6]; first | (rw [show prS S n a1 a6 = _ from cif_f (by rw [hk60, hk49]; first | exact nI_ne_m1 (by omega) | exact fun z => nI_ne_m1 (by omega) z.symm | exact fun z => h65 ((nI_eq (by omega) (by omega)).mp z)), Vw_cls exJ_c]; exact hG) | (rw [show prS S n a1 a6 = _ from cif_t (by first | (rw [hk60, hk49, h65]; done) | (rw [hk60, hk49]; done)), Vw_cls (S := up3 (exS S n a6) 15 a1 0 (exS S n a6 15 a1 0 - 100)) (fun c h h2 => by rw [exS_c (n := n) (x := 15) (by decide) (by decide) (by decide) (by decide) (by decide) (by decide) (by decide) (by decide)]; exact up3_congr (exJ_c c h h2))]; exact hG))⟩) (Nat.le_of_ble_eq_true rfl) (Nat.le_of_ble_eq_true rfl) dX6_protest_93
              · exact absurd h77 (by decide)
          · skip
            rw [kro_ref (show _ = nI q60 by exact hk60) (by omega)]
            refine o_aload hx hb dX6_protest_63 hl rfl ?_
            refine lv_acmp_eq (tgt := 72) (rx := (some (ad 7 q60 0))) (ry := (some (ad 7 q49 0))) hx hb dX6_protest_65 (by decide) (fun h65 => ?_) (fun h65 => ?_)
            · skip
              have h65 : q60 = q49 := (hG.inj (V_kind (by omega)) (V_kind (by omega)) (Option.some.inj h65)).2.1
              refine lv_iconst (v := 0) hx hb dX6_protest_72 (by decide) ?_
              refine o_istore hx hb dX6_protest_73 hl (by decide) rfl (fun ls hl => ?_)
              refine o_iload hx hb dX6_protest_75 hl rfl ?_
              refine lv_if_ne (tgt := 91) hx hb dX6_protest_77 (by decide) (fun h77 => ?_) (fun h77 => ?_)
              · exact absurd h77 (by decide)
              · skip
                refine o_aload_n hx hb dX6_protest_80 hl rfl ?_
                refine g_get hC hG us_X6 rfl 4 (by decide) fl_X6_25 V_games rfl dX6_protest_81 ?_
                refine o_iload_n hx hb dX6_protest_84 hl rfl ?_
                refine lv_dup2_11 hx hb dX6_protest_85 rfl rfl ?_
                refine g_iald hC hG V_mon _ rfl (by omega) (by omega) dX6_protest_86 ?_
                refine lv_bipush (v := 100) hx hb dX6_protest_87 (by decide) ?_
                refine lv_isub hx hb dX6_protest_89 ?_
                refine g_iast hC hG hS V_mon a1 rfl (by omega) (by omega) P_mon dX6_protest_90 (fun H locs hG hS => ?_)
                refine o_iload hx hb dX6_protest_91 hl rfl ?_
                refine vx_ret ?_
                exact R_I hC hS hr hlk rfl (⟨(by simp only [cd_protest, z1, z6]; exact (cif_t ⟨ix_nI h1_0, ix_nI h6_0⟩).trans (cif_t ⟨h11, h35⟩)), (by rw [z6]; first | exact (cif_t (by first | (rw [hk60, hk49, h65]; done) | (rw [hk60, hk49]; done))).symm | exact (cif_f (by rw [hk60, hk49]; first | exact nI_ne_m1 (by omega) | exact fun z => nI_ne_m1 (by omega) z.symm | exact fun z => h65 ((nI_eq (by omega) (by omega)).mp z))).symm), (by rw [z1, z6]; first | (rw [show prS S n a1 a6 = _ from cif_f (by rw [hk60, hk49]; first | exact nI_ne_m1 (by omega) | exact fun z => nI_ne_m1 (by omega) z.symm | exact fun z => h65 ((nI_eq (by omega) (by omega)).mp z)), Vw_cls exJ_c]; exact hG) | (rw [show prS S n a1 a6 = _ from cif_t (by first | (rw [hk60, hk49, h65]; done) | (rw [hk60, hk49]; done)), Vw_cls (S := up3 (exS S n a6) 15 a1 0 (exS S n a6 15 a1 0 - 100)) (fun c h h2 => by rw [exS_c (n := n) (x := 15) (by decide) (by decide) (by decide) (by decide) (by decide) (by decide) (by decide) (by decide)]; exact up3_congr (exJ_c c h h2))]; exact hG))⟩) (Nat.le_of_ble_eq_true rfl) (Nat.le_of_ble_eq_true rfl) dX6_protest_93
            · skip
              have h65 : ¬ q60 = q49 := fun z => h65 (by rw [z])
              refine lv_iconst (v := 1) hx hb dX6_protest_68 (by decide) ?_
              refine lv_goto (tgt := 73) hx hb dX6_protest_69 (by decide) ?_
              refine o_istore hx hb dX6_protest_73 hl (by decide) rfl (fun ls hl => ?_)
              refine o_iload hx hb dX6_protest_75 hl rfl ?_
              refine lv_if_ne (tgt := 91) hx hb dX6_protest_77 (by decide) (fun h77 => ?_) (fun h77 => ?_)
              · skip
                refine o_iload hx hb dX6_protest_91 hl rfl ?_
                refine vx_ret ?_
                exact R_I hC hS hr hlk rfl (⟨(by simp only [cd_protest, z1, z6]; exact (cif_t ⟨ix_nI h1_0, ix_nI h6_0⟩).trans (cif_t ⟨h11, h35⟩)), (by rw [z6]; first | exact (cif_t (by first | (rw [hk60, hk49, h65]; done) | (rw [hk60, hk49]; done))).symm | exact (cif_f (by rw [hk60, hk49]; first | exact nI_ne_m1 (by omega) | exact fun z => nI_ne_m1 (by omega) z.symm | exact fun z => h65 ((nI_eq (by omega) (by omega)).mp z))).symm), (by rw [z1, z6]; first | (rw [show prS S n a1 a6 = _ from cif_f (by rw [hk60, hk49]; first | exact nI_ne_m1 (by omega) | exact fun z => nI_ne_m1 (by omega) z.symm | exact fun z => h65 ((nI_eq (by omega) (by omega)).mp z)), Vw_cls exJ_c]; exact hG) | (rw [show prS S n a1 a6 = _ from cif_t (by first | (rw [hk60, hk49, h65]; done) | (rw [hk60, hk49]; done)), Vw_cls (S := up3 (exS S n a6) 15 a1 0 (exS S n a6 15 a1 0 - 100)) (fun c h h2 => by rw [exS_c (n := n) (x := 15) (by decide) (by decide) (by decide) (by decide) (by decide) (by decide) (by decide) (by decide)]; exact up3_congr (exJ_c c h h2))]; exact hG))⟩) (Nat.le_of_ble_eq_true rfl) (Nat.le_of_ble_eq_true rfl) dX6_protest_93
              · exact absurd h77 (by decide)
      · skip
        exact thr_UO hC hfl hS hG hex hlk hl.1 (si := 17) rfl dX6_protest_38 dX6_protest_41 dX6_protest_42 dX6_protest_44 dX6_protest_47 (Nat.le_of_ble_eq_true rfl) (Nat.le_of_ble_eq_true rfl) (Nat.le_of_ble_eq_true rfl) (Nat.le_of_ble_eq_true rfl) (fun H1 hG1 => ⟨Or.inr (⟨rfl, (by simp only [cd_protest, z1]; exact (cif_t ⟨ix_nI h1_0, ix_nI h6_0⟩).trans (cif_f (fun z => h35 z.2)))⟩), hG1⟩) (Nat.le_of_ble_eq_true rfl) (Nat.le_of_ble_eq_true rfl)
    · exact absurd h14 (by decide)
  · skip
    refine lv_if_ne (tgt := 27) hx hb dX6_protest_14 (by decide) (fun h14 => ?_) (fun h14 => ?_)
    · exact absurd h14 (by decide)
    · skip
      exact thr_UO hC hfl hS hG hex hlk hl.1 (si := 16) rfl dX6_protest_17 dX6_protest_20 dX6_protest_21 dX6_protest_23 dX6_protest_26 (Nat.le_of_ble_eq_true rfl) (Nat.le_of_ble_eq_true rfl) (Nat.le_of_ble_eq_true rfl) (Nat.le_of_ble_eq_true rfl) (fun H1 hG1 => ⟨Or.inr (⟨rfl, (by simp only [cd_protest, z6]; exact (cif_t ⟨ix_nI h1_0, ix_nI h6_0⟩).trans (cif_f (fun z => h11 z.1)))⟩), hG1⟩) (Nat.le_of_ble_eq_true rfl) (Nat.le_of_ble_eq_true rfl)
theorem k_X6_protest {p : Program} {l : Launch} {e : Env} {R : Room} {s : State} {m : MethodId} {args : Array Value} {below : List Frame} {meth : Method} {c : Code} {H : Heap} {locs : List Loc} {cells slots : Nat} {cc : ByteArray} {pc nL : Nat} {ls : Array Slot} {rest : List Value} {own : String} {D : va_G} {cy : Nat → ClassId} {sa : Nat → Nat} {de B : Nat} {ad : Ad} {S : St} {n : Nat → Nat} {T : St} {k : Nat → Nat} {th : Int32} {X : Rl} {x y : Int32} {mcc mss : Nat} {Qc : Array Value → State → Outcome → State → Prop} {GX : String → Heap → Prop} (hfl : l.stackTraces = false)  (hC : Cx p m c cc nL s args own D cy sa de B) (hS : va_S (AB B) s.heap H locs) (hG : GW D B ad (Vw cy de ad S n T k th X) H) (h0 : CI S n)  {idx : Nat} (wl : Cond.methodLink own idx yX6_protest ∈ G0) (hR : 7 + 1 ≤ R.frames ∧ 8 + (6 + 11) + 155 ≤ R.locals) (hsz : ls.size = nL) (hst : (rest.map fun v => v.category).sum ≤ 8) (hdg : decode cc pc = .ok (.invokevirtual idx, 3)) (hcs : cells + 3 ≤ R.cells ∧ slots + 18 ≤ R.slots) (hex : ∀ x ∈ c.exceptionTable.toList, False) (hlk : meth.locks = false) (hmc : cells + 3 ≤ mcc) (hms : slots + 18 ≤ mss) (hxx : ∀ (E : String) (H1 : Heap), ((fun E H => ((E = "java/lang/IndexOutOfBoundsException" ∧ cd_protest S n x y = 1) ∨ (E = "java/lang/UnsupportedOperationException" ∧ cd_protest S n x y = 2)) ∧ GW D B ad (Vw cy de ad S n T k th X) H)) E H1 → GX E H1) (k0 : (cd_protest S n x y = 0) → ∀ (H1 : Heap) (locs1 : List Loc), GW D B ad (Vw cy de ad (prS S n (ci x) (ci y)) n T k th X) H1 → va_S (AB B) s.heap H1 locs1 → W p l e R s m args below meth c H1 locs1 (cells + 3) (slots + 18) (vx_MQ below Qc (oX B GX) args s mcc mss (AB B)) (F0 m (pc + 3) ls (.int (vl_protest S n (ci y)) :: rest))) : W p l e R s m args below meth c H locs cells slots (vx_MQ below Qc (oX B GX) args s mcc mss (AB B)) (F0 m pc ls (.int y :: .int x :: .ref (ad 0 0 0) :: rest)) :=
  vx_calli (xV hC hS hG h0 (As := [.int x, .int y]) (c_X6_protest l hfl) ⟨rfl, rfl⟩ wl im_X6_protest sl_X6_X6_protest in_X6 cd_X6_protest (n := 2) (by decide +kernel) hR (recv hC hG (q := (RX6, TX6, 6)) rfl V_games) rfl hsz hst rfl hdg hcs) hS (fun _ _ h => h) (fun _ h => h) (fun _ _ h => h) (fun E ce q9 u t H1 locs1 ht hv hp hB hz hq hS1 hce hcv hcl => prop_out hS1 hex hlk (hxx E H1 (by dsimp only at hB; rw [ht] at hB; exact hB)) hce hcv hcl hmc hms) (fun r u t H1 locs1 ht _ hr hB _ _ hS1 => by
      subst hr
      have hB9 := hB; try dsimp only at hB9
      rw [ht] at hB9
      rcases hB9 with ⟨q0, rfl, hG1⟩
      · exact k0 q0 _ _ hG1 hS1)
set_option maxHeartbeats 4000000 in
set_option maxRecDepth 100000 in
theorem c_X6_money (l : Launch) (hfl : l.stackTraces = false) {D : va_G} {cy : Nat → ClassId} {sa : Nat → Nat} {de B : Nat} {ad : Ad} {S : St} {n : Nat → Nat} {T : St} {k : Nat → Nat} {th : Int32} {X : Rl} {x : Int32}  : vx_Met l yX6_money (Cond.code yX6_money cX6_money 2 (Option.some Jvm.ClassFile.FieldType.int) :: G0) ({ frames := 7, cells := 1, slots := 6, locals := 102 } : Room) (va_Pc [.ref (ad 0 0 0), .int x] (PW D cy sa de B ad (Vw cy de ad S n T k th X) (CI S n))) (oI B (fun r H => (cd_money x = 0 ∧ r = (S 15 (ci x) 0) ∧ GW D B ad (Vw cy de ad S n T k th X) H))) (oX B (fun E H => ((E = "java/lang/IndexOutOfBoundsException" ∧ cd_money x = 1)) ∧ GW D B ad (Vw cy de ad S n T k th X) H)) 1 6 (AB B) := by
  refine E_vx (own := RX6) rfl rfl (Nat.le_of_ble_eq_true rfl) ?_
  intro p e s m below meth c hC hr hlk hex hG h0 ls hl
  have hx := hC.x
  have hb := hC.b
  have hS : va_S (AB B) s.heap s.heap [] := va_S.rf
  have hl : lo ls 2 [some (.ref (ad 0 0 0)), some (.int x)] := lo_of hl
  obtain ⟨hW, hNE, hCH, hBL⟩ := h0
  have hW9 := hW
  obtain ⟨hB0, hB1, hB2, hB3, hB4, hB5, hB6, hB7, hKI, hEI, hKY⟩ := hW9
  
  refine o_iload_n hx hb dX6_money_0 hl rfl ?_
  refine k_X6_needLand hfl hC hS hG trivial ml_X6_29 ⟨Nat.le_of_ble_eq_true rfl, Nat.le_of_ble_eq_true rfl⟩ hl.1 (Nat.le_of_ble_eq_true rfl) dX6_money_1 ⟨Nat.le_of_ble_eq_true rfl, Nat.le_of_ble_eq_true rfl⟩ hex hlk (Nat.le_of_ble_eq_true rfl) (Nat.le_of_ble_eq_true rfl) (fun E H1 hE => ⟨⟨hE.1.1, (by simp only [cd_money]; exact cif_f hE.1.2)⟩, hE.2⟩) (fun a1 h1_0 h1_1 H locs hG hS => ?_)
  subst h1_1
  have z1 : ci (nI a1) = a1 := nI_clamp (by omega)
  refine o_aload_n hx hb dX6_money_4 hl rfl ?_
  refine g_get hC hG us_X6 rfl 4 (by decide) fl_X6_25 V_games rfl dX6_money_5 ?_
  refine o_iload_n hx hb dX6_money_8 hl rfl ?_
  refine g_iald hC hG V_mon a1 rfl (by omega) (by omega) dX6_money_9 ?_
  refine vx_ret ?_
  exact R_I hC hS hr hlk rfl (⟨(by simp only [cd_money]; exact cif_t (ix_nI h1_0)), (by rw [z1]), (by exact hG)⟩) (Nat.le_of_ble_eq_true rfl) (Nat.le_of_ble_eq_true rfl) dX6_money_10
theorem k_X6_money {p : Program} {l : Launch} {e : Env} {R : Room} {s : State} {m : MethodId} {args : Array Value} {below : List Frame} {meth : Method} {c : Code} {H : Heap} {locs : List Loc} {cells slots : Nat} {cc : ByteArray} {pc nL : Nat} {ls : Array Slot} {rest : List Value} {own : String} {D : va_G} {cy : Nat → ClassId} {sa : Nat → Nat} {de B : Nat} {ad : Ad} {S : St} {n : Nat → Nat} {T : St} {k : Nat → Nat} {th : Int32} {X : Rl} {x : Int32} {mcc mss : Nat} {Qc : Array Value → State → Outcome → State → Prop} {GX : String → Heap → Prop} (hfl : l.stackTraces = false)  (hC : Cx p m c cc nL s args own D cy sa de B) (hS : va_S (AB B) s.heap H locs) (hG : GW D B ad (Vw cy de ad S n T k th X) H) (h0 : CI S n)  {idx : Nat} (wl : Cond.methodLink own idx yX6_money ∈ G0) (hR : 7 + 1 ≤ R.frames ∧ 8 + (2 + 11) + 102 ≤ R.locals) (hsz : ls.size = nL) (hst : (rest.map fun v => v.category).sum ≤ 8) (hdg : decode cc pc = .ok (.invokevirtual idx, 3)) (hcs : cells + 1 ≤ R.cells ∧ slots + 6 ≤ R.slots) (hex : ∀ x ∈ c.exceptionTable.toList, False) (hlk : meth.locks = false) (hmc : cells + 1 ≤ mcc) (hms : slots + 6 ≤ mss) (hxx : ∀ (E : String) (H1 : Heap), ((fun E H => ((E = "java/lang/IndexOutOfBoundsException" ∧ cd_money x = 1)) ∧ GW D B ad (Vw cy de ad S n T k th X) H)) E H1 → GX E H1) (k0 : (cd_money x = 0) → ∀ (H1 : Heap) (locs1 : List Loc), GW D B ad (Vw cy de ad S n T k th X) H1 → va_S (AB B) s.heap H1 locs1 → W p l e R s m args below meth c H1 locs1 (cells + 1) (slots + 6) (vx_MQ below Qc (oX B GX) args s mcc mss (AB B)) (F0 m (pc + 3) ls (.int (S 15 (ci x) 0) :: rest))) : W p l e R s m args below meth c H locs cells slots (vx_MQ below Qc (oX B GX) args s mcc mss (AB B)) (F0 m pc ls (.int x :: .ref (ad 0 0 0) :: rest)) :=
  vx_calli (xV hC hS hG h0 (As := [.int x]) (c_X6_money l hfl) ⟨rfl, rfl⟩ wl im_X6_money sl_X6_X6_money in_X6 cd_X6_money (n := 1) (by decide +kernel) hR (recv hC hG (q := (RX6, TX6, 6)) rfl V_games) rfl hsz hst rfl hdg hcs) hS (fun _ _ h => h) (fun _ h => h) (fun _ _ h => h) (fun E ce q9 u t H1 locs1 ht hv hp hB hz hq hS1 hce hcv hcl => prop_out hS1 hex hlk (hxx E H1 (by dsimp only at hB; rw [ht] at hB; exact hB)) hce hcv hcl hmc hms) (fun r u t H1 locs1 ht _ hr hB _ _ hS1 => by
      subst hr
      have hB9 := hB; try dsimp only at hB9
      rw [ht] at hB9
      rcases hB9 with ⟨q0, rfl, hG1⟩
      · exact k0 q0 _ _ hG1 hS1)
set_option maxHeartbeats 4000000 in
set_option maxRecDepth 100000 in
theorem c_X6_year (l : Launch) {D : va_G} {cy : Nat → ClassId} {sa : Nat → Nat} {de B : Nat} {ad : Ad} {S : St} {n : Nat → Nat} {T : St} {k : Nat → Nat} {th : Int32} {X : Rl}   : Met l yX6_year (Cond.code yX6_year cX6_year 1 (Option.some Jvm.ClassFile.FieldType.int) :: G0) ({ frames := 0, cells := 0, slots := 0, locals := 0 } : Room) (va_Pc [.ref (ad 0 0 0)] (PW D cy sa de B ad (Vw cy de ad S n T k th X) (True))) (vp_Si (fun r => r = S 23 0 0)) 0 0 (fun _ => False) := by
  refine E_met (own := RX6) rfl rfl (Nat.le_of_ble_eq_true rfl) ?_
  intro p e s m below meth c hC hr hlk hnm hG h0 ls hl
  have hx := hC.x
  have hb := hC.b
  have hS : va_S (AB B) s.heap s.heap [] := va_S.rf
  have hl : lo ls 1 [some (.ref (ad 0 0 0))] := lo_of hl
  refine o_aload_n hx hb dX6_year_0 hl rfl ?_
  refine g_get hC hG us_X6 rfl 5 (by decide) fl_X6_197 V_games rfl dX6_year_1 ?_
  exact R_i hC hr hlk rfl (rfl) dX6_year_4
theorem k_X6_year {p : Program} {l : Launch} {e : Env} {R : Room} {s : State} {m : MethodId} {args : Array Value} {below : List Frame} {meth : Method} {c : Code} {H : Heap} {locs : List Loc} {cells slots : Nat} {Q : State → Prop} {cc : ByteArray} {pc nL : Nat} {ls : Array Slot} {rest : List Value} {own : String} {D : va_G} {cy : Nat → ClassId} {sa : Nat → Nat} {de B : Nat} {ad : Ad} {S : St} {n : Nat → Nat} {T : St} {k : Nat → Nat} {th : Int32} {X : Rl}   (hC : Cx p m c cc nL s args own D cy sa de B) (hS : va_S (AB B) s.heap H locs) (hG : GW D B ad (Vw cy de ad S n T k th X) H) (h0 : True)  {idx : Nat} (wl : Cond.methodLink own idx yX6_year ∈ G0) (hR : 0 + 1 ≤ R.frames ∧ 8 + (1 + 11) + 0 ≤ R.locals) (hsz : ls.size = nL) (hst : (rest.map fun v => v.category).sum ≤ 8) (hdg : decode cc pc = .ok (.invokevirtual idx, 3)) (hcs : cells + 0 ≤ R.cells ∧ slots + 0 ≤ R.slots) (kk : W p l e R s m args below meth c H locs cells slots Q (F0 m (pc + 3) ls (.int (S 23 0 0) :: rest))) : W p l e R s m args below meth c H locs cells slots Q (F0 m pc ls (.ref (ad 0 0 0) :: rest)) :=
  vp_callSi (va_Run.run (rV hC hS hG h0 (As := []) (c_X6_year l) ⟨rfl, rfl⟩ wl im_X6_year sl_X6_X6_year in_X6 cd_X6_year (n := 0) (by decide +kernel) hR (recv hC hG (q := (RX6, TX6, 6)) rfl V_games) rfl hsz hst rfl hdg hcs)) (fun r hr => by subst hr; exact kk)
set_option maxHeartbeats 4000000 in
set_option maxRecDepth 100000 in
theorem c_X6_next (l : Launch) (hfl : l.stackTraces = false) {D : va_G} {cy : Nat → ClassId} {sa : Nat → Nat} {de B : Nat} {ad : Ad} {S : St} {n : Nat → Nat} {T : St} {k : Nat → Nat} {th : Int32} {X : Rl}   : vx_Met l yX6_next (Cond.code yX6_next cX6_next 3 (Option.some Jvm.ClassFile.FieldType.int) :: G0) ({ frames := 7, cells := 1, slots := 6, locals := 154 } : Room) (va_Pc [.ref (ad 0 0 0)] (PW D cy sa de B ad (Vw cy de ad S n T k th X) (CI S n))) (oI B (fun r H => (cd_next S = 0 ∧ r = (nxtS S n 23 0 0) ∧ GW D B ad (Vw cy de ad (nxtS S n) n T k th X) H))) (oX B (fun E H => ((E = "java/lang/IllegalStateException" ∧ cd_next S = 1)) ∧ GW D B ad (Vw cy de ad S n T k th X) H)) 1 6 (AB B) := by
  refine E_vx (own := RX6) rfl rfl (Nat.le_of_ble_eq_true rfl) ?_
  intro p e s m below meth c hC hr hlk hex hG h0 ls hl
  have hx := hC.x
  have hb := hC.b
  have hS : va_S (AB B) s.heap s.heap [] := va_S.rf
  have hl : lo ls 3 [some (.ref (ad 0 0 0)), none, none] := lo_of hl
  obtain ⟨hW, hNE, hCH, hBL⟩ := h0
  have hW9 := hW
  obtain ⟨hB0, hB1, hB2, hB3, hB4, hB5, hB6, hB7, hKI, hEI, hKY⟩ := hW9
  
  refine o_aload_n hx hb dX6_next_0 hl rfl ?_
  refine g_get hC hG us_X6 rfl 5 (by decide) fl_X6_197 V_games rfl dX6_next_1 ?_
  refine lv_bipush (v := 40) hx hb dX6_next_4 (by decide) ?_
  refine lv_icmp_lt (tgt := 19) hx hb dX6_next_6 (by decide) (fun h6 => ?_) (fun h6 => ?_)
  · skip
    refine o_aload_n hx hb dX6_next_19 hl rfl ?_
    refine lv_dup hx hb dX6_next_20 rfl ?_
    refine g_get hC hG us_X6 rfl 5 (by decide) fl_X6_197 V_games rfl dX6_next_21 ?_
    refine lv_iconst (v := 1) hx hb dX6_next_24 (by decide) ?_
    refine lv_iadd hx hb dX6_next_25 ?_
    refine g_put hC hG hS us_X6 tyX6_ok nmX6 rfl 5 (by decide) fl_X6_197 rfl V_games rfl rfl (Nat.le_of_ble_eq_true rfl) P_year dX6_next_26 (fun H locs hG hS => ?_)
    refine lv_iconst (v := 0) hx hb dX6_next_29 (by decide) ?_
    refine o_istore_n hx hb dX6_next_30 hl (by decide) rfl (fun ls hl => ?_)
    have loop31 : ∀ (q9 : Nat) (w : Nat), w ≤ n 0 ∧ n 0 < w + q9 → ∀ (H : Heap) (locs : List Loc), GW D B ad (Vw cy de ad (neS (up3 S 23 0 0 (S 23 0 0 + 1)) n w) n T k th X) H → va_S (AB B) s.heap H locs → ∀ ls : Array Slot, lo ls 3 [some (.ref (ad 0 0 0)), some (.int (nI w)), none] → W p l e ({ frames := 7, cells := 1, slots := 6, locals := 154 } : Room) s m [.ref (ad 0 0 0)].toArray below meth c H locs 0 0 (vx_MQ below (oI B (fun r H => (cd_next S = 0 ∧ r = (nxtS S n 23 0 0) ∧ GW D B ad (Vw cy de ad (nxtS S n) n T k th X) H))) (oX B (fun E H => ((E = "java/lang/IllegalStateException" ∧ cd_next S = 1)) ∧ GW D B ad (Vw cy de ad S n T k th X) H)) [.ref (ad 0 0 0)].toArray s 1 6 (AB B)) (F0 m 31 ls []) := by
      intro q9
      induction q9 with
      | zero => intro w hq9; exact absurd hq9 (by omega)
      | succ q9 ih31 =>
        intro w hq9  H locs hG hS ls hl
        have hWy : WF (neS (up3 S 23 0 0 (S 23 0 0 + 1)) n w) n := WF_ne (WF_codes (S2 := up3 S 23 0 0 (S 23 0 0 + 1)) hW rfl rfl rfl) w
        refine o_iload_n hx hb dX6_next_31 hl rfl ?_
        refine o_aload_n hx hb dX6_next_32 hl rfl ?_
        refine g_get hC hG us_X6 rfl 0 (by decide) fl_X6_10 V_games rfl dX6_next_33 ?_
        refine k_Jx4a65c_size_8abf5 (q := 0) hC hS hG (by omega) ml_X6_33 ⟨Nat.le_of_ble_eq_true rfl, Nat.le_of_ble_eq_true rfl⟩ hl.1 (Nat.le_of_ble_eq_true rfl) dX6_next_36 ⟨Nat.le_of_ble_eq_true rfl, Nat.le_of_ble_eq_true rfl⟩ ?_
        refine n_icmp_ge (tgt := 83) hx hb w (n 0) rfl rfl (by omega) (by omega) dX6_next_39 (by decide) (fun h39 => ?_) (fun h39 => ?_)
        · skip
          refine o_aload_n hx hb dX6_next_83 hl rfl ?_
          refine g_get hC hG us_X6 rfl 5 (by decide) fl_X6_197 V_games rfl dX6_next_84 ?_
          refine vx_ret ?_
          exact R_I hC hS hr hlk rfl (⟨(by simp only [cd_next]; exact cif_t h6), (by unfold nxtS; rw [show n 0 = w by omega]), (by unfold nxtS; rw [show n 0 = w by omega]; exact hG)⟩) (Nat.le_of_ble_eq_true rfl) (Nat.le_of_ble_eq_true rfl) dX6_next_87
        · skip
          refine o_aload_n hx hb dX6_next_42 hl rfl ?_
          refine g_get hC hG us_X6 rfl 0 (by decide) fl_X6_10 V_games rfl dX6_next_43 ?_
          refine o_iload_n hx hb dX6_next_46 hl rfl ?_
          refine k_Jx4a65c_get_915e3 (q := 0) hC hS hG ⟨by omega, by omega, by omega⟩ (show elT 0 = 3 from rfl) ml_X6_185 ⟨Nat.le_of_ble_eq_true rfl, Nat.le_of_ble_eq_true rfl⟩ hl.1 (Nat.le_of_ble_eq_true rfl) dX6_next_47 ⟨Nat.le_of_ble_eq_true rfl, Nat.le_of_ble_eq_true rfl⟩ ?_
          refine va_castS hx hb hC.o (hC.t _ cl_X6_44) (hC.K.1 1 _ rfl).2 (recv hC hG (q := (RX0, TX0, 10)) rfl (V_ath (by omega))) dX6_next_50 ?_
          refine o_astore_n hx hb dX6_next_53 hl (by decide) rfl (fun ls hl => ?_)
          refine o_aload_n hx hb dX6_next_54 hl rfl ?_
          refine k_X0_waits hC hS hG (by omega) ml_X6_202 ⟨Nat.le_of_ble_eq_true rfl, Nat.le_of_ble_eq_true rfl⟩ hl.1 (Nat.le_of_ble_eq_true rfl) dX6_next_55 ⟨Nat.le_of_ble_eq_true rfl, Nat.le_of_ble_eq_true rfl⟩ (fun h55 => ?_) (fun h55 => ?_)
          · skip
            refine lv_if_eq (tgt := 77) hx hb dX6_next_58 (by decide) (fun h58 => ?_) (fun h58 => ?_)
            · exact absurd h58 (by decide)
            · skip
              refine o_aload_n hx hb dX6_next_61 hl rfl ?_
              refine g_get hC hG us_X0 rfl 8 (by decide) fl_X6_205 (V_ath (by omega)) rfl dX6_next_62 ?_
              refine o_aload_n hx hb dX6_next_65 hl rfl ?_
              refine g_get hC hG us_X6 rfl 5 (by decide) fl_X6_197 V_games rfl dX6_next_66 ?_
              refine lv_icmp_ne (tgt := 77) hx hb dX6_next_69 (by decide) (fun h69 => ?_) (fun h69 => ?_)
              · skip
                refine o_iinc1 hx hb dX6_next_77 hl rfl (by decide) rfl (fun ls hl => ?_)
                refine lv_goto (tgt := 31) hx hb dX6_next_80 (by decide) ?_
                first
                | (have hP : neP (neS (up3 S 23 0 0 (S 23 0 0 + 1)) n w) w := ⟨h55, h69⟩
                   exact ih31 (w + 1) (by omega) H locs (by rw [neS_t hP, Vw_cls (fun c _ h2 => up3_c h2)]; exact hG) hS ls (lo_none (i := 2) hl))
                | (have hP : ¬ neP (neS (up3 S 23 0 0 (S 23 0 0 + 1)) n w) w := by first | exact fun z => h55 z.1 | exact fun z => h69 z.2
                   exact ih31 (w + 1) (by omega) H locs (by rw [neS_f hP]; exact hG) hS ls (lo_none (i := 2) hl))
              · skip
                refine o_aload_n hx hb dX6_next_72 hl rfl ?_
                refine o_aload_n hx hb dX6_next_73 hl rfl ?_
                refine k_X6_endWaiting hC hS hG ⟨by omega, hWy⟩ ml_X6_208 ⟨Nat.le_of_ble_eq_true rfl, Nat.le_of_ble_eq_true rfl⟩ hl.1 (Nat.le_of_ble_eq_true rfl) dX6_next_74 ⟨Nat.le_of_ble_eq_true rfl, Nat.le_of_ble_eq_true rfl⟩ (fun H locs hG hS => ?_)
                refine o_iinc1 hx hb dX6_next_77 hl rfl (by decide) rfl (fun ls hl => ?_)
                refine lv_goto (tgt := 31) hx hb dX6_next_80 (by decide) ?_
                first
                | (have hP : neP (neS (up3 S 23 0 0 (S 23 0 0 + 1)) n w) w := ⟨h55, h69⟩
                   exact ih31 (w + 1) (by omega) H locs (by rw [neS_t hP, Vw_cls (fun c _ h2 => up3_c h2)]; exact hG) hS ls (lo_none (i := 2) hl))
                | (have hP : ¬ neP (neS (up3 S 23 0 0 (S 23 0 0 + 1)) n w) w := by first | exact fun z => h55 z.1 | exact fun z => h69 z.2
                   exact ih31 (w + 1) (by omega) H locs (by rw [neS_f hP]; exact hG) hS ls (lo_none (i := 2) hl))
          · skip
            refine lv_if_eq (tgt := 77) hx hb dX6_next_58 (by decide) (fun h58 => ?_) (fun h58 => ?_)
            · skip
              refine o_iinc1 hx hb dX6_next_77 hl rfl (by decide) rfl (fun ls hl => ?_)
              refine lv_goto (tgt := 31) hx hb dX6_next_80 (by decide) ?_
              first
              | (have hP : neP (neS (up3 S 23 0 0 (S 23 0 0 + 1)) n w) w := ⟨h55, h69⟩
                 exact ih31 (w + 1) (by omega) H locs (by rw [neS_t hP, Vw_cls (fun c _ h2 => up3_c h2)]; exact hG) hS ls (lo_none (i := 2) hl))
              | (have hP : ¬ neP (neS (up3 S 23 0 0 (S 23 0 0 + 1)) n w) w := by first | exact fun z => h55 z.1 | exact fun z => h69 z.2
                 exact ih31 (w + 1) (by omega) H locs (by rw [neS_f hP]; exact hG) hS ls (lo_none (i := 2) hl))
            · exact absurd h58 (by decide)
    exact loop31 (n 0 + 1) 0 (by omega) H locs hG hS ls hl
  · skip
    exact thr_IS hC hfl hS hG hex hlk hl.1 (si := 19) rfl dX6_next_9 dX6_next_12 dX6_next_13 dX6_next_15 dX6_next_18 (Nat.le_of_ble_eq_true rfl) (Nat.le_of_ble_eq_true rfl) (Nat.le_of_ble_eq_true rfl) (Nat.le_of_ble_eq_true rfl) (fun H1 hG1 => ⟨⟨rfl, (by simp only [cd_next]; exact cif_f h6)⟩, hG1⟩) (Nat.le_of_ble_eq_true rfl) (Nat.le_of_ble_eq_true rfl)
theorem k_X6_next {p : Program} {l : Launch} {e : Env} {R : Room} {s : State} {m : MethodId} {args : Array Value} {below : List Frame} {meth : Method} {c : Code} {H : Heap} {locs : List Loc} {cells slots : Nat} {cc : ByteArray} {pc nL : Nat} {ls : Array Slot} {rest : List Value} {own : String} {D : va_G} {cy : Nat → ClassId} {sa : Nat → Nat} {de B : Nat} {ad : Ad} {S : St} {n : Nat → Nat} {T : St} {k : Nat → Nat} {th : Int32} {X : Rl}  {mcc mss : Nat} {Qc : Array Value → State → Outcome → State → Prop} {GX : String → Heap → Prop} (hfl : l.stackTraces = false)  (hC : Cx p m c cc nL s args own D cy sa de B) (hS : va_S (AB B) s.heap H locs) (hG : GW D B ad (Vw cy de ad S n T k th X) H) (h0 : CI S n)  {idx : Nat} (wl : Cond.methodLink own idx yX6_next ∈ G0) (hR : 7 + 1 ≤ R.frames ∧ 8 + (3 + 11) + 154 ≤ R.locals) (hsz : ls.size = nL) (hst : (rest.map fun v => v.category).sum ≤ 8) (hdg : decode cc pc = .ok (.invokevirtual idx, 3)) (hcs : cells + 1 ≤ R.cells ∧ slots + 6 ≤ R.slots) (hex : ∀ x ∈ c.exceptionTable.toList, False) (hlk : meth.locks = false) (hmc : cells + 1 ≤ mcc) (hms : slots + 6 ≤ mss) (hxx : ∀ (E : String) (H1 : Heap), ((fun E H => ((E = "java/lang/IllegalStateException" ∧ cd_next S = 1)) ∧ GW D B ad (Vw cy de ad S n T k th X) H)) E H1 → GX E H1) (k0 : (cd_next S = 0) → ∀ (H1 : Heap) (locs1 : List Loc), GW D B ad (Vw cy de ad (nxtS S n) n T k th X) H1 → va_S (AB B) s.heap H1 locs1 → W p l e R s m args below meth c H1 locs1 (cells + 1) (slots + 6) (vx_MQ below Qc (oX B GX) args s mcc mss (AB B)) (F0 m (pc + 3) ls (.int (nxtS S n 23 0 0) :: rest))) : W p l e R s m args below meth c H locs cells slots (vx_MQ below Qc (oX B GX) args s mcc mss (AB B)) (F0 m pc ls (.ref (ad 0 0 0) :: rest)) :=
  vx_calli (xV hC hS hG h0 (As := []) (c_X6_next l hfl) ⟨rfl, rfl⟩ wl im_X6_next sl_X6_X6_next in_X6 cd_X6_next (n := 0) (by decide +kernel) hR (recv hC hG (q := (RX6, TX6, 6)) rfl V_games) rfl hsz hst rfl hdg hcs) hS (fun _ _ h => h) (fun _ h => h) (fun _ _ h => h) (fun E ce q9 u t H1 locs1 ht hv hp hB hz hq hS1 hce hcv hcl => prop_out hS1 hex hlk (hxx E H1 (by dsimp only at hB; rw [ht] at hB; exact hB)) hce hcv hcl hmc hms) (fun r u t H1 locs1 ht _ hr hB _ _ hS1 => by
      subst hr
      have hB9 := hB; try dsimp only at hB9
      rw [ht] at hB9
      rcases hB9 with ⟨q0, rfl, hG1⟩
      · exact k0 q0 _ _ hG1 hS1)
set_option maxHeartbeats 4000000 in
set_option maxRecDepth 100000 in
theorem c_X6_until (l : Launch) (hfl : l.stackTraces = false) {D : va_G} {cy : Nat → ClassId} {sa : Nat → Nat} {de B : Nat} {ad : Ad} {S : St} {n : Nat → Nat} {T : St} {k : Nat → Nat} {th : Int32} {X : Rl} {x : Int32}  : vx_Met l yX6_until (Cond.code yX6_until cX6_until 3 (Option.some Jvm.ClassFile.FieldType.int) :: G0) ({ frames := 7, cells := 2, slots := 12, locals := 103 } : Room) (va_Pc [.ref (ad 0 0 0), .int x] (PW D cy sa de B ad (Vw cy de ad S n T k th X) (CI S n))) (oI B (fun r H => (cd_until S n x = 0 ∧ r = (S 2 (ci x) 0) ∧ GW D B ad (Vw cy de ad S n T k th X) H))) (oX B (fun E H => ((E = "java/lang/IndexOutOfBoundsException" ∧ cd_until S n x = 1) ∨ (E = "java/util/NoSuchElementException" ∧ cd_until S n x = 2)) ∧ GW D B ad (Vw cy de ad S n T k th X) H)) 2 12 (AB B) := by
  refine E_vx (own := RX6) rfl rfl (Nat.le_of_ble_eq_true rfl) ?_
  intro p e s m below meth c hC hr hlk hex hG h0 ls hl
  have hx := hC.x
  have hb := hC.b
  have hS : va_S (AB B) s.heap s.heap [] := va_S.rf
  have hl : lo ls 3 [some (.ref (ad 0 0 0)), some (.int x), none] := lo_of hl
  obtain ⟨hW, hNE, hCH, hBL⟩ := h0
  have hW9 := hW
  obtain ⟨hB0, hB1, hB2, hB3, hB4, hB5, hB6, hB7, hKI, hEI, hKY⟩ := hW9
  
  refine o_aload_n hx hb dX6_until_0 hl rfl ?_
  refine o_iload_n hx hb dX6_until_1 hl rfl ?_
  refine k_X6_needAthlete hfl hC hS hG hW ml_X6_53 ⟨Nat.le_of_ble_eq_true rfl, Nat.le_of_ble_eq_true rfl⟩ hl.1 (Nat.le_of_ble_eq_true rfl) dX6_until_2 ⟨Nat.le_of_ble_eq_true rfl, Nat.le_of_ble_eq_true rfl⟩ hex hlk (Nat.le_of_ble_eq_true rfl) (Nat.le_of_ble_eq_true rfl) (fun E H1 hE => ⟨Or.inl (⟨hE.1.1, (by simp only [cd_until]; exact cif_f hE.1.2)⟩), hE.2⟩) (fun a2 h2_0 h2_1 H locs hG hS => ?_)
  subst h2_1
  have z2 : ci (nI a2) = a2 := nI_clamp (by omega)
  refine o_astore_n hx hb dX6_until_5 hl (by decide) rfl (fun ls hl => ?_)
  refine o_aload_n hx hb dX6_until_6 hl rfl ?_
  refine k_X0_waits hC hS hG (by omega) ml_X6_202 ⟨Nat.le_of_ble_eq_true rfl, Nat.le_of_ble_eq_true rfl⟩ hl.1 (Nat.le_of_ble_eq_true rfl) dX6_until_7 ⟨Nat.le_of_ble_eq_true rfl, Nat.le_of_ble_eq_true rfl⟩ (fun h7 => ?_) (fun h7 => ?_)
  · skip
    refine lv_if_ne (tgt := 23) hx hb dX6_until_10 (by decide) (fun h10 => ?_) (fun h10 => ?_)
    · skip
      refine o_aload_n hx hb dX6_until_23 hl rfl ?_
      refine g_get hC hG us_X0 rfl 8 (by decide) fl_X6_205 (V_ath (by omega)) rfl dX6_until_24 ?_
      refine vx_ret ?_
      exact R_I hC hS hr hlk rfl (⟨(by simp only [cd_until, z2]; exact (cif_t (ix_nI h2_0)).trans (cif_t h7)), (by rw [z2]), (by exact hG)⟩) (Nat.le_of_ble_eq_true rfl) (Nat.le_of_ble_eq_true rfl) dX6_until_27
    · exact absurd h10 (by decide)
  · skip
    refine lv_if_ne (tgt := 23) hx hb dX6_until_10 (by decide) (fun h10 => ?_) (fun h10 => ?_)
    · exact absurd h10 (by decide)
    · skip
      exact thr_NS hC hfl hS hG hex hlk hl.1 (si := 20) rfl dX6_until_13 dX6_until_16 dX6_until_17 dX6_until_19 dX6_until_22 (Nat.le_of_ble_eq_true rfl) (Nat.le_of_ble_eq_true rfl) (Nat.le_of_ble_eq_true rfl) (Nat.le_of_ble_eq_true rfl) (fun H1 hG1 => ⟨Or.inr (⟨rfl, (by simp only [cd_until, z2]; exact (cif_t (ix_nI h2_0)).trans (cif_f h7))⟩), hG1⟩) (Nat.le_of_ble_eq_true rfl) (Nat.le_of_ble_eq_true rfl)
theorem k_X6_until {p : Program} {l : Launch} {e : Env} {R : Room} {s : State} {m : MethodId} {args : Array Value} {below : List Frame} {meth : Method} {c : Code} {H : Heap} {locs : List Loc} {cells slots : Nat} {cc : ByteArray} {pc nL : Nat} {ls : Array Slot} {rest : List Value} {own : String} {D : va_G} {cy : Nat → ClassId} {sa : Nat → Nat} {de B : Nat} {ad : Ad} {S : St} {n : Nat → Nat} {T : St} {k : Nat → Nat} {th : Int32} {X : Rl} {x : Int32} {mcc mss : Nat} {Qc : Array Value → State → Outcome → State → Prop} {GX : String → Heap → Prop} (hfl : l.stackTraces = false)  (hC : Cx p m c cc nL s args own D cy sa de B) (hS : va_S (AB B) s.heap H locs) (hG : GW D B ad (Vw cy de ad S n T k th X) H) (h0 : CI S n)  {idx : Nat} (wl : Cond.methodLink own idx yX6_until ∈ G0) (hR : 7 + 1 ≤ R.frames ∧ 8 + (3 + 11) + 103 ≤ R.locals) (hsz : ls.size = nL) (hst : (rest.map fun v => v.category).sum ≤ 8) (hdg : decode cc pc = .ok (.invokevirtual idx, 3)) (hcs : cells + 2 ≤ R.cells ∧ slots + 12 ≤ R.slots) (hex : ∀ x ∈ c.exceptionTable.toList, False) (hlk : meth.locks = false) (hmc : cells + 2 ≤ mcc) (hms : slots + 12 ≤ mss) (hxx : ∀ (E : String) (H1 : Heap), ((fun E H => ((E = "java/lang/IndexOutOfBoundsException" ∧ cd_until S n x = 1) ∨ (E = "java/util/NoSuchElementException" ∧ cd_until S n x = 2)) ∧ GW D B ad (Vw cy de ad S n T k th X) H)) E H1 → GX E H1) (k0 : (cd_until S n x = 0) → ∀ (H1 : Heap) (locs1 : List Loc), GW D B ad (Vw cy de ad S n T k th X) H1 → va_S (AB B) s.heap H1 locs1 → W p l e R s m args below meth c H1 locs1 (cells + 2) (slots + 12) (vx_MQ below Qc (oX B GX) args s mcc mss (AB B)) (F0 m (pc + 3) ls (.int (S 2 (ci x) 0) :: rest))) : W p l e R s m args below meth c H locs cells slots (vx_MQ below Qc (oX B GX) args s mcc mss (AB B)) (F0 m pc ls (.int x :: .ref (ad 0 0 0) :: rest)) :=
  vx_calli (xV hC hS hG h0 (As := [.int x]) (c_X6_until l hfl) ⟨rfl, rfl⟩ wl im_X6_until sl_X6_X6_until in_X6 cd_X6_until (n := 1) (by decide +kernel) hR (recv hC hG (q := (RX6, TX6, 6)) rfl V_games) rfl hsz hst rfl hdg hcs) hS (fun _ _ h => h) (fun _ h => h) (fun _ _ h => h) (fun E ce q9 u t H1 locs1 ht hv hp hB hz hq hS1 hce hcv hcl => prop_out hS1 hex hlk (hxx E H1 (by dsimp only at hB; rw [ht] at hB; exact hB)) hce hcv hcl hmc hms) (fun r u t H1 locs1 ht _ hr hB _ _ hS1 => by
      subst hr
      have hB9 := hB; try dsimp only at hB9
      rw [ht] at hB9
      rcases hB9 with ⟨q0, rfl, hG1⟩
      · exact k0 q0 _ _ hG1 hS1)
