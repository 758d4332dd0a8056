/-! A list's size where a new object has no numbers yet. -/
theorem c_size0 (l : Launch) {D : va_G} {cy : Nat → ClassId} {sa : Nat → Nat} {de B : Nat} {ad : Ad} {X : Rl} {q w b dd : Nat} {mo : Int32} : Met l yJx4a65c_size_8abf5 (Cond.code yJx4a65c_size_8abf5 cJx4a65c_size_8abf5 1 (Option.some Jvm.ClassFile.FieldType.int) :: G0) ({ frames := 0, cells := 0, slots := 0, locals := 0 } : Room) (va_Pc [.ref b] (PW D cy sa de B ad X (ad 1 q 0 = b ∧ X 1 q 0 = some (.inr (0, [.int mo, .ref dd, .int (nI w)]))))) (vp_Si (fun r => r = nI w)) 0 0 (fun _ => False) := by
  refine E_met (own := RJx4a65c) rfl rfl (Nat.le_of_ble_eq_true rfl) ?_
  intro p e s m below meth c hC hr hlk hnm hG h0 ls hl
  have hx := hC.x
  have hb := hC.b
  obtain ⟨hbb, hO⟩ := h0
  subst hbb
  have hl : lo ls 1 [some (.ref (ad 1 q 0))] := lo_of hl
  refine o_aload_n hx hb dJx4a65c_size_8abf5_0 hl rfl ?_
  refine g_get hC hG us_Jx4a65c rfl 2 (by decide) fl_Jx4a65c_48 hO rfl dJx4a65c_size_8abf5_1 ?_
  exact R_i hC hr hlk rfl (rfl) dJx4a65c_size_8abf5_4
theorem k_size0 {p : Program} {l : Launch} {e : Env} {R : Room} {s : State} {m : MethodId} {args : Array Value} {below : List Frame} {meth : Method} {c : Code} {H : Heap} {locs : List Loc} {cells slots : Nat} {Q : State → Prop} {cc : ByteArray} {pc nL : Nat} {ls : Array Slot} {rest : List Value} {own : String} {D : va_G} {cy : Nat → ClassId} {sa : Nat → Nat} {de B : Nat} {ad : Ad} {X : Rl} {q w b dd : Nat} {mo : Int32} (hC : Cx p m c cc nL s args own D cy sa de B) (hS : va_S (AB B) s.heap H locs) (hG : GW D B ad X H) (h0 : ad 1 q 0 = b ∧ X 1 q 0 = some (.inr (0, [.int mo, .ref dd, .int (nI w)])))  {idx : Nat} (wl : Cond.methodLink own idx yJx4a65c_size_8abf5 ∈ G0) (hR : 0 + 1 ≤ R.frames ∧ 8 + (1 + 11) + 0 ≤ R.locals) (hsz : ls.size = nL) (hst : (rest.map fun v => v.category).sum ≤ 8) (hdg : decode cc pc = .ok (.invokevirtual idx, 3)) (hcs : cells + 0 ≤ R.cells ∧ slots + 0 ≤ R.slots) (kk : W p l e R s m args below meth c H locs cells slots Q (F0 m (pc + 3) ls (.int (nI w) :: rest))) : W p l e R s m args below meth c H locs cells slots Q (F0 m pc ls (.ref b :: rest)) :=
  vp_callSi (va_Run.run (rV hC hS hG h0 (As := []) (c_size0 l) ⟨rfl, rfl⟩ wl im_Jx4a65c_size_8abf5 sl_Jx4a65c_Jx4a65c_size_8abf5 in_Jx4a65c cd_Jx4a65c_size_8abf5 (n := 0) (by decide +kernel) hR (h0.1 ▸ recv hC hG (q := (RJx4a65c, TJx4a65c, 3)) rfl h0.2) rfl hsz hst rfl hdg hcs)) (fun r hr => by subst hr; exact kk)
theorem at1_c0 {S : St} {i : Nat} {v : Int32} : at1 S i v 0 = S 0 := at1_cc (by decide) (by decide) (by decide) (by decide) (by decide) (by decide) (by decide) (by decide)
theorem at1_c8 {S : St} {i : Nat} {v : Int32} : at1 S i v 8 = S 8 := at1_cc (by decide) (by decide) (by decide) (by decide) (by decide) (by decide) (by decide) (by decide)
theorem at1_c11 {S : St} {i : Nat} {v : Int32} : at1 S i v 11 = S 11 := at1_cc (by decide) (by decide) (by decide) (by decide) (by decide) (by decide) (by decide) (by decide)
theorem at1_c15 {S : St} {i : Nat} {v : Int32} : at1 S i v 15 = S 15 := at1_cc (by decide) (by decide) (by decide) (by decide) (by decide) (by decide) (by decide) (by decide)
theorem at1_c23 {S : St} {i : Nat} {v : Int32} : at1 S i v 23 = S 23 := at1_cc (by decide) (by decide) (by decide) (by decide) (by decide) (by decide) (by decide) (by decide)
theorem nO_le {n : Nat → Nat} {q i : Nat} (hi : i < 4) (h : n (i + 4) = n i) : nO n q i ≤ nO n q (i + 4) := by
  by_cases hz : i = q
  · subst hz
    rw [nO_o (by omega), nO_s]; omega
  · by_cases hz2 : i = q + 4
    · omega
    · rw [nO_o hz2, nO_o (by omega), h]; exact Nat.le_refl _
section BI
variable {p : Program} {l : Launch} {e : Env} {R : Room} {s : State} {m : MethodId} {args : Array Value} {below : List Frame} {meth : Method} {c : Code} {H : Heap} {locs : List Loc} {cells slots : Nat} {Q : State → Prop}
variable {pc : Nat} {ls : Array Slot} {rest : List Value}
theorem bi_0 {x y : Int32} (h : x = y) (k : W p l e R s m args below meth c H locs cells slots Q (F0 m pc ls (.int x :: rest))) : W p l e R s m args below meth c H locs cells slots Q (F0 m pc ls (.int y :: rest)) := h ▸ k
end BI
set_option maxHeartbeats 4000000 in
set_option maxRecDepth 100000 in
theorem c_X6_classifier (l : Launch) (hfl : l.stackTraces = false) {D : va_G} {cy : Nat → ClassId} {sa : Nat → Nat} {de B : Nat} {ad : Ad} {S : St} {n : Nat → Nat} {T : St} {k : Nat → Nat} {th : Int32} {X : Rl} {x : Int32}  : vx_Met l yX6_classifier (Cond.code yX6_classifier cX6_classifier 2 (Option.some Jvm.ClassFile.FieldType.int) :: G0) ({ frames := 8, cells := 3, slots := 29, locals := 191 } : Room) (va_Pc [.ref (ad 0 0 0), .int x] (PW D cy sa de B ad (Vw cy de ad S n T k th X) (Inv S n ∧ X 19 0 0 = none))) (oI B (fun r H => cd_classifier n x = 0 ∧ r = nI (n 1) ∧ ∃ ad9, Ag ad ad9 ∧ GW D B ad9 (Vw cy de ad9 (clS S (n 1) x) (nUp n 1) T k th X) H)) (oX B (fun E H => ((E = "java/lang/IndexOutOfBoundsException" ∧ cd_classifier n x = 1) ∨ (E = "java/lang/IllegalStateException" ∧ cd_classifier n x = 2)) ∧ GW D B ad (Vw cy de ad S n T k th X) H)) 3 29 (AB B) := by
  refine E_vx (own := RX6) rfl rfl (Nat.le_of_ble_eq_true rfl) ?_
  intro p e s m below meth c hC hr hlk hex hG h0 ls hl
  have hx := hC.x
  have hb := hC.b
  have hS : va_S (AB B) s.heap s.heap [] := va_S.rf
  have hl : lo ls 2 [some (.ref (ad 0 0 0)), some (.int x)] := lo_of hl
  obtain ⟨h0, hX19⟩ := h0
  have hI := h0
  obtain ⟨hCI, hD0, hD1, hD2, hB01, hF30, hK8, hMK, hU1, hU2, hS10, hEO, hCF, hFT, hME, hYR, hEK, hLA⟩ := h0
  obtain ⟨hW, hNE, hCH, hBL⟩ := hCI
  have hW9 := hW
  obtain ⟨hB0, hB1, hB2, hB3, hB4, hB5, hB6, hB7, hKI, hEI, hKY⟩ := hW9
  have hMB : MB n := ⟨hB0, hB1, hB2, by omega⟩
  have hKYm : KYm S n := hKY
  refine o_iload_n hx hb dX6_classifier_0 hl rfl ?_
  refine k_X6_needLand hfl hC hS hG trivial ml_X6_29 ⟨Nat.le_of_ble_eq_true rfl, Nat.le_of_ble_eq_true rfl⟩ hl.1 (Nat.le_of_ble_eq_true rfl) dX6_classifier_1 ⟨Nat.le_of_ble_eq_true rfl, Nat.le_of_ble_eq_true rfl⟩ hex hlk (Nat.le_of_ble_eq_true rfl) (Nat.le_of_ble_eq_true rfl) (fun E H1 hE => ⟨Or.inl (⟨hE.1.1, (by simp only [cd_classifier]; exact cif_f hE.1.2)⟩), hE.2⟩) (fun a1 h1_0 h1_1 H locs hG hS => ?_)
  subst h1_1
  have z1 : ci (nI a1) = a1 := nI_clamp (by omega)
  refine o_aload_n hx hb dX6_classifier_4 hl rfl ?_
  refine g_get hC hG us_X6 rfl 1 (by decide) fl_X6_16 V_games rfl dX6_classifier_5 ?_
  refine k_Jx4a65c_size_8abf5 (q := 1) hC hS hG (by omega) ml_X6_33 ⟨Nat.le_of_ble_eq_true rfl, Nat.le_of_ble_eq_true rfl⟩ hl.1 (Nat.le_of_ble_eq_true rfl) dX6_classifier_8 ⟨Nat.le_of_ble_eq_true rfl, Nat.le_of_ble_eq_true rfl⟩ ?_
  refine lv_bipush (v := 8) hx hb dX6_classifier_11 (by decide) ?_
  refine n_icmp_lt (tgt := 26) hx hb (n 1) 8 rfl rfl (by omega) (by omega) dX6_classifier_13 (by decide) (fun h13 => ?_) (fun h13 => ?_)
  · skip
    refine o_aload_n hx hb dX6_classifier_26 hl rfl ?_
    refine bn_0 rfl ?_
    refine g_get hC hG us_X6 rfl 1 (by decide) fl_X6_16 (show (Vw cy de ad S n T k th X) 0 0 0 = some (.inr (7, [.ref (ad 1 0 0), .ref (ad 1 1 0), .ref (ad 1 2 0), .ref (ad 1 3 0), .ref (ad 12 0 0), .int (S 23 0 0)])) from V_games) rfl dX6_classifier_27 ?_
    refine g_new hC hG hS us_X1 tyX1_ok cl_X6_100 is_X1 in_X1 (ci := 2) rfl (fs := [.int 0]) vp_fresh_X1 (Nat.le_of_ble_eq_true rfl) (Nat.le_of_ble_eq_true rfl) 6 (n 5) 0 (show (Vw cy de ad S n T k th X) 6 (n 5) 0 = none from (V_no (by omega))) dX6_classifier_30 (fun q30 H hG hS => ?_)
    obtain ⟨ad1, had1⟩ : ∃ z, z = up3 ad 6 (n 5) 0 q30 := ⟨_, rfl⟩
    rw [← had1] at hG
    have ead1_0_0_0 : ad1 0 0 0 = ad 0 0 0 := by rw [had1]; exact (up3_ne (by omega)).trans rfl
    have ead1_1_0_0 : ad1 1 0 0 = ad 1 0 0 := by rw [had1]; exact (up3_ne (by omega)).trans rfl
    have ead1_1_1_0 : ad1 1 1 0 = ad 1 1 0 := by rw [had1]; exact (up3_ne (by omega)).trans rfl
    have ead1_1_2_0 : ad1 1 2 0 = ad 1 2 0 := by rw [had1]; exact (up3_ne (by omega)).trans rfl
    have ead1_1_3_0 : ad1 1 3 0 = ad 1 3 0 := by rw [had1]; exact (up3_ne (by omega)).trans rfl
    have ead1_6_n5_0 : ad1 6 (n 5) 0 = q30 := by rw [had1]; exact up3_self
    refine lv_dup hx hb dX6_classifier_33 rfl ?_
    refine o_iload_n hx hb dX6_classifier_34 hl rfl ?_
    refine k_X1_init (t := 6) (i := n 5) (j := 0) hC hS hG ⟨ead1_6_n5_0, (show (up3 (Vw cy de ad S n T k th X) 6 (n 5) 0 (some (.inr (2, [.int 0])))) 6 (n 5) 0 = some (.inr (2, [.int 0])) from up3_self)⟩ ml_X6_102 ⟨Nat.le_of_ble_eq_true rfl, Nat.le_of_ble_eq_true rfl⟩ hl.1 (Nat.le_of_ble_eq_true rfl) dX6_classifier_35 ⟨Nat.le_of_ble_eq_true rfl, Nat.le_of_ble_eq_true rfl⟩ (fun H locs hG hS => ?_)
    rw [up3_up3] at hG
    have hG := GW_cl hW had1 hG
    have hnq : nO n 1 1 = n 5 := (nO_o (by decide)).trans hB5.symm
    have hnq4 : nO n 1 5 = n 5 + 1 := nO_s
    have eob : ad1 6 (nO n 1 1) 0 = q30 := by rw [hnq]; exact ead1_6_n5_0
    refine bn_e eob ead1_1_1_0 ?_
    have hle0 : nO n 1 0 ≤ nO n 1 4 := nO_le (by decide) hB4
    have hle1 : nO n 1 1 ≤ nO n 1 5 := nO_le (by decide) hB5
    have hle2 : nO n 1 2 ≤ nO n 1 6 := nO_le (by decide) hB6
    have hle3 : nO n 1 3 ≤ nO n 1 7 := nO_le (by decide) hB7
    refine k_Jx4a65c_add_9ea2d (t2 := 2) (i2 := 1) (j2 := 0) (w := nO n 1 1) hC hS hG ⟨⟨V_list (by decide), V_dif (by decide)⟩, by omega, ok_data (by decide) hle0 hle1 hle2 hle3, fData_end, (V_X (by decide)).trans hX19, by decide, by decide, by decide, V_cla (by omega), (show vwCl[2]? = some (RX1, TX1, 1) from rfl), by decide, by omega, by omega⟩ ml_X6_49 ⟨Nat.le_of_ble_eq_true rfl, Nat.le_of_ble_eq_true rfl⟩ hl.1 (Nat.le_of_ble_eq_true rfl) dX6_classifier_38 ⟨Nat.le_of_ble_eq_true rfl, Nat.le_of_ble_eq_true rfl⟩ (fun r9 H locs hp hS => ?_)
    obtain ⟨rfl, q9, hG⟩ := hp
    obtain ⟨ad9, h9⟩ : ∃ z, z = up3 ad1 2 1 0 q9 := ⟨_, rfl⟩
    rw [← h9] at hG
    have hG := GW_list (by decide) h9 hG
    have hG : GW D B ad9 (Vw cy de ad9 (clS S (n 1) (nI a1)) (nUp n 1) T k th X) H := by
      rw [nL_nO hB5] at hG
      rw [up3_ne (by omega), hB5] at hG; exact hG
    have hag : Ag ad ad9 := by rw [h9, had1]; exact (Ag.rf.up (by decide)).up (by decide)
    have e00 : ad9 0 0 0 = ad 0 0 0 := by rw [hag 0 (Or.inl rfl)]
    refine lv_pop hx hb dX6_classifier_41 rfl ?_
    refine o_aload_n hx hb dX6_classifier_42 hl rfl ?_
    refine bn_0 e00 ?_
    refine g_get hC hG us_X6 rfl 1 (by decide) fl_X6_16 V_games rfl dX6_classifier_43 ?_
    refine k_Jx4a65c_size_8abf5 (q := 1) hC hS hG (by decide) ml_X6_33 ⟨Nat.le_of_ble_eq_true rfl, Nat.le_of_ble_eq_true rfl⟩ hl.1 (Nat.le_of_ble_eq_true rfl) dX6_classifier_46 ⟨Nat.le_of_ble_eq_true rfl, Nat.le_of_ble_eq_true rfl⟩ ?_
    refine lv_iconst (v := 1) hx hb dX6_classifier_49 (by decide) ?_
    refine lv_isub hx hb dX6_classifier_50 ?_
    rw [show nI (nUp n 1 1) - 1 = nI (n 1) from nI_pred (n 1)]
    refine vx_ret ?_
    exact R_I hC hS hr hlk rfl (⟨(by simp only [cd_classifier]; exact (cif_t (ix_nI h1_0)).trans (cif_t h13)), rfl, ad9, hag, hG⟩) (Nat.le_of_ble_eq_true rfl) (Nat.le_of_ble_eq_true rfl) dX6_classifier_51
  · skip
    exact thr_IS hC hfl hS hG hex hlk hl.1 (si := 7) rfl dX6_classifier_16 dX6_classifier_19 dX6_classifier_20 dX6_classifier_22 dX6_classifier_25 (Nat.le_of_ble_eq_true rfl) (Nat.le_of_ble_eq_true rfl) (Nat.le_of_ble_eq_true rfl) (Nat.le_of_ble_eq_true rfl) (fun H1 hG1 => ⟨Or.inr (⟨rfl, (by simp only [cd_classifier]; exact (cif_t (ix_nI h1_0)).trans (cif_f (by omega)))⟩), hG1⟩) (Nat.le_of_ble_eq_true rfl) (Nat.le_of_ble_eq_true rfl)
theorem k_X6_classifier {p : Program} {l : Launch} {e : Env} {R : Room} {s : State} {m : MethodId} {args : Array Value} {below : List Frame} {meth : Method} {c : Code} {H : Heap} {locs : List Loc} {cells slots : Nat} {cc : ByteArray} {pc nL : Nat} {ls : Array Slot} {rest : List Value} {own : String} {D : va_G} {cy : Nat → ClassId} {sa : Nat → Nat} {de B : Nat} {ad : Ad} {S : St} {n : Nat → Nat} {T : St} {k : Nat → Nat} {th : Int32} {X : Rl} {x : Int32} {mcc mss : Nat} {Qc : Array Value → State → Outcome → State → Prop} {GX : String → Heap → Prop} (hfl : l.stackTraces = false)  (hC : Cx p m c cc nL s args own D cy sa de B) (hS : va_S (AB B) s.heap H locs) (hG : GW D B ad (Vw cy de ad S n T k th X) H) (h0 : Inv S n ∧ X 19 0 0 = none)  {idx : Nat} (wl : Cond.methodLink own idx yX6_classifier ∈ G0) (hR : 8 + 1 ≤ R.frames ∧ 8 + (2 + 11) + 191 ≤ R.locals) (hsz : ls.size = nL) (hst : (rest.map fun v => v.category).sum ≤ 8) (hdg : decode cc pc = .ok (.invokevirtual idx, 3)) (hcs : cells + 3 ≤ R.cells ∧ slots + 29 ≤ R.slots) (hex : ∀ x ∈ c.exceptionTable.toList, False) (hlk : meth.locks = false) (hmc : cells + 3 ≤ mcc) (hms : slots + 29 ≤ mss) (hxx : ∀ (E : String) (H1 : Heap), ((fun E H => ((E = "java/lang/IndexOutOfBoundsException" ∧ cd_classifier n x = 1) ∨ (E = "java/lang/IllegalStateException" ∧ cd_classifier n x = 2)) ∧ GW D B ad (Vw cy de ad S n T k th X) H)) E H1 → GX E H1) (kk : ∀ (r9 : Int32) (H1 : Heap) (locs1 : List Loc), ((fun r H => cd_classifier n x = 0 ∧ r = nI (n 1) ∧ ∃ ad9, Ag ad ad9 ∧ GW D B ad9 (Vw cy de ad9 (clS S (n 1) x) (nUp n 1) T k th X) H)) r9 H1 → va_S (AB B) s.heap H1 locs1 → W p l e R s m args below meth c H1 locs1 (cells + 3) (slots + 29) (vx_MQ below Qc (oX B GX) args s mcc mss (AB B)) (F0 m (pc + 3) ls (.int r9 :: rest))) : W p l e R s m args below meth c H locs cells slots (vx_MQ below Qc (oX B GX) args s mcc mss (AB B)) (F0 m pc ls (.int x :: .ref (ad 0 0 0) :: rest)) :=
  vx_calli (xV hC hS hG h0 (As := [.int x]) (c_X6_classifier l hfl) ⟨rfl, rfl⟩ wl im_X6_classifier sl_X6_X6_classifier in_X6 cd_X6_classifier (n := 1) (by decide +kernel) hR (recv hC hG (q := (RX6, TX6, 6)) rfl V_games) rfl hsz hst rfl hdg hcs) hS (fun _ _ h => h) (fun _ h => h) (fun _ _ h => h) (fun E ce q9 u t H1 locs1 ht hv hp hB hz hq hS1 hce hcv hcl => prop_out hS1 hex hlk (hxx E H1 (by (try dsimp only at hB); rw [ht] at hB; exact hB)) hce hcv hcl hmc hms) (fun r u t H1 locs1 ht _ hr hB _ _ hS1 => by subst hr; exact kk r H1 locs1 (by (try dsimp only at hB); rw [ht] at hB; exact hB) hS1)
set_option maxHeartbeats 4000000 in
set_option maxRecDepth 100000 in
theorem c_X6_athlete (l : Launch) (hfl : l.stackTraces = false) {D : va_G} {cy : Nat → ClassId} {sa : Nat → Nat} {de B : Nat} {ad : Ad} {S : St} {n : Nat → Nat} {T : St} {k : Nat → Nat} {th : Int32} {X : Rl} {x : Int32}  : vx_Met l yX6_athlete (Cond.code yX6_athlete cX6_athlete 2 (Option.some Jvm.ClassFile.FieldType.int) :: G0) ({ frames := 8, cells := 9, slots := 56, locals := 191 } : Room) (va_Pc [.ref (ad 0 0 0), .int x] (PW D cy sa de B ad (Vw cy de ad S n T k th X) (Inv S n ∧ X 19 0 0 = none))) (oI B (fun r H => cd_athlete n x = 0 ∧ r = nI (n 0) ∧ ∃ ad9, Ag ad ad9 ∧ GW D B ad9 (Vw cy de ad9 (atS S (n 0) x) (nUp n 0) T k th X) H)) (oX B (fun E H => ((E = "java/lang/IndexOutOfBoundsException" ∧ cd_athlete n x = 1) ∨ (E = "java/lang/IllegalStateException" ∧ cd_athlete n x = 2)) ∧ GW D B ad (Vw cy de ad S n T k th X) H)) 9 56 (AB B) := by
  refine E_vx (own := RX6) rfl rfl (Nat.le_of_ble_eq_true rfl) ?_
  intro p e s m below meth c hC hr hlk hex hG h0 ls hl
  have hx := hC.x
  have hb := hC.b
  have hS : va_S (AB B) s.heap s.heap [] := va_S.rf
  have hl : lo ls 2 [some (.ref (ad 0 0 0)), some (.int x)] := lo_of hl
  obtain ⟨h0, hX19⟩ := h0
  have hI := h0
  obtain ⟨hCI, hD0, hD1, hD2, hB01, hF30, hK8, hMK, hU1, hU2, hS10, hEO, hCF, hFT, hME, hYR, hEK, hLA⟩ := h0
  obtain ⟨hW, hNE, hCH, hBL⟩ := hCI
  have hW9 := hW
  obtain ⟨hB0, hB1, hB2, hB3, hB4, hB5, hB6, hB7, hKI, hEI, hKY⟩ := hW9
  have hMB : MB n := ⟨hB0, hB1, hB2, by omega⟩
  have hKYm : KYm S n := hKY
  refine o_iload_n hx hb dX6_athlete_0 hl rfl ?_
  refine k_X6_needLand hfl hC hS hG trivial ml_X6_29 ⟨Nat.le_of_ble_eq_true rfl, Nat.le_of_ble_eq_true rfl⟩ hl.1 (Nat.le_of_ble_eq_true rfl) dX6_athlete_1 ⟨Nat.le_of_ble_eq_true rfl, Nat.le_of_ble_eq_true rfl⟩ hex hlk (Nat.le_of_ble_eq_true rfl) (Nat.le_of_ble_eq_true rfl) (fun E H1 hE => ⟨Or.inl (⟨hE.1.1, (by simp only [cd_athlete]; exact cif_f hE.1.2)⟩), hE.2⟩) (fun a1 h1_0 h1_1 H locs hG hS => ?_)
  subst h1_1
  have z1 : ci (nI a1) = a1 := nI_clamp (by omega)
  refine o_aload_n hx hb dX6_athlete_4 hl rfl ?_
  refine g_get hC hG us_X6 rfl 0 (by decide) fl_X6_10 V_games rfl dX6_athlete_5 ?_
  refine k_Jx4a65c_size_8abf5 (q := 0) hC hS hG (by omega) ml_X6_33 ⟨Nat.le_of_ble_eq_true rfl, Nat.le_of_ble_eq_true rfl⟩ hl.1 (Nat.le_of_ble_eq_true rfl) dX6_athlete_8 ⟨Nat.le_of_ble_eq_true rfl, Nat.le_of_ble_eq_true rfl⟩ ?_
  refine lv_bipush (v := 16) hx hb dX6_athlete_11 (by decide) ?_
  refine n_icmp_lt (tgt := 26) hx hb (n 0) 16 rfl rfl (by omega) (by omega) dX6_athlete_13 (by decide) (fun h13 => ?_) (fun h13 => ?_)
  · skip
    refine o_aload_n hx hb dX6_athlete_26 hl rfl ?_
    refine bn_0 rfl ?_
    refine g_get hC hG us_X6 rfl 0 (by decide) fl_X6_10 (show (Vw cy de ad S n T k th X) 0 0 0 = some (.inr (7, [.ref (ad 1 0 0), .ref (ad 1 1 0), .ref (ad 1 2 0), .ref (ad 1 3 0), .ref (ad 12 0 0), .int (S 23 0 0)])) from V_games) rfl dX6_athlete_27 ?_
    refine g_new hC hG hS us_X0 tyX0_ok cl_X6_44 is_X0 in_X0 (ci := 1) rfl (fs := [.int 0, .int 0, .null, .null, .null, .int 0, .int 0, .null, .int 0, .int 0]) vp_fresh_X0 (Nat.le_of_ble_eq_true rfl) (Nat.le_of_ble_eq_true rfl) 3 (n 4) 0 (show (Vw cy de ad S n T k th X) 3 (n 4) 0 = none from (V_no (by omega))) dX6_athlete_30 (fun q30 H hG hS => ?_)
    obtain ⟨ad1, had1⟩ : ∃ z, z = up3 ad 3 (n 4) 0 q30 := ⟨_, rfl⟩
    rw [← had1] at hG
    have ead1_0_0_0 : ad1 0 0 0 = ad 0 0 0 := by rw [had1]; exact (up3_ne (by omega)).trans rfl
    have ead1_1_0_0 : ad1 1 0 0 = ad 1 0 0 := by rw [had1]; exact (up3_ne (by omega)).trans rfl
    have ead1_1_1_0 : ad1 1 1 0 = ad 1 1 0 := by rw [had1]; exact (up3_ne (by omega)).trans rfl
    have ead1_1_2_0 : ad1 1 2 0 = ad 1 2 0 := by rw [had1]; exact (up3_ne (by omega)).trans rfl
    have ead1_1_3_0 : ad1 1 3 0 = ad 1 3 0 := by rw [had1]; exact (up3_ne (by omega)).trans rfl
    have ead1_3_n4_0 : ad1 3 (n 4) 0 = q30 := by rw [had1]; exact up3_self
    refine lv_dup hx hb dX6_athlete_33 rfl ?_
    refine o_aload_n hx hb dX6_athlete_34 hl rfl ?_
    refine bn_0 ead1_0_0_0 ?_
    refine g_get hC hG us_X6 rfl 0 (by decide) fl_X6_10 (show (up3 (Vw cy de ad S n T k th X) 3 (n 4) 0 (some (.inr (1, [.int 0, .int 0, .null, .null, .null, .int 0, .int 0, .null, .int 0, .int 0])))) 0 0 0 = some (.inr (7, [.ref (ad 1 0 0), .ref (ad 1 1 0), .ref (ad 1 2 0), .ref (ad 1 3 0), .ref (ad 12 0 0), .int (S 23 0 0)])) from (up3_ne (by omega)).trans (V_games)) rfl dX6_athlete_35 ?_
    refine k_size0 (q := 0) (mo := S 0 0 0) (dd := if n 0 = 0 then de else ad 2 0 0) hC hS hG ⟨ead1_1_0_0, (show (up3 (Vw cy de ad S n T k th X) 3 (n 4) 0 (some (.inr (1, [.int 0, .int 0, .null, .null, .null, .int 0, .int 0, .null, .int 0, .int 0])))) 1 0 0 = _ from (up3_ne (by omega)).trans (V_list (by decide)))⟩ ml_X6_33 ⟨Nat.le_of_ble_eq_true rfl, Nat.le_of_ble_eq_true rfl⟩ hl.1 (Nat.le_of_ble_eq_true rfl) dX6_athlete_38 ⟨Nat.le_of_ble_eq_true rfl, Nat.le_of_ble_eq_true rfl⟩ ?_
    refine bi_0 (show nI (n 4) = nI (n 0) by rw [hB4]) ?_
    refine o_iload_n hx hb dX6_athlete_41 hl rfl ?_
    refine k_X0_init (i := n 4) hC hS hG ⟨ead1_3_n4_0, (show (up3 (Vw cy de ad S n T k th X) 3 (n 4) 0 (some (.inr (1, [.int 0, .int 0, .null, .null, .null, .int 0, .int 0, .null, .int 0, .int 0])))) 3 (n 4) 0 = some (.inr (1, [.int 0, .int 0, .null, .null, .null, .int 0, .int 0, .null, .int 0, .int 0])) from up3_self), (show (up3 (Vw cy de ad S n T k th X) 3 (n 4) 0 (some (.inr (1, [.int 0, .int 0, .null, .null, .null, .int 0, .int 0, .null, .int 0, .int 0])))) 4 (n 4) 0 = none from (up3_ne (by omega)).trans ((V_no (by omega)))), (show (up3 (Vw cy de ad S n T k th X) 3 (n 4) 0 (some (.inr (1, [.int 0, .int 0, .null, .null, .null, .int 0, .int 0, .null, .int 0, .int 0])))) 4 (n 4) 1 = none from (up3_ne (by omega)).trans ((V_no (by omega)))), (show (up3 (Vw cy de ad S n T k th X) 3 (n 4) 0 (some (.inr (1, [.int 0, .int 0, .null, .null, .null, .int 0, .int 0, .null, .int 0, .int 0])))) 4 (n 4) 2 = none from (up3_ne (by omega)).trans ((V_no (by omega)))), (show (up3 (Vw cy de ad S n T k th X) 3 (n 4) 0 (some (.inr (1, [.int 0, .int 0, .null, .null, .null, .int 0, .int 0, .null, .int 0, .int 0])))) 5 (n 4) 0 = none from (up3_ne (by omega)).trans ((V_no (by omega)))), (show (up3 (Vw cy de ad S n T k th X) 3 (n 4) 0 (some (.inr (1, [.int 0, .int 0, .null, .null, .null, .int 0, .int 0, .null, .int 0, .int 0])))) 5 (n 4) 1 = none from (up3_ne (by omega)).trans ((V_no (by omega)))), (show (up3 (Vw cy de ad S n T k th X) 3 (n 4) 0 (some (.inr (1, [.int 0, .int 0, .null, .null, .null, .int 0, .int 0, .null, .int 0, .int 0])))) 5 (n 4) 2 = none from (up3_ne (by omega)).trans ((V_no (by omega))))⟩ ml_X6_46 ⟨Nat.le_of_ble_eq_true rfl, Nat.le_of_ble_eq_true rfl⟩ hl.1 (Nat.le_of_ble_eq_true rfl) dX6_athlete_42 ⟨Nat.le_of_ble_eq_true rfl, Nat.le_of_ble_eq_true rfl⟩ (fun H locs hG hS => ?_)
    obtain ⟨q42a, q42b, q42c, q42d, q42e, q42f, hG⟩ := hG
    obtain ⟨ad2, had2⟩ : ∃ z, z = up3 ad1 4 (n 4) 0 q42a := ⟨_, rfl⟩
    rw [← had2] at hG
    have ead2_0_0_0 : ad2 0 0 0 = ad 0 0 0 := by rw [had2]; exact (up3_ne (by omega)).trans ead1_0_0_0
    have ead2_1_0_0 : ad2 1 0 0 = ad 1 0 0 := by rw [had2]; exact (up3_ne (by omega)).trans ead1_1_0_0
    have ead2_1_1_0 : ad2 1 1 0 = ad 1 1 0 := by rw [had2]; exact (up3_ne (by omega)).trans ead1_1_1_0
    have ead2_1_2_0 : ad2 1 2 0 = ad 1 2 0 := by rw [had2]; exact (up3_ne (by omega)).trans ead1_1_2_0
    have ead2_1_3_0 : ad2 1 3 0 = ad 1 3 0 := by rw [had2]; exact (up3_ne (by omega)).trans ead1_1_3_0
    have ead2_3_n4_0 : ad2 3 (n 4) 0 = q30 := by rw [had2]; exact (up3_ne (by omega)).trans ead1_3_n4_0
    have ead2_4_n4_0 : ad2 4 (n 4) 0 = q42a := by rw [had2]; exact up3_self
    obtain ⟨ad3, had3⟩ : ∃ z, z = up3 ad2 5 (n 4) 0 q42b := ⟨_, rfl⟩
    rw [← had3] at hG
    have ead3_0_0_0 : ad3 0 0 0 = ad 0 0 0 := by rw [had3]; exact (up3_ne (by omega)).trans ead2_0_0_0
    have ead3_1_0_0 : ad3 1 0 0 = ad 1 0 0 := by rw [had3]; exact (up3_ne (by omega)).trans ead2_1_0_0
    have ead3_1_1_0 : ad3 1 1 0 = ad 1 1 0 := by rw [had3]; exact (up3_ne (by omega)).trans ead2_1_1_0
    have ead3_1_2_0 : ad3 1 2 0 = ad 1 2 0 := by rw [had3]; exact (up3_ne (by omega)).trans ead2_1_2_0
    have ead3_1_3_0 : ad3 1 3 0 = ad 1 3 0 := by rw [had3]; exact (up3_ne (by omega)).trans ead2_1_3_0
    have ead3_3_n4_0 : ad3 3 (n 4) 0 = q30 := by rw [had3]; exact (up3_ne (by omega)).trans ead2_3_n4_0
    have ead3_4_n4_0 : ad3 4 (n 4) 0 = q42a := by rw [had3]; exact (up3_ne (by omega)).trans ead2_4_n4_0
    have ead3_5_n4_0 : ad3 5 (n 4) 0 = q42b := by rw [had3]; exact up3_self
    obtain ⟨ad4, had4⟩ : ∃ z, z = up3 ad3 4 (n 4) 1 q42c := ⟨_, rfl⟩
    rw [← had4] at hG
    have ead4_0_0_0 : ad4 0 0 0 = ad 0 0 0 := by rw [had4]; exact (up3_ne (by omega)).trans ead3_0_0_0
    have ead4_1_0_0 : ad4 1 0 0 = ad 1 0 0 := by rw [had4]; exact (up3_ne (by omega)).trans ead3_1_0_0
    have ead4_1_1_0 : ad4 1 1 0 = ad 1 1 0 := by rw [had4]; exact (up3_ne (by omega)).trans ead3_1_1_0
    have ead4_1_2_0 : ad4 1 2 0 = ad 1 2 0 := by rw [had4]; exact (up3_ne (by omega)).trans ead3_1_2_0
    have ead4_1_3_0 : ad4 1 3 0 = ad 1 3 0 := by rw [had4]; exact (up3_ne (by omega)).trans ead3_1_3_0
    have ead4_3_n4_0 : ad4 3 (n 4) 0 = q30 := by rw [had4]; exact (up3_ne (by omega)).trans ead3_3_n4_0
    have ead4_4_n4_0 : ad4 4 (n 4) 0 = q42a := by rw [had4]; exact (up3_ne (by omega)).trans ead3_4_n4_0
    have ead4_5_n4_0 : ad4 5 (n 4) 0 = q42b := by rw [had4]; exact (up3_ne (by omega)).trans ead3_5_n4_0
    have ead4_4_n4_1 : ad4 4 (n 4) 1 = q42c := by rw [had4]; exact up3_self
    obtain ⟨ad5, had5⟩ : ∃ z, z = up3 ad4 5 (n 4) 1 q42d := ⟨_, rfl⟩
    rw [← had5] at hG
    have ead5_0_0_0 : ad5 0 0 0 = ad 0 0 0 := by rw [had5]; exact (up3_ne (by omega)).trans ead4_0_0_0
    have ead5_1_0_0 : ad5 1 0 0 = ad 1 0 0 := by rw [had5]; exact (up3_ne (by omega)).trans ead4_1_0_0
    have ead5_1_1_0 : ad5 1 1 0 = ad 1 1 0 := by rw [had5]; exact (up3_ne (by omega)).trans ead4_1_1_0
    have ead5_1_2_0 : ad5 1 2 0 = ad 1 2 0 := by rw [had5]; exact (up3_ne (by omega)).trans ead4_1_2_0
    have ead5_1_3_0 : ad5 1 3 0 = ad 1 3 0 := by rw [had5]; exact (up3_ne (by omega)).trans ead4_1_3_0
    have ead5_3_n4_0 : ad5 3 (n 4) 0 = q30 := by rw [had5]; exact (up3_ne (by omega)).trans ead4_3_n4_0
    have ead5_4_n4_0 : ad5 4 (n 4) 0 = q42a := by rw [had5]; exact (up3_ne (by omega)).trans ead4_4_n4_0
    have ead5_5_n4_0 : ad5 5 (n 4) 0 = q42b := by rw [had5]; exact (up3_ne (by omega)).trans ead4_5_n4_0
    have ead5_4_n4_1 : ad5 4 (n 4) 1 = q42c := by rw [had5]; exact (up3_ne (by omega)).trans ead4_4_n4_1
    have ead5_5_n4_1 : ad5 5 (n 4) 1 = q42d := by rw [had5]; exact up3_self
    obtain ⟨ad6, had6⟩ : ∃ z, z = up3 ad5 4 (n 4) 2 q42e := ⟨_, rfl⟩
    rw [← had6] at hG
    have ead6_0_0_0 : ad6 0 0 0 = ad 0 0 0 := by rw [had6]; exact (up3_ne (by omega)).trans ead5_0_0_0
    have ead6_1_0_0 : ad6 1 0 0 = ad 1 0 0 := by rw [had6]; exact (up3_ne (by omega)).trans ead5_1_0_0
    have ead6_1_1_0 : ad6 1 1 0 = ad 1 1 0 := by rw [had6]; exact (up3_ne (by omega)).trans ead5_1_1_0
    have ead6_1_2_0 : ad6 1 2 0 = ad 1 2 0 := by rw [had6]; exact (up3_ne (by omega)).trans ead5_1_2_0
    have ead6_1_3_0 : ad6 1 3 0 = ad 1 3 0 := by rw [had6]; exact (up3_ne (by omega)).trans ead5_1_3_0
    have ead6_3_n4_0 : ad6 3 (n 4) 0 = q30 := by rw [had6]; exact (up3_ne (by omega)).trans ead5_3_n4_0
    have ead6_4_n4_0 : ad6 4 (n 4) 0 = q42a := by rw [had6]; exact (up3_ne (by omega)).trans ead5_4_n4_0
    have ead6_5_n4_0 : ad6 5 (n 4) 0 = q42b := by rw [had6]; exact (up3_ne (by omega)).trans ead5_5_n4_0
    have ead6_4_n4_1 : ad6 4 (n 4) 1 = q42c := by rw [had6]; exact (up3_ne (by omega)).trans ead5_4_n4_1
    have ead6_5_n4_1 : ad6 5 (n 4) 1 = q42d := by rw [had6]; exact (up3_ne (by omega)).trans ead5_5_n4_1
    have ead6_4_n4_2 : ad6 4 (n 4) 2 = q42e := by rw [had6]; exact up3_self
    obtain ⟨ad7, had7⟩ : ∃ z, z = up3 ad6 5 (n 4) 2 q42f := ⟨_, rfl⟩
    rw [← had7] at hG
    have ead7_0_0_0 : ad7 0 0 0 = ad 0 0 0 := by rw [had7]; exact (up3_ne (by omega)).trans ead6_0_0_0
    have ead7_1_0_0 : ad7 1 0 0 = ad 1 0 0 := by rw [had7]; exact (up3_ne (by omega)).trans ead6_1_0_0
    have ead7_1_1_0 : ad7 1 1 0 = ad 1 1 0 := by rw [had7]; exact (up3_ne (by omega)).trans ead6_1_1_0
    have ead7_1_2_0 : ad7 1 2 0 = ad 1 2 0 := by rw [had7]; exact (up3_ne (by omega)).trans ead6_1_2_0
    have ead7_1_3_0 : ad7 1 3 0 = ad 1 3 0 := by rw [had7]; exact (up3_ne (by omega)).trans ead6_1_3_0
    have ead7_3_n4_0 : ad7 3 (n 4) 0 = q30 := by rw [had7]; exact (up3_ne (by omega)).trans ead6_3_n4_0
    have ead7_4_n4_0 : ad7 4 (n 4) 0 = q42a := by rw [had7]; exact (up3_ne (by omega)).trans ead6_4_n4_0
    have ead7_5_n4_0 : ad7 5 (n 4) 0 = q42b := by rw [had7]; exact (up3_ne (by omega)).trans ead6_5_n4_0
    have ead7_4_n4_1 : ad7 4 (n 4) 1 = q42c := by rw [had7]; exact (up3_ne (by omega)).trans ead6_4_n4_1
    have ead7_5_n4_1 : ad7 5 (n 4) 1 = q42d := by rw [had7]; exact (up3_ne (by omega)).trans ead6_5_n4_1
    have ead7_4_n4_2 : ad7 4 (n 4) 2 = q42e := by rw [had7]; exact (up3_ne (by omega)).trans ead6_4_n4_2
    have ead7_5_n4_2 : ad7 5 (n 4) 2 = q42f := by rw [had7]; exact up3_self
    have hG := GW_at (S2 := at1 S (n 4) (nI a1)) hW (by rw [had7, had6, had5, had4, had3, had2, had1]) hG at1_5 (by rw [at1_c8]; exact (hD0 (n 4) (by omega)).1) at1_9 at1_10 at1_2 (by rw [at1_c11]; exact (hD0 (n 4) (by omega)).2) (fun _ hy => at1_6 hy) (fun _ hy => at1_7 hy) (fun _ hy => at1_1 hy) at1_S at1_c23 at1_c15
    have hnq : nO n 0 0 = n 4 := (nO_o (by decide)).trans hB4.symm
    have hnq4 : nO n 0 4 = n 4 + 1 := nO_s
    have eob : ad7 3 (nO n 0 0) 0 = q30 := by rw [hnq]; exact ead7_3_n4_0
    refine bn_e eob ead7_1_0_0 ?_
    have hle0 : nO n 0 0 ≤ nO n 0 4 := nO_le (by decide) hB4
    have hle1 : nO n 0 1 ≤ nO n 0 5 := nO_le (by decide) hB5
    have hle2 : nO n 0 2 ≤ nO n 0 6 := nO_le (by decide) hB6
    have hle3 : nO n 0 3 ≤ nO n 0 7 := nO_le (by decide) hB7
    refine k_Jx4a65c_add_9ea2d (t2 := 2) (i2 := 0) (j2 := 0) (w := nO n 0 0) hC hS hG ⟨⟨V_list (by decide), V_dif (by decide)⟩, by omega, ok_data (by decide) hle0 hle1 hle2 hle3, fData_end, (V_X (by decide)).trans hX19, by decide, by decide, by decide, V_ath (by omega), (show vwCl[1]? = some (RX0, TX0, 10) from rfl), by decide, by omega, by omega⟩ ml_X6_49 ⟨Nat.le_of_ble_eq_true rfl, Nat.le_of_ble_eq_true rfl⟩ hl.1 (Nat.le_of_ble_eq_true rfl) dX6_athlete_45 ⟨Nat.le_of_ble_eq_true rfl, Nat.le_of_ble_eq_true rfl⟩ (fun r9 H locs hp hS => ?_)
    obtain ⟨rfl, q9, hG⟩ := hp
    obtain ⟨ad9, h9⟩ : ∃ z, z = up3 ad7 2 0 0 q9 := ⟨_, rfl⟩
    rw [← h9] at hG
    have hG := GW_list (by decide) h9 hG
    have hG : GW D B ad9 (Vw cy de ad9 (atS S (n 0) (nI a1)) (nUp n 0) T k th X) H := by
      rw [nL_nO hB4] at hG
      have e0 : at1 S (n 4) (nI a1) 0 0 0 = S 0 0 0 := by rw [at1_c0]
      rw [atS_1 e0, hB4] at hG; exact hG
    have hag : Ag ad ad9 := by rw [h9, had7, had6, had5, had4, had3, had2, had1]; exact (((((((Ag.rf.up (by decide)).up (by decide)).up (by decide)).up (by decide)).up (by decide)).up (by decide)).up (by decide)).up (by decide)
    have e00 : ad9 0 0 0 = ad 0 0 0 := by rw [hag 0 (Or.inl rfl)]
    refine lv_pop hx hb dX6_athlete_48 rfl ?_
    refine o_aload_n hx hb dX6_athlete_49 hl rfl ?_
    refine bn_0 e00 ?_
    refine g_get hC hG us_X6 rfl 0 (by decide) fl_X6_10 V_games rfl dX6_athlete_50 ?_
    refine k_Jx4a65c_size_8abf5 (q := 0) hC hS hG (by decide) ml_X6_33 ⟨Nat.le_of_ble_eq_true rfl, Nat.le_of_ble_eq_true rfl⟩ hl.1 (Nat.le_of_ble_eq_true rfl) dX6_athlete_53 ⟨Nat.le_of_ble_eq_true rfl, Nat.le_of_ble_eq_true rfl⟩ ?_
    refine lv_iconst (v := 1) hx hb dX6_athlete_56 (by decide) ?_
    refine lv_isub hx hb dX6_athlete_57 ?_
    rw [show nI (nUp n 0 0) - 1 = nI (n 0) from nI_pred (n 0)]
    refine vx_ret ?_
    exact R_I hC hS hr hlk rfl (⟨(by simp only [cd_athlete]; exact (cif_t (ix_nI h1_0)).trans (cif_t h13)), rfl, ad9, hag, hG⟩) (Nat.le_of_ble_eq_true rfl) (Nat.le_of_ble_eq_true rfl) dX6_athlete_58
  · skip
    exact thr_IS hC hfl hS hG hex hlk hl.1 (si := 1) rfl dX6_athlete_16 dX6_athlete_19 dX6_athlete_20 dX6_athlete_22 dX6_athlete_25 (Nat.le_of_ble_eq_true rfl) (Nat.le_of_ble_eq_true rfl) (Nat.le_of_ble_eq_true rfl) (Nat.le_of_ble_eq_true rfl) (fun H1 hG1 => ⟨Or.inr (⟨rfl, (by simp only [cd_athlete]; exact (cif_t (ix_nI h1_0)).trans (cif_f (by omega)))⟩), hG1⟩) (Nat.le_of_ble_eq_true rfl) (Nat.le_of_ble_eq_true rfl)
theorem k_X6_athlete {p : Program} {l : Launch} {e : Env} {R : Room} {s : State} {m : MethodId} {args : Array Value} {below : List Frame} {meth : Method} {c : Code} {H : Heap} {locs : List Loc} {cells slots : Nat} {cc : ByteArray} {pc nL : Nat} {ls : Array Slot} {rest : List Value} {own : String} {D : va_G} {cy : Nat → ClassId} {sa : Nat → Nat} {de B : Nat} {ad : Ad} {S : St} {n : Nat → Nat} {T : St} {k : Nat → Nat} {th : Int32} {X : Rl} {x : Int32} {mcc mss : Nat} {Qc : Array Value → State → Outcome → State → Prop} {GX : String → Heap → Prop} (hfl : l.stackTraces = false)  (hC : Cx p m c cc nL s args own D cy sa de B) (hS : va_S (AB B) s.heap H locs) (hG : GW D B ad (Vw cy de ad S n T k th X) H) (h0 : Inv S n ∧ X 19 0 0 = none)  {idx : Nat} (wl : Cond.methodLink own idx yX6_athlete ∈ G0) (hR : 8 + 1 ≤ R.frames ∧ 8 + (2 + 11) + 191 ≤ R.locals) (hsz : ls.size = nL) (hst : (rest.map fun v => v.category).sum ≤ 8) (hdg : decode cc pc = .ok (.invokevirtual idx, 3)) (hcs : cells + 9 ≤ R.cells ∧ slots + 56 ≤ R.slots) (hex : ∀ x ∈ c.exceptionTable.toList, False) (hlk : meth.locks = false) (hmc : cells + 9 ≤ mcc) (hms : slots + 56 ≤ mss) (hxx : ∀ (E : String) (H1 : Heap), ((fun E H => ((E = "java/lang/IndexOutOfBoundsException" ∧ cd_athlete n x = 1) ∨ (E = "java/lang/IllegalStateException" ∧ cd_athlete n x = 2)) ∧ GW D B ad (Vw cy de ad S n T k th X) H)) E H1 → GX E H1) (kk : ∀ (r9 : Int32) (H1 : Heap) (locs1 : List Loc), ((fun r H => cd_athlete n x = 0 ∧ r = nI (n 0) ∧ ∃ ad9, Ag ad ad9 ∧ GW D B ad9 (Vw cy de ad9 (atS S (n 0) x) (nUp n 0) T k th X) H)) r9 H1 → va_S (AB B) s.heap H1 locs1 → W p l e R s m args below meth c H1 locs1 (cells + 9) (slots + 56) (vx_MQ below Qc (oX B GX) args s mcc mss (AB B)) (F0 m (pc + 3) ls (.int r9 :: rest))) : W p l e R s m args below meth c H locs cells slots (vx_MQ below Qc (oX B GX) args s mcc mss (AB B)) (F0 m pc ls (.int x :: .ref (ad 0 0 0) :: rest)) :=
  vx_calli (xV hC hS hG h0 (As := [.int x]) (c_X6_athlete l hfl) ⟨rfl, rfl⟩ wl im_X6_athlete sl_X6_X6_athlete in_X6 cd_X6_athlete (n := 1) (by decide +kernel) hR (recv hC hG (q := (RX6, TX6, 6)) rfl V_games) rfl hsz hst rfl hdg hcs) hS (fun _ _ h => h) (fun _ h => h) (fun _ _ h => h) (fun E ce q9 u t H1 locs1 ht hv hp hB hz hq hS1 hce hcv hcl => prop_out hS1 hex hlk (hxx E H1 (by (try dsimp only at hB); rw [ht] at hB; exact hB)) hce hcv hcl hmc hms) (fun r u t H1 locs1 ht _ hr hB _ _ hS1 => by subst hr; exact kk r H1 locs1 (by (try dsimp only at hB); rw [ht] at hB; exact hB) hS1)
set_option maxHeartbeats 4000000 in
set_option maxRecDepth 100000 in
theorem c_X6_kind (l : Launch) (hfl : l.stackTraces = false) {D : va_G} {cy : Nat → ClassId} {sa : Nat → Nat} {de B : Nat} {ad : Ad} {S : St} {n : Nat → Nat} {T : St} {k : Nat → Nat} {th : Int32} {X : Rl} {x y z w : Int32}  : vx_Met l yX6_kind (Cond.code yX6_kind cX6_kind 6 (Option.some Jvm.ClassFile.FieldType.int) :: G0) ({ frames := 8, cells := 4, slots := 40, locals := 191 } : Room) (va_Pc [.ref (ad 0 0 0), .int x, .int y, .int z, .int w] (PW D cy sa de B ad (Vw cy de ad S n T k th X) (Inv S n ∧ X 19 0 0 = none))) (oI B (fun r H => cd_kind n x y z w = 0 ∧ r = nI (n 2) ∧ ∃ ad9, Ag ad ad9 ∧ GW D B ad9 (Vw cy de ad9 (kiS S (n 2) x y z w) (nUp n 2) T k th X) H)) (oX B (fun E H => ((E = "java/lang/IllegalArgumentException" ∧ cd_kind n x y z w = 1) ∨ (E = "java/lang/IllegalStateException" ∧ cd_kind n x y z w = 2)) ∧ GW D B ad (Vw cy de ad S n T k th X) H)) 4 40 (AB B) := by
  refine E_vx (own := RX6) rfl rfl (Nat.le_of_ble_eq_true rfl) ?_
  intro p e s m below meth c hC hr hlk hex hG h0 ls hl
  have hx := hC.x
  have hb := hC.b
  have hS : va_S (AB B) s.heap s.heap [] := va_S.rf
  have hl : lo ls 6 [some (.ref (ad 0 0 0)), some (.int x), some (.int y), some (.int z), some (.int w), none] := lo_of hl
  obtain ⟨h0, hX19⟩ := h0
  have hI := h0
  obtain ⟨hCI, hD0, hD1, hD2, hB01, hF30, hK8, hMK, hU1, hU2, hS10, hEO, hCF, hFT, hME, hYR, hEK, hLA⟩ := h0
  obtain ⟨hW, hNE, hCH, hBL⟩ := hCI
  have hW9 := hW
  obtain ⟨hB0, hB1, hB2, hB3, hB4, hB5, hB6, hB7, hKI, hEI, hKY⟩ := hW9
  have hMB : MB n := ⟨hB0, hB1, hB2, by omega⟩
  have hKYm : KYm S n := hKY
  refine o_iload_n hx hb dX6_kind_0 hl rfl ?_
  refine k_X6_needMeasure hfl hC hS hG trivial ml_X6_57 ⟨Nat.le_of_ble_eq_true rfl, Nat.le_of_ble_eq_true rfl⟩ hl.1 (Nat.le_of_ble_eq_true rfl) dX6_kind_1 ⟨Nat.le_of_ble_eq_true rfl, Nat.le_of_ble_eq_true rfl⟩ hex hlk (Nat.le_of_ble_eq_true rfl) (Nat.le_of_ble_eq_true rfl) (fun E H1 hE => ⟨Or.inl (⟨hE.1.1, (by simp only [cd_kind]; exact cif_f (fun v => hE.1.2 v.1))⟩), hE.2⟩) (fun a1 h1_0 h1_1 H locs hG hS => ?_)
  subst h1_1
  have z1 : ci (nI a1) = a1 := nI_clamp (by omega)
  refine o_iload_n hx hb dX6_kind_4 hl rfl ?_
  refine lv_iconst (v := 1) hx hb dX6_kind_5 (by decide) ?_
  refine lv_icmp_lt (tgt := 15) hx hb dX6_kind_6 (by decide) (fun h6 => ?_) (fun h6 => ?_)
  · skip
    exact thr_IA hC hfl hS hG hex hlk hl.1 (si := 8) rfl dX6_kind_15 dX6_kind_18 dX6_kind_19 dX6_kind_21 dX6_kind_24 (Nat.le_of_ble_eq_true rfl) (Nat.le_of_ble_eq_true rfl) (Nat.le_of_ble_eq_true rfl) (Nat.le_of_ble_eq_true rfl) (fun H1 hG1 => ⟨Or.inl (⟨rfl, (by simp only [cd_kind]; exact cif_f (fun v => by first | exact absurd h6 (Int32.not_lt.mpr v.2.1.1) | exact h12 v.2.1.2))⟩), hG1⟩) (Nat.le_of_ble_eq_true rfl) (Nat.le_of_ble_eq_true rfl)
  · skip
    refine o_iload_n hx hb dX6_kind_9 hl rfl ?_
    refine lv_bipush (v := 100) hx hb dX6_kind_10 (by decide) ?_
    refine lv_icmp_le (tgt := 25) hx hb dX6_kind_12 (by decide) (fun h12 => ?_) (fun h12 => ?_)
    · skip
      refine o_iload_n hx hb dX6_kind_25 hl rfl ?_
      refine o_iload hx hb dX6_kind_26 hl rfl ?_
      refine k_X6_needBounds hfl hC hS hG trivial ml_X6_106 ⟨Nat.le_of_ble_eq_true rfl, Nat.le_of_ble_eq_true rfl⟩ hl.1 (Nat.le_of_ble_eq_true rfl) dX6_kind_28 ⟨Nat.le_of_ble_eq_true rfl, Nat.le_of_ble_eq_true rfl⟩ hex hlk (Nat.le_of_ble_eq_true rfl) (Nat.le_of_ble_eq_true rfl) (fun E H1 hE => ⟨Or.inl (⟨hE.1.1, (by simp only [cd_kind]; exact cif_f (fun v => hE.1.2 v.2.2))⟩), hE.2⟩) (fun h28_0 h28_1 h28_2 H locs hG hS => ?_)
      refine o_aload_n hx hb dX6_kind_31 hl rfl ?_
      refine g_get hC hG us_X6 rfl 2 (by decide) fl_X6_19 V_games rfl dX6_kind_32 ?_
      refine k_Jx4a65c_size_8abf5 (q := 2) hC hS hG (by omega) ml_X6_33 ⟨Nat.le_of_ble_eq_true rfl, Nat.le_of_ble_eq_true rfl⟩ hl.1 (Nat.le_of_ble_eq_true rfl) dX6_kind_35 ⟨Nat.le_of_ble_eq_true rfl, Nat.le_of_ble_eq_true rfl⟩ ?_
      refine lv_bipush (v := 8) hx hb dX6_kind_38 (by decide) ?_
      refine n_icmp_lt (tgt := 53) hx hb (n 2) 8 rfl rfl (by omega) (by omega) dX6_kind_40 (by decide) (fun h40 => ?_) (fun h40 => ?_)
      · skip
        refine g_new hC hG hS us_X4 tyX4_ok cl_X6_111 is_X4 in_X4 (ci := 5) rfl (fs := [.int 0, .int 0, .int 0, .int 0, .int 0, .int 0]) vp_fresh_X4 (Nat.le_of_ble_eq_true rfl) (Nat.le_of_ble_eq_true rfl) 7 (n 6) 0 (show (Vw cy de ad S n T k th X) 7 (n 6) 0 = none from (V_no (by omega))) dX6_kind_53 (fun q53 H hG hS => ?_)
        obtain ⟨ad1, had1⟩ : ∃ z, z = up3 ad 7 (n 6) 0 q53 := ⟨_, rfl⟩
        rw [← had1] at hG
        have ead1_0_0_0 : ad1 0 0 0 = ad 0 0 0 := by rw [had1]; exact (up3_ne (by omega)).trans rfl
        have ead1_1_0_0 : ad1 1 0 0 = ad 1 0 0 := by rw [had1]; exact (up3_ne (by omega)).trans rfl
        have ead1_1_1_0 : ad1 1 1 0 = ad 1 1 0 := by rw [had1]; exact (up3_ne (by omega)).trans rfl
        have ead1_1_2_0 : ad1 1 2 0 = ad 1 2 0 := by rw [had1]; exact (up3_ne (by omega)).trans rfl
        have ead1_1_3_0 : ad1 1 3 0 = ad 1 3 0 := by rw [had1]; exact (up3_ne (by omega)).trans rfl
        have ead1_7_n6_0 : ad1 7 (n 6) 0 = q53 := by rw [had1]; exact up3_self
        refine lv_dup hx hb dX6_kind_56 rfl ?_
        refine o_aload_n hx hb dX6_kind_57 hl rfl ?_
        refine bn_0 ead1_0_0_0 ?_
        refine g_get hC hG us_X6 rfl 2 (by decide) fl_X6_19 (show (up3 (Vw cy de ad S n T k th X) 7 (n 6) 0 (some (.inr (5, [.int 0, .int 0, .int 0, .int 0, .int 0, .int 0])))) 0 0 0 = some (.inr (7, [.ref (ad 1 0 0), .ref (ad 1 1 0), .ref (ad 1 2 0), .ref (ad 1 3 0), .ref (ad 12 0 0), .int (S 23 0 0)])) from (up3_ne (by omega)).trans (V_games)) rfl dX6_kind_58 ?_
        refine k_size0 (q := 2) (mo := S 0 2 0) (dd := if n 2 = 0 then de else ad 2 2 0) hC hS hG ⟨ead1_1_2_0, (show (up3 (Vw cy de ad S n T k th X) 7 (n 6) 0 (some (.inr (5, [.int 0, .int 0, .int 0, .int 0, .int 0, .int 0])))) 1 2 0 = _ from (up3_ne (by omega)).trans (V_list (by decide)))⟩ ml_X6_33 ⟨Nat.le_of_ble_eq_true rfl, Nat.le_of_ble_eq_true rfl⟩ hl.1 (Nat.le_of_ble_eq_true rfl) dX6_kind_61 ⟨Nat.le_of_ble_eq_true rfl, Nat.le_of_ble_eq_true rfl⟩ ?_
        refine bi_0 (show nI (n 6) = nI (n 2) by rw [hB6]) ?_
        refine o_iload_n hx hb dX6_kind_64 hl rfl ?_
        refine o_iload_n hx hb dX6_kind_65 hl rfl ?_
        refine k_X4_init (t := 7) (i := n 6) (j := 0) hC hS hG ⟨ead1_7_n6_0, (show (up3 (Vw cy de ad S n T k th X) 7 (n 6) 0 (some (.inr (5, [.int 0, .int 0, .int 0, .int 0, .int 0, .int 0])))) 7 (n 6) 0 = some (.inr (5, [.int 0, .int 0, .int 0, .int 0, .int 0, .int 0])) from up3_self)⟩ ml_X6_113 ⟨Nat.le_of_ble_eq_true rfl, Nat.le_of_ble_eq_true rfl⟩ hl.1 (Nat.le_of_ble_eq_true rfl) dX6_kind_66 ⟨Nat.le_of_ble_eq_true rfl, Nat.le_of_ble_eq_true rfl⟩ (fun H locs hG hS => ?_)
        rw [up3_up3] at hG
        have hG := GW_ki (S2 := ki0 S (n 6) (nI a1) y) hW had1 hG (by unfold ki0; rw [up3_ne (by omega), up3_ne (by omega), up3_ne (by omega), up3_ne (by omega), up3_self]) (by unfold ki0; rw [up3_ne (by omega), up3_ne (by omega), up3_ne (by omega), up3_self]) (by unfold ki0; rw [up3_ne (by omega), up3_ne (by omega), up3_self]) (by unfold ki0; rw [up3_ne (by omega), up3_self]) up3_self ki0_S rfl rfl
        refine o_astore (x := q53) hx hb dX6_kind_69 hl (by decide) rfl (fun ls hl => ?_)
        refine o_aload hx hb dX6_kind_71 hl rfl ?_
        refine o_iload_n hx hb dX6_kind_73 hl rfl ?_
        refine o_iload hx hb dX6_kind_74 hl rfl ?_
        refine bn_2 ead1_7_n6_0 ?_
        refine k_X4_drawBounds (q := n 6) hC hS hG (by show n 6 < nO n 2 6; rw [show nO n 2 6 = n 6 + 1 from nO_s]; omega) ml_X6_116 ⟨Nat.le_of_ble_eq_true rfl, Nat.le_of_ble_eq_true rfl⟩ hl.1 (Nat.le_of_ble_eq_true rfl) dX6_kind_76 ⟨Nat.le_of_ble_eq_true rfl, Nat.le_of_ble_eq_true rfl⟩ (fun H locs hG hS => ?_)
        rw [ki0_dr (hD1 (n 6) (by omega))] at hG
        refine o_aload_n hx hb dX6_kind_79 hl rfl ?_
        refine bn_0 ead1_0_0_0 ?_
        refine g_get hC hG us_X6 rfl 2 (by decide) fl_X6_19 V_games rfl dX6_kind_80 ?_
        refine o_aload hx hb dX6_kind_83 hl rfl ?_
        have hnq : nO n 2 2 = n 6 := (nO_o (by decide)).trans hB6.symm
        have hnq4 : nO n 2 6 = n 6 + 1 := nO_s
        have eob : ad1 7 (nO n 2 2) 0 = q53 := by rw [hnq]; exact ead1_7_n6_0
        refine bn_e eob rfl ?_
        have hle0 : nO n 2 0 ≤ nO n 2 4 := nO_le (by decide) hB4
        have hle1 : nO n 2 1 ≤ nO n 2 5 := nO_le (by decide) hB5
        have hle2 : nO n 2 2 ≤ nO n 2 6 := nO_le (by decide) hB6
        have hle3 : nO n 2 3 ≤ nO n 2 7 := nO_le (by decide) hB7
        refine k_Jx4a65c_add_9ea2d (t2 := 2) (i2 := 2) (j2 := 0) (w := nO n 2 2) hC hS hG ⟨⟨V_list (by decide), V_dif (by decide)⟩, by omega, ok_data (by decide) hle0 hle1 hle2 hle3, fData_end, (V_X (by decide)).trans hX19, by decide, by decide, by decide, V_kind (by omega), (show vwCl[5]? = some (RX4, TX4, 6) from rfl), by decide, by omega, by omega⟩ ml_X6_49 ⟨Nat.le_of_ble_eq_true rfl, Nat.le_of_ble_eq_true rfl⟩ hl.1 (Nat.le_of_ble_eq_true rfl) dX6_kind_85 ⟨Nat.le_of_ble_eq_true rfl, Nat.le_of_ble_eq_true rfl⟩ (fun r9 H locs hp hS => ?_)
        obtain ⟨rfl, q9, hG⟩ := hp
        obtain ⟨ad9, h9⟩ : ∃ z, z = up3 ad1 2 2 0 q9 := ⟨_, rfl⟩
        rw [← h9] at hG
        have hG := GW_list (by decide) h9 hG
        have hG : GW D B ad9 (Vw cy de ad9 (kiS S (n 2) (nI a1) y z w) (nUp n 2) T k th X) H := by
          rw [nL_nO hB6] at hG
          rw [show kiM S (n 6) (nI a1) y z w 0 2 0 = S 0 2 0 by unfold kiM; rw [up3_ne (by omega), up3_ne (by omega), up3_ne (by omega), up3_ne (by omega)], hB6] at hG; exact hG
        have hag : Ag ad ad9 := by rw [h9, had1]; exact (Ag.rf.up (by decide)).up (by decide)
        have e00 : ad9 0 0 0 = ad 0 0 0 := by rw [hag 0 (Or.inl rfl)]
        refine lv_pop hx hb dX6_kind_88 rfl ?_
        refine o_aload hx hb dX6_kind_89 hl rfl ?_
        have eo9 : ad9 7 (n 6) 0 = q53 := by rw [h9]; exact (up3_ne (by omega)).trans ead1_7_n6_0
        refine bn_0 eo9 ?_
        refine g_get hC hG us_X4 rfl 0 (by decide) fl_X6_119 (V_kind (by show n 6 < n 2 + 1; omega)) rfl dX6_kind_91 ?_
        refine bi_0 (show nI (n 2) = nI (n 6) by rw [hB6]) ?_
        refine vx_ret ?_
        exact R_I hC hS hr hlk rfl (⟨(by simp only [cd_kind]; exact (cif_t ⟨ix_nI h1_0, ⟨Int32.not_lt.mp h6, h12⟩, h28_0, h28_1, h28_2⟩).trans (cif_t h40)), rfl, ad9, hag, hG⟩) (Nat.le_of_ble_eq_true rfl) (Nat.le_of_ble_eq_true rfl) dX6_kind_94
      · skip
        exact thr_IS hC hfl hS hG hex hlk hl.1 (si := 10) rfl dX6_kind_43 dX6_kind_46 dX6_kind_47 dX6_kind_49 dX6_kind_52 (Nat.le_of_ble_eq_true rfl) (Nat.le_of_ble_eq_true rfl) (Nat.le_of_ble_eq_true rfl) (Nat.le_of_ble_eq_true rfl) (fun H1 hG1 => ⟨Or.inr (⟨rfl, (by simp only [cd_kind]; exact (cif_t ⟨ix_nI h1_0, ⟨Int32.not_lt.mp h6, h12⟩, h28_0, h28_1, h28_2⟩).trans (cif_f (by omega)))⟩), hG1⟩) (Nat.le_of_ble_eq_true rfl) (Nat.le_of_ble_eq_true rfl)
    · skip
      exact thr_IA hC hfl hS hG hex hlk hl.1 (si := 8) rfl dX6_kind_15 dX6_kind_18 dX6_kind_19 dX6_kind_21 dX6_kind_24 (Nat.le_of_ble_eq_true rfl) (Nat.le_of_ble_eq_true rfl) (Nat.le_of_ble_eq_true rfl) (Nat.le_of_ble_eq_true rfl) (fun H1 hG1 => ⟨Or.inl (⟨rfl, (by simp only [cd_kind]; exact cif_f (fun v => by first | exact absurd h6 (Int32.not_lt.mpr v.2.1.1) | exact h12 v.2.1.2))⟩), hG1⟩) (Nat.le_of_ble_eq_true rfl) (Nat.le_of_ble_eq_true rfl)
theorem k_X6_kind {p : Program} {l : Launch} {e : Env} {R : Room} {s : State} {m : MethodId} {args : Array Value} {below : List Frame} {meth : Method} {c : Code} {H : Heap} {locs : List Loc} {cells slots : Nat} {cc : ByteArray} {pc nL : Nat} {ls : Array Slot} {rest : List Value} {own : String} {D : va_G} {cy : Nat → ClassId} {sa : Nat → Nat} {de B : Nat} {ad : Ad} {S : St} {n : Nat → Nat} {T : St} {k : Nat → Nat} {th : Int32} {X : Rl} {x y z w : Int32} {mcc mss : Nat} {Qc : Array Value → State → Outcome → State → Prop} {GX : String → Heap → Prop} (hfl : l.stackTraces = false)  (hC : Cx p m c cc nL s args own D cy sa de B) (hS : va_S (AB B) s.heap H locs) (hG : GW D B ad (Vw cy de ad S n T k th X) H) (h0 : Inv S n ∧ X 19 0 0 = none)  {idx : Nat} (wl : Cond.methodLink own idx yX6_kind ∈ G0) (hR : 8 + 1 ≤ R.frames ∧ 8 + (6 + 11) + 191 ≤ R.locals) (hsz : ls.size = nL) (hst : (rest.map fun v => v.category).sum ≤ 8) (hdg : decode cc pc = .ok (.invokevirtual idx, 3)) (hcs : cells + 4 ≤ R.cells ∧ slots + 40 ≤ R.slots) (hex : ∀ x ∈ c.exceptionTable.toList, False) (hlk : meth.locks = false) (hmc : cells + 4 ≤ mcc) (hms : slots + 40 ≤ mss) (hxx : ∀ (E : String) (H1 : Heap), ((fun E H => ((E = "java/lang/IllegalArgumentException" ∧ cd_kind n x y z w = 1) ∨ (E = "java/lang/IllegalStateException" ∧ cd_kind n x y z w = 2)) ∧ GW D B ad (Vw cy de ad S n T k th X) H)) E H1 → GX E H1) (kk : ∀ (r9 : Int32) (H1 : Heap) (locs1 : List Loc), ((fun r H => cd_kind n x y z w = 0 ∧ r = nI (n 2) ∧ ∃ ad9, Ag ad ad9 ∧ GW D B ad9 (Vw cy de ad9 (kiS S (n 2) x y z w) (nUp n 2) T k th X) H)) r9 H1 → va_S (AB B) s.heap H1 locs1 → W p l e R s m args below meth c H1 locs1 (cells + 4) (slots + 40) (vx_MQ below Qc (oX B GX) args s mcc mss (AB B)) (F0 m (pc + 3) ls (.int r9 :: rest))) : W p l e R s m args below meth c H locs cells slots (vx_MQ below Qc (oX B GX) args s mcc mss (AB B)) (F0 m pc ls (.int w :: .int z :: .int y :: .int x :: .ref (ad 0 0 0) :: rest)) :=
  vx_calli (xV hC hS hG h0 (As := [.int x, .int y, .int z, .int w]) (c_X6_kind l hfl) ⟨rfl, rfl⟩ wl im_X6_kind sl_X6_X6_kind in_X6 cd_X6_kind (n := 4) (by decide +kernel) hR (recv hC hG (q := (RX6, TX6, 6)) rfl V_games) rfl hsz hst rfl hdg hcs) hS (fun _ _ h => h) (fun _ h => h) (fun _ _ h => h) (fun E ce q9 u t H1 locs1 ht hv hp hB hz hq hS1 hce hcv hcl => prop_out hS1 hex hlk (hxx E H1 (by (try dsimp only at hB); rw [ht] at hB; exact hB)) hce hcv hcl hmc hms) (fun r u t H1 locs1 ht _ hr hB _ _ hS1 => by subst hr; exact kk r H1 locs1 (by (try dsimp only at hB); rw [ht] at hB; exact hB) hS1)