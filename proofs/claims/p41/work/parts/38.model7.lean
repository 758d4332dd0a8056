set_option maxHeartbeats 4000000 in
set_option maxRecDepth 100000 in
theorem c_X6_meanLack (l : Launch) (hfl : l.stackTraces = false) {D : va_G} {cy : Nat → ClassId} {sa : Nat → Nat} {de B : Nat} {ad : Ad} {S : St} {n : Nat → Nat} {T : St} {k : Nat → Nat} {th : Int32} {X : Rl} {x : Int32}  : vx_Met l yX6_meanLack (Cond.code yX6_meanLack cX6_meanLack 2 (Option.some Jvm.ClassFile.FieldType.double) :: G0) ({ frames := 7, cells := 1, slots := 6, locals := 103 } : Room) (va_Pc [.ref (ad 0 0 0), .int x] (PW D cy sa de B ad (Vw cy de ad S n T k th X) (Inv S n))) (oD B (fun r H => (cd_ath n x = 0 ∧ r = (vl_mean S (ci x)) ∧ GW D B ad (Vw cy de ad S n T k th X) H))) (oX B (fun E H => ((E = "java/lang/IndexOutOfBoundsException" ∧ cd_ath n x = 1)) ∧ GW D B ad (Vw cy de ad S n T k th X) H)) 1 6 (AB B) := by
  refine E_vx (own := RX6) rfl rfl (Nat.le_of_ble_eq_true rfl) ?_
  intro p e s m below meth c hC hr hlk hex hG h0 ls hl
  have hx := hC.x
  have hb := hC.b
  have hS : va_S (AB B) s.heap s.heap [] := va_S.rf
  have hl : lo ls 2 [some (.ref (ad 0 0 0)), some (.int x)] := lo_of hl
  have hI := h0
  obtain ⟨hCI, hD0, hD1, hD2, hB01, hF30, hK8, hMK, hU1, hU2, hS10, hEO, hCF, hFT, hME, hYR, hEK, hLA⟩ := h0
  obtain ⟨hW, hNE, hCH, hBL⟩ := hCI
  have hW9 := hW
  obtain ⟨hB0, hB1, hB2, hB3, hB4, hB5, hB6, hB7, hKI, hEI, hKY⟩ := hW9
  have hMB : MB n := ⟨hB0, hB1, hB2, by omega⟩
  have hKYm : KYm S n := hKY
  refine o_aload_n hx hb dX6_meanLack_0 hl rfl ?_
  refine o_iload_n hx hb dX6_meanLack_1 hl rfl ?_
  refine k_X6_needAthlete hfl hC hS hG hW ml_X6_53 ⟨Nat.le_of_ble_eq_true rfl, Nat.le_of_ble_eq_true rfl⟩ hl.1 (Nat.le_of_ble_eq_true rfl) dX6_meanLack_2 ⟨Nat.le_of_ble_eq_true rfl, Nat.le_of_ble_eq_true rfl⟩ hex hlk (Nat.le_of_ble_eq_true rfl) (Nat.le_of_ble_eq_true rfl) (fun E H1 hE => ⟨⟨hE.1.1, (by simp only [cd_ath]; exact cif_f hE.1.2)⟩, hE.2⟩) (fun a2 h2_0 h2_1 H locs hG hS => ?_)
  subst h2_1
  have z2 : ci (nI a2) = a2 := nI_clamp (by omega)
  refine g_get hC hG us_X0 rfl 2 (by decide) fl_X6_65 (V_ath (by omega)) rfl dX6_meanLack_5 ?_
  refine k_X5_sumOfLacks hC hS hG ⟨by omega, by omega⟩ ml_X6_393 ⟨Nat.le_of_ble_eq_true rfl, Nat.le_of_ble_eq_true rfl⟩ hl.1 (Nat.le_of_ble_eq_true rfl) dX6_meanLack_8 ⟨Nat.le_of_ble_eq_true rfl, Nat.le_of_ble_eq_true rfl⟩ ?_
  refine lv_i2d hx hb dX6_meanLack_11 ?_
  refine lv_ldc2d hx hb hC.o (hC.t _ ct_X6_396) dX6_meanLack_12 ?_
  refine lv_ddiv hx hb dX6_meanLack_15 (mean_ok (fun y hy => (hME a2 y h2_0 hy).1)) ?_
  refine vx_ret ?_
  exact R_D hC hS hr hlk (⟨(by simp only [cd_ath]; exact cif_t (ix_nI h2_0)), (by rw [z2]; rfl), (by exact hG)⟩) (Nat.le_of_ble_eq_true rfl) (Nat.le_of_ble_eq_true rfl) dX6_meanLack_16
theorem k_X6_meanLack {p : Program} {l : Launch} {e : Env} {R : Room} {s : State} {m : MethodId} {args : Array Value} {below : List Frame} {meth : Method} {c : Code} {H : Heap} {locs : List Loc} {cells slots : Nat} {cc : ByteArray} {pc nL : Nat} {ls : Array Slot} {rest : List Value} {own : String} {D : va_G} {cy : Nat → ClassId} {sa : Nat → Nat} {de B : Nat} {ad : Ad} {S : St} {n : Nat → Nat} {T : St} {k : Nat → Nat} {th : Int32} {X : Rl} {x : Int32} {mcc mss : Nat} {Qc : Array Value → State → Outcome → State → Prop} {GX : String → Heap → Prop} (hfl : l.stackTraces = false)  (hC : Cx p m c cc nL s args own D cy sa de B) (hS : va_S (AB B) s.heap H locs) (hG : GW D B ad (Vw cy de ad S n T k th X) H) (h0 : Inv S n)  {idx : Nat} (wl : Cond.methodLink own idx yX6_meanLack ∈ G0) (hR : 7 + 1 ≤ R.frames ∧ 8 + (2 + 11) + 103 ≤ R.locals) (hsz : ls.size = nL) (hst : (rest.map fun v => v.category).sum ≤ 8) (hdg : decode cc pc = .ok (.invokevirtual idx, 3)) (hcs : cells + 1 ≤ R.cells ∧ slots + 6 ≤ R.slots) (hex : ∀ x ∈ c.exceptionTable.toList, False) (hlk : meth.locks = false) (hmc : cells + 1 ≤ mcc) (hms : slots + 6 ≤ mss) (hxx : ∀ (E : String) (H1 : Heap), ((fun E H => ((E = "java/lang/IndexOutOfBoundsException" ∧ cd_ath n x = 1)) ∧ GW D B ad (Vw cy de ad S n T k th X) H)) E H1 → GX E H1) (k0 : (cd_ath n x = 0) → ∀ (H1 : Heap) (locs1 : List Loc), GW D B ad (Vw cy de ad S n T k th X) H1 → va_S (AB B) s.heap H1 locs1 → W p l e R s m args below meth c H1 locs1 (cells + 1) (slots + 6) (vx_MQ below Qc (oX B GX) args s mcc mss (AB B)) (F0 m (pc + 3) ls (.double (vl_mean S (ci x)) :: rest))) : W p l e R s m args below meth c H locs cells slots (vx_MQ below Qc (oX B GX) args s mcc mss (AB B)) (F0 m pc ls (.int x :: .ref (ad 0 0 0) :: rest)) :=
  vx_calld (xV hC hS hG h0 (As := [.int x]) (c_X6_meanLack l hfl) ⟨rfl, rfl⟩ wl im_X6_meanLack sl_X6_X6_meanLack in_X6 cd_X6_meanLack (n := 1) (by decide +kernel) hR (recv hC hG (q := (RX6, TX6, 6)) rfl V_games) rfl hsz hst rfl hdg hcs) hS (fun _ _ h => h) (fun _ h => h) (fun _ _ h => h) (fun E ce q9 u t H1 locs1 ht hv hp hB hz hq hS1 hce hcv hcl => prop_out hS1 hex hlk (hxx E H1 (by dsimp only at hB; rw [ht] at hB; exact hB)) hce hcv hcl hmc hms) (fun r u t H1 locs1 ht _ hr hB _ _ hS1 => by
      subst hr
      have hB9 := hB; try dsimp only at hB9
      rw [ht] at hB9
      rcases hB9 with ⟨q0, rfl, hG1⟩
      · exact k0 q0 _ _ hG1 hS1)