set_option maxHeartbeats 4000000 in
set_option maxRecDepth 100000 in
theorem c_X6_isSound (l : Launch) {D : va_G} {cy : Nat → ClassId} {sa : Nat → Nat} {de B : Nat} {ad : Ad} {S : St} {n : Nat → Nat} {T : St} {k : Nat → Nat} {th : Int32} {X : Rl}   : Met l yX6_isSound (Cond.code yX6_isSound cX6_isSound 2 (Option.some Jvm.ClassFile.FieldType.boolean) :: G0) ({ frames := 4, cells := 0, slots := 0, locals := 84 } : Room) (va_Pc [.ref (ad 0 0 0)] (PW D cy sa de B ad (Vw cy de ad S n T k th X) (CI S n))) (vp_Si (fun r => (r = 1 ∧ soundP S n) ∨ (r = 0 ∧ ¬ soundP S n))) 0 0 (fun _ => False) := by
  refine E_met (own := RX6) rfl rfl (Nat.le_of_ble_eq_true rfl) ?_
  intro p e s m below meth c hC hr hlk hnm hG h0 ls hl
  have hx := hC.x
  have hb := hC.b
  have hS : va_S (AB B) s.heap s.heap [] := va_S.rf
  have hl : lo ls 2 [some (.ref (ad 0 0 0)), none] := lo_of hl
  obtain ⟨hW, hNE, hCH, hBL⟩ := h0
  have hW9 := hW
  obtain ⟨hB0, hB1, hB2, hB3, hB4, hB5, hB6, hB7, hKI, hEI, hKY⟩ := hW9
  
  refine lv_iconst (v := 0) hx hb dX6_isSound_0 (by decide) ?_
  refine o_istore_n hx hb dX6_isSound_1 hl (by decide) rfl (fun ls hl => ?_)
  have loop2 : ∀ (q9 : Nat) (y : Nat), y ≤ n 0 ∧ n 0 < y + q9 → (∀ z, z < y → okA S z) → ∀ ls : Array Slot, lo ls 2 [some (.ref (ad 0 0 0)), some (.int (nI y))] → W p l e ({ frames := 4, cells := 0, slots := 0, locals := 84 } : Room) s m [.ref (ad 0 0 0)].toArray below meth c s.heap [] 0 0 (MQ below (vp_Si (fun r => (r = 1 ∧ soundP S n) ∨ (r = 0 ∧ ¬ soundP S n))) [.ref (ad 0 0 0)].toArray s 0 0 (fun _ => False)) (F0 m 2 ls []) := by
    intro q9
    induction q9 with
    | zero => intro y hq9; exact absurd hq9 (by omega)
    | succ q9 ih2 =>
      intro y hq9 hn  ls hl
      refine o_iload_n hx hb dX6_isSound_2 hl rfl ?_
      refine o_aload_n hx hb dX6_isSound_3 hl rfl ?_
      refine g_get hC hG us_X6 rfl 0 (by decide) fl_X6_10 V_games rfl dX6_isSound_4 ?_
      refine k_Jx4a65c_size_8abf5 (q := 0) hC hS hG (by omega) ml_X6_33 ⟨Nat.le_of_ble_eq_true rfl, Nat.le_of_ble_eq_true rfl⟩ hl.1 (Nat.le_of_ble_eq_true rfl) dX6_isSound_7 ⟨Nat.le_of_ble_eq_true rfl, Nat.le_of_ble_eq_true rfl⟩ ?_
      refine n_icmp_ge (tgt := 38) hx hb y (n 0) rfl rfl (by omega) (by omega) dX6_isSound_10 (by decide) (fun h10 => ?_) (fun h10 => ?_)
      · skip
        refine lv_iconst (v := 0) hx hb dX6_isSound_38 (by decide) ?_
        refine o_istore_n hx hb dX6_isSound_39 hl (by decide) rfl (fun ls hl => ?_)
        have loop40 : ∀ (q9 : Nat) (w : Nat), w ≤ n 3 ∧ n 3 < w + q9 → (∀ z, z < w → ∀ a, a < 16 → ¬ badE S z a) → ∀ ls : Array Slot, lo ls 2 [some (.ref (ad 0 0 0)), some (.int (nI w))] → W p l e ({ frames := 4, cells := 0, slots := 0, locals := 84 } : Room) s m [.ref (ad 0 0 0)].toArray below meth c s.heap [] 0 0 (MQ below (vp_Si (fun r => (r = 1 ∧ soundP S n) ∨ (r = 0 ∧ ¬ soundP S n))) [.ref (ad 0 0 0)].toArray s 0 0 (fun _ => False)) (F0 m 40 ls []) := by
          intro q9
          induction q9 with
          | zero => intro w hq9; exact absurd hq9 (by omega)
          | succ q9 ih40 =>
            intro w hq9 hm  ls hl
            refine o_iload_n hx hb dX6_isSound_40 hl rfl ?_
            refine o_aload_n hx hb dX6_isSound_41 hl rfl ?_
            refine g_get hC hG us_X6 rfl 3 (by decide) fl_X6_22 V_games rfl dX6_isSound_42 ?_
            refine k_Jx4a65c_size_8abf5 (q := 3) hC hS hG (by omega) ml_X6_33 ⟨Nat.le_of_ble_eq_true rfl, Nat.le_of_ble_eq_true rfl⟩ hl.1 (Nat.le_of_ble_eq_true rfl) dX6_isSound_45 ⟨Nat.le_of_ble_eq_true rfl, Nat.le_of_ble_eq_true rfl⟩ ?_
            refine n_icmp_ge (tgt := 76) hx hb w (n 3) rfl rfl (by omega) (by omega) dX6_isSound_48 (by decide) (fun h48 => ?_) (fun h48 => ?_)
            · skip
              refine lv_iconst (v := 1) hx hb dX6_isSound_76 (by decide) ?_
              exact R_i hC hr hlk rfl (Or.inl ⟨rfl, fun i hi => hn i (by omega), fun e he => hm e (by omega)⟩) dX6_isSound_77
            · exact absurd h48 (by omega)
        exact loop40 (n 3 + 1) 0 (by omega) (fun _ h => absurd h (Nat.not_lt_zero _)) ls hl
      · skip
        refine o_aload_n hx hb dX6_isSound_13 hl rfl ?_
        refine g_get hC hG us_X6 rfl 0 (by decide) fl_X6_10 V_games rfl dX6_isSound_14 ?_
        refine o_iload_n hx hb dX6_isSound_17 hl rfl ?_
        refine k_Jx4a65c_get_915e3 (q := 0) hC hS hG ⟨by omega, by omega, by omega⟩ (show elT 0 = 3 from rfl) ml_X6_185 ⟨Nat.le_of_ble_eq_true rfl, Nat.le_of_ble_eq_true rfl⟩ hl.1 (Nat.le_of_ble_eq_true rfl) dX6_isSound_18 ⟨Nat.le_of_ble_eq_true rfl, Nat.le_of_ble_eq_true rfl⟩ ?_
        refine va_castS hx hb hC.o (hC.t _ cl_X6_44) (hC.K.1 1 _ rfl).2 (recv hC hG (q := (RX0, TX0, 10)) rfl (V_ath (by omega))) dX6_isSound_21 ?_
        refine k_X0_isInOrder hC hS hG ⟨by omega, hW⟩ ml_X6_398 ⟨Nat.le_of_ble_eq_true rfl, Nat.le_of_ble_eq_true rfl⟩ hl.1 (Nat.le_of_ble_eq_true rfl) dX6_isSound_24 ⟨Nat.le_of_ble_eq_true rfl, Nat.le_of_ble_eq_true rfl⟩ (fun h24 => ?_) (fun h24 => ?_)
        · skip
          refine lv_if_ne (tgt := 32) hx hb dX6_isSound_27 (by decide) (fun h27 => ?_) (fun h27 => ?_)
          · skip
            refine o_iinc1 hx hb dX6_isSound_32 hl rfl (by decide) rfl (fun ls hl => ?_)
            refine lv_goto (tgt := 2) hx hb dX6_isSound_35 (by decide) ?_
            exact ih2 (y + 1) (by omega) (fun z hz => (Nat.lt_or_ge z y).elim (hn z) (fun h => by rw [show z = y by omega]; exact h24)) ls hl
          · exact absurd h27 (by decide)
        · skip
          refine lv_if_ne (tgt := 32) hx hb dX6_isSound_27 (by decide) (fun h27 => ?_) (fun h27 => ?_)
          · exact absurd h27 (by decide)
          · skip
            refine lv_iconst (v := 0) hx hb dX6_isSound_30 (by decide) ?_
            exact R_i hC hr hlk rfl (Or.inr ⟨rfl, fun z => h24 (z.1 y (by omega))⟩) dX6_isSound_31
  exact loop2 (n 0 + 1) 0 (by omega) (fun _ h => absurd h (Nat.not_lt_zero _)) ls hl
theorem k_X6_isSound {p : Program} {l : Launch} {e : Env} {R : Room} {s : State} {m : MethodId} {args : Array Value} {below : List Frame} {meth : Method} {c : Code} {H : Heap} {locs : List Loc} {cells slots : Nat} {Q : State → Prop} {cc : ByteArray} {pc nL : Nat} {ls : Array Slot} {rest : List Value} {own : String} {D : va_G} {cy : Nat → ClassId} {sa : Nat → Nat} {de B : Nat} {ad : Ad} {S : St} {n : Nat → Nat} {T : St} {k : Nat → Nat} {th : Int32} {X : Rl}   (hC : Cx p m c cc nL s args own D cy sa de B) (hS : va_S (AB B) s.heap H locs) (hG : GW D B ad (Vw cy de ad S n T k th X) H) (h0 : CI S n)  {idx : Nat} (wl : Cond.methodLink own idx yX6_isSound ∈ G0) (hR : 4 + 1 ≤ R.frames ∧ 8 + (2 + 11) + 84 ≤ R.locals) (hsz : ls.size = nL) (hst : (rest.map fun v => v.category).sum ≤ 8) (hdg : decode cc pc = .ok (.invokevirtual idx, 3)) (hcs : cells + 0 ≤ R.cells ∧ slots + 0 ≤ R.slots) (kt : (soundP S n) → W p l e R s m args below meth c H locs cells slots Q (F0 m (pc + 3) ls (.int 1 :: rest))) (kf : ¬ (soundP S n) → W p l e R s m args below meth c H locs cells slots Q (F0 m (pc + 3) ls (.int 0 :: rest))) : W p l e R s m args below meth c H locs cells slots Q (F0 m pc ls (.ref (ad 0 0 0) :: rest)) :=
  vp_callSi (va_Run.run (rV hC hS hG h0 (As := []) (c_X6_isSound l) ⟨rfl, rfl⟩ wl im_X6_isSound sl_X6_X6_isSound in_X6 cd_X6_isSound (n := 0) (by decide +kernel) hR (recv hC hG (q := (RX6, TX6, 6)) rfl V_games) rfl hsz hst rfl hdg hcs)) (fun r hr => by rcases hr with ⟨rfl, hp⟩ | ⟨rfl, hp⟩; exact kt hp; exact kf hp)
