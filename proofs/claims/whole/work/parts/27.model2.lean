set_option maxHeartbeats 4000000 in
set_option maxRecDepth 100000 in
theorem c_X7_isWithin (l : Launch) {D : va_G} {cy : Nat → ClassId} {sa : Nat → Nat} {de B : Nat} {ad : Ad} {S : St} {n : Nat → Nat} {T : St} {k : Nat → Nat} {th : Int32} {X : Rl} {q f a : Nat} {g : Nat → Int32}  : Met l yX7_isWithin (Cond.code yX7_isWithin cX7_isWithin 8 (Option.some Jvm.ClassFile.FieldType.boolean) :: G0) ({ frames := 1, cells := 0, slots := 0, locals := 22 } : Room) (va_Pc [.ref (ad 13 0 0), .int (nI q), .ref (ad 15 f a)] (PW D cy sa de B ad (Vw cy de ad S n T k th X) (q < k 2 ∧ MB k ∧ a < 16 ∧ KYm T k ∧ ((f = 1 ∧ g = T 6 a) ∨ (f = 3 ∧ g = T 30 a))))) (vp_Si (fun r => (r = 1 ∧ (holdsP T q g)) ∨ (r = 0 ∧ ¬ (holdsP T q g)))) 0 0 (fun _ => False) := by
  refine E_met (own := RX7) rfl rfl (Nat.le_of_ble_eq_true rfl) ?_
  intro p e s m below meth c hC hr hlk hnm hG h0 ls hl
  have hx := hC.x
  have hb := hC.b
  have hS : va_S (AB B) s.heap s.heap [] := va_S.rf
  have hl : lo ls 8 [some (.ref (ad 13 0 0)), some (.int (nI q)), some (.ref (ad 15 f a)), none, none, none, none, none] := lo_of hl
  obtain ⟨hq, hMB, ha, hKYm, hfg⟩ := h0
  obtain ⟨hM0, hM1, hM2, hM3⟩ := hMB
  obtain ⟨y0, hy0, hky⟩ := hKYm q hq
  have z0 : (T 13 q 0).toNatClampNeg = y0 := by rw [hky]; exact nI_clamp (by omega)
  rcases hfg with ⟨rfl, rfl⟩ | ⟨rfl, rfl⟩
  · skip
    skip
    refine lv_iconst (v := 0) hx hb dX7_isWithin_0 (by decide) ?_
    refine o_istore_n hx hb dX7_isWithin_1 hl (by decide) rfl (fun ls hl => ?_)
    refine o_aload_n hx hb dX7_isWithin_2 hl rfl ?_
    refine o_astore hx hb dX7_isWithin_3 hl (by decide) rfl (fun ls hl => ?_)
    refine o_aload hx hb dX7_isWithin_5 hl rfl ?_
    refine g_alen hC hG 0 rfl (V_r1 (by omega)) (v := nI 5) rfl dX7_isWithin_7 ?_
    refine o_istore hx hb dX7_isWithin_8 hl (by decide) rfl (fun ls hl => ?_)
    refine lv_iconst (v := 0) hx hb dX7_isWithin_10 (by decide) ?_
    refine o_istore hx hb dX7_isWithin_11 hl (by decide) rfl (fun ls hl => ?_)
    have loop13 : ∀ (q9 : Nat) (y : Nat), y ≤ 5 ∧ 5 < y + q9 → ∀ ls : Array Slot, lo ls 8 [some (.ref (ad 13 0 0)), some (.int (nI q)), some (.ref (ad 15 1 a)), some (.int (sumLk (T 6 a) y)), some (.ref (ad 15 1 a)), some (.int (nI 5)), some (.int (nI y)), none] → W p l e ({ frames := 1, cells := 0, slots := 0, locals := 22 } : Room) s m [.ref (ad 13 0 0), .int (nI q), .ref (ad 15 1 a)].toArray below meth c s.heap [] 0 0 (MQ below (vp_Si (fun r => (r = 1 ∧ (holdsP T q (T 6 a))) ∨ (r = 0 ∧ ¬ (holdsP T q (T 6 a))))) [.ref (ad 13 0 0), .int (nI q), .ref (ad 15 1 a)].toArray s 0 0 (fun _ => False)) (F0 m 13 ls []) := by
      intro q9
      induction q9 with
      | zero => intro y hq9; exact absurd hq9 (by omega)
      | succ q9 ih13 =>
        intro y hq9   ls hl
        refine o_iload hx hb dX7_isWithin_13 hl rfl ?_
        refine o_iload hx hb dX7_isWithin_15 hl rfl ?_
        refine n_icmp_ge (tgt := 41) hx hb y 5 rfl rfl (by omega) (by omega) dX7_isWithin_17 (by decide) (fun h17 => ?_) (fun h17 => ?_)
        · skip
          have hy5 : y = 5 := by omega
          subst hy5
          refine lv_bipush (v := 100) hx hb dX7_isWithin_41 (by decide) ?_
          refine o_aload_n hx hb dX7_isWithin_43 hl rfl ?_
          refine o_aload_n hx hb dX7_isWithin_44 hl rfl ?_
          refine g_get hC hG us_X7 rfl 10 (by decide) fl_X7_44 V_model rfl dX7_isWithin_45 ?_
          refine o_iload_n hx hb dX7_isWithin_48 hl rfl ?_
          refine g_aald hC hG 7 rfl rfl V_o10 _ rfl (by omega) (by omega) dX7_isWithin_49 ?_
          refine lv_iconst (v := 0) hx hb dX7_isWithin_50 (by decide) ?_
          refine g_iald hC hG (V_r10 (by omega)) 0 rfl (by omega) (by omega) dX7_isWithin_51 ?_
          refine g_iald hC hG (V_r1 (by omega)) y0 hky (by omega) (by omega) dX7_isWithin_52 ?_
          refine lv_isub hx hb dX7_isWithin_53 ?_
          refine o_aload_n hx hb dX7_isWithin_54 hl rfl ?_
          refine g_get hC hG us_X7 rfl 10 (by decide) fl_X7_44 V_model rfl dX7_isWithin_55 ?_
          refine o_iload_n hx hb dX7_isWithin_58 hl rfl ?_
          refine g_aald hC hG 7 rfl rfl V_o10 _ rfl (by omega) (by omega) dX7_isWithin_59 ?_
          refine lv_iconst (v := 1) hx hb dX7_isWithin_60 (by decide) ?_
          refine g_iald hC hG (V_r10 (by omega)) 1 rfl (by omega) (by omega) dX7_isWithin_61 ?_
          refine lv_icmp_lt (tgt := 92) hx hb dX7_isWithin_62 (by decide) (fun h62 => ?_) (fun h62 => ?_)
          · skip
            refine lv_iconst (v := 0) hx hb dX7_isWithin_92 (by decide) ?_
            exact R_i hC hr hlk rfl (by unfold holdsP; rw [z0]; first | exact Or.inl ⟨rfl, Int32.not_lt.mp h62, h82.1, h82.2⟩ | exact Or.inr ⟨rfl, fun z => h82 ⟨z.2.1, z.2.2⟩⟩ | exact Or.inr ⟨rfl, fun z => absurd h62 (Int32.not_lt.mpr z.1)⟩) dX7_isWithin_93
          · skip
            refine o_iload_n hx hb dX7_isWithin_65 hl rfl ?_
            refine o_aload_n hx hb dX7_isWithin_66 hl rfl ?_
            refine g_get hC hG us_X7 rfl 10 (by decide) fl_X7_44 V_model rfl dX7_isWithin_67 ?_
            refine o_iload_n hx hb dX7_isWithin_70 hl rfl ?_
            refine g_aald hC hG 7 rfl rfl V_o10 _ rfl (by omega) (by omega) dX7_isWithin_71 ?_
            refine lv_iconst (v := 2) hx hb dX7_isWithin_72 (by decide) ?_
            refine g_iald hC hG (V_r10 (by omega)) 2 rfl (by omega) (by omega) dX7_isWithin_73 ?_
            refine o_aload_n hx hb dX7_isWithin_74 hl rfl ?_
            refine g_get hC hG us_X7 rfl 10 (by decide) fl_X7_44 V_model rfl dX7_isWithin_75 ?_
            refine o_iload_n hx hb dX7_isWithin_78 hl rfl ?_
            refine g_aald hC hG 7 rfl rfl V_o10 _ rfl (by omega) (by omega) dX7_isWithin_79 ?_
            refine lv_iconst (v := 3) hx hb dX7_isWithin_80 (by decide) ?_
            refine g_iald hC hG (V_r10 (by omega)) 3 rfl (by omega) (by omega) dX7_isWithin_81 ?_
            refine k_X7_isIn hC hS hG trivial ml_X7_83 ⟨Nat.le_of_ble_eq_true rfl, Nat.le_of_ble_eq_true rfl⟩ hl.1 (Nat.le_of_ble_eq_true rfl) dX7_isWithin_82 ⟨Nat.le_of_ble_eq_true rfl, Nat.le_of_ble_eq_true rfl⟩ (fun h82 => ?_) (fun h82 => ?_)
            · skip
              refine lv_if_eq (tgt := 92) hx hb dX7_isWithin_85 (by decide) (fun h85 => ?_) (fun h85 => ?_)
              · exact absurd h85 (by decide)
              · skip
                refine lv_iconst (v := 1) hx hb dX7_isWithin_88 (by decide) ?_
                refine lv_goto (tgt := 93) hx hb dX7_isWithin_89 (by decide) ?_
                exact R_i hC hr hlk rfl (by unfold holdsP; rw [z0]; first | exact Or.inl ⟨rfl, Int32.not_lt.mp h62, h82.1, h82.2⟩ | exact Or.inr ⟨rfl, fun z => h82 ⟨z.2.1, z.2.2⟩⟩ | exact Or.inr ⟨rfl, fun z => absurd h62 (Int32.not_lt.mpr z.1)⟩) dX7_isWithin_93
            · skip
              refine lv_if_eq (tgt := 92) hx hb dX7_isWithin_85 (by decide) (fun h85 => ?_) (fun h85 => ?_)
              · skip
                refine lv_iconst (v := 0) hx hb dX7_isWithin_92 (by decide) ?_
                exact R_i hC hr hlk rfl (by unfold holdsP; rw [z0]; first | exact Or.inl ⟨rfl, Int32.not_lt.mp h62, h82.1, h82.2⟩ | exact Or.inr ⟨rfl, fun z => h82 ⟨z.2.1, z.2.2⟩⟩ | exact Or.inr ⟨rfl, fun z => absurd h62 (Int32.not_lt.mpr z.1)⟩) dX7_isWithin_93
              · exact absurd h85 (by decide)
        · skip
          refine o_aload hx hb dX7_isWithin_20 hl rfl ?_
          refine o_iload hx hb dX7_isWithin_22 hl rfl ?_
          refine g_iald hC hG (V_r1 (by omega)) _ rfl (by omega) (by omega) dX7_isWithin_24 ?_
          refine o_istore hx hb dX7_isWithin_25 hl (by decide) rfl (fun ls hl => ?_)
          refine o_iload_n hx hb dX7_isWithin_27 hl rfl ?_
          refine lv_bipush (v := 100) hx hb dX7_isWithin_28 (by decide) ?_
          refine o_iload hx hb dX7_isWithin_30 hl rfl ?_
          refine lv_isub hx hb dX7_isWithin_32 ?_
          refine lv_iadd hx hb dX7_isWithin_33 ?_
          refine o_istore_n hx hb dX7_isWithin_34 hl (by decide) rfl (fun ls hl => ?_)
          refine o_iinc1 hx hb dX7_isWithin_35 hl rfl (by decide) rfl (fun ls hl => ?_)
          refine lv_goto (tgt := 13) hx hb dX7_isWithin_38 (by decide) ?_
          exact ih13 (y + 1) (by omega) ls (lo_none (i := 7) hl)
    exact loop13 6 0 (by omega) ls hl
  · skip
    skip
    refine lv_iconst (v := 0) hx hb dX7_isWithin_0 (by decide) ?_
    refine o_istore_n hx hb dX7_isWithin_1 hl (by decide) rfl (fun ls hl => ?_)
    refine o_aload_n hx hb dX7_isWithin_2 hl rfl ?_
    refine o_astore hx hb dX7_isWithin_3 hl (by decide) rfl (fun ls hl => ?_)
    refine o_aload hx hb dX7_isWithin_5 hl rfl ?_
    refine g_alen hC hG 0 rfl (V_r3 (by omega)) (v := nI 5) rfl dX7_isWithin_7 ?_
    refine o_istore hx hb dX7_isWithin_8 hl (by decide) rfl (fun ls hl => ?_)
    refine lv_iconst (v := 0) hx hb dX7_isWithin_10 (by decide) ?_
    refine o_istore hx hb dX7_isWithin_11 hl (by decide) rfl (fun ls hl => ?_)
    have loop13 : ∀ (q9 : Nat) (y : Nat), y ≤ 5 ∧ 5 < y + q9 → ∀ ls : Array Slot, lo ls 8 [some (.ref (ad 13 0 0)), some (.int (nI q)), some (.ref (ad 15 3 a)), some (.int (sumLk (T 30 a) y)), some (.ref (ad 15 3 a)), some (.int (nI 5)), some (.int (nI y)), none] → W p l e ({ frames := 1, cells := 0, slots := 0, locals := 22 } : Room) s m [.ref (ad 13 0 0), .int (nI q), .ref (ad 15 3 a)].toArray below meth c s.heap [] 0 0 (MQ below (vp_Si (fun r => (r = 1 ∧ (holdsP T q (T 30 a))) ∨ (r = 0 ∧ ¬ (holdsP T q (T 30 a))))) [.ref (ad 13 0 0), .int (nI q), .ref (ad 15 3 a)].toArray s 0 0 (fun _ => False)) (F0 m 13 ls []) := by
      intro q9
      induction q9 with
      | zero => intro y hq9; exact absurd hq9 (by omega)
      | succ q9 ih13 =>
        intro y hq9   ls hl
        refine o_iload hx hb dX7_isWithin_13 hl rfl ?_
        refine o_iload hx hb dX7_isWithin_15 hl rfl ?_
        refine n_icmp_ge (tgt := 41) hx hb y 5 rfl rfl (by omega) (by omega) dX7_isWithin_17 (by decide) (fun h17 => ?_) (fun h17 => ?_)
        · skip
          have hy5 : y = 5 := by omega
          subst hy5
          refine lv_bipush (v := 100) hx hb dX7_isWithin_41 (by decide) ?_
          refine o_aload_n hx hb dX7_isWithin_43 hl rfl ?_
          refine o_aload_n hx hb dX7_isWithin_44 hl rfl ?_
          refine g_get hC hG us_X7 rfl 10 (by decide) fl_X7_44 V_model rfl dX7_isWithin_45 ?_
          refine o_iload_n hx hb dX7_isWithin_48 hl rfl ?_
          refine g_aald hC hG 7 rfl rfl V_o10 _ rfl (by omega) (by omega) dX7_isWithin_49 ?_
          refine lv_iconst (v := 0) hx hb dX7_isWithin_50 (by decide) ?_
          refine g_iald hC hG (V_r10 (by omega)) 0 rfl (by omega) (by omega) dX7_isWithin_51 ?_
          refine g_iald hC hG (V_r3 (by omega)) y0 hky (by omega) (by omega) dX7_isWithin_52 ?_
          refine lv_isub hx hb dX7_isWithin_53 ?_
          refine o_aload_n hx hb dX7_isWithin_54 hl rfl ?_
          refine g_get hC hG us_X7 rfl 10 (by decide) fl_X7_44 V_model rfl dX7_isWithin_55 ?_
          refine o_iload_n hx hb dX7_isWithin_58 hl rfl ?_
          refine g_aald hC hG 7 rfl rfl V_o10 _ rfl (by omega) (by omega) dX7_isWithin_59 ?_
          refine lv_iconst (v := 1) hx hb dX7_isWithin_60 (by decide) ?_
          refine g_iald hC hG (V_r10 (by omega)) 1 rfl (by omega) (by omega) dX7_isWithin_61 ?_
          refine lv_icmp_lt (tgt := 92) hx hb dX7_isWithin_62 (by decide) (fun h62 => ?_) (fun h62 => ?_)
          · skip
            refine lv_iconst (v := 0) hx hb dX7_isWithin_92 (by decide) ?_
            exact R_i hC hr hlk rfl (by unfold holdsP; rw [z0]; first | exact Or.inl ⟨rfl, Int32.not_lt.mp h62, h82.1, h82.2⟩ | exact Or.inr ⟨rfl, fun z => h82 ⟨z.2.1, z.2.2⟩⟩ | exact Or.inr ⟨rfl, fun z => absurd h62 (Int32.not_lt.mpr z.1)⟩) dX7_isWithin_93
          · skip
            refine o_iload_n hx hb dX7_isWithin_65 hl rfl ?_
            refine o_aload_n hx hb dX7_isWithin_66 hl rfl ?_
            refine g_get hC hG us_X7 rfl 10 (by decide) fl_X7_44 V_model rfl dX7_isWithin_67 ?_
            refine o_iload_n hx hb dX7_isWithin_70 hl rfl ?_
            refine g_aald hC hG 7 rfl rfl V_o10 _ rfl (by omega) (by omega) dX7_isWithin_71 ?_
            refine lv_iconst (v := 2) hx hb dX7_isWithin_72 (by decide) ?_
            refine g_iald hC hG (V_r10 (by omega)) 2 rfl (by omega) (by omega) dX7_isWithin_73 ?_
            refine o_aload_n hx hb dX7_isWithin_74 hl rfl ?_
            refine g_get hC hG us_X7 rfl 10 (by decide) fl_X7_44 V_model rfl dX7_isWithin_75 ?_
            refine o_iload_n hx hb dX7_isWithin_78 hl rfl ?_
            refine g_aald hC hG 7 rfl rfl V_o10 _ rfl (by omega) (by omega) dX7_isWithin_79 ?_
            refine lv_iconst (v := 3) hx hb dX7_isWithin_80 (by decide) ?_
            refine g_iald hC hG (V_r10 (by omega)) 3 rfl (by omega) (by omega) dX7_isWithin_81 ?_
            refine k_X7_isIn hC hS hG trivial ml_X7_83 ⟨Nat.le_of_ble_eq_true rfl, Nat.le_of_ble_eq_true rfl⟩ hl.1 (Nat.le_of_ble_eq_true rfl) dX7_isWithin_82 ⟨Nat.le_of_ble_eq_true rfl, Nat.le_of_ble_eq_true rfl⟩ (fun h82 => ?_) (fun h82 => ?_)
            · skip
              refine lv_if_eq (tgt := 92) hx hb dX7_isWithin_85 (by decide) (fun h85 => ?_) (fun h85 => ?_)
              · exact absurd h85 (by decide)
              · skip
                refine lv_iconst (v := 1) hx hb dX7_isWithin_88 (by decide) ?_
                refine lv_goto (tgt := 93) hx hb dX7_isWithin_89 (by decide) ?_
                exact R_i hC hr hlk rfl (by unfold holdsP; rw [z0]; first | exact Or.inl ⟨rfl, Int32.not_lt.mp h62, h82.1, h82.2⟩ | exact Or.inr ⟨rfl, fun z => h82 ⟨z.2.1, z.2.2⟩⟩ | exact Or.inr ⟨rfl, fun z => absurd h62 (Int32.not_lt.mpr z.1)⟩) dX7_isWithin_93
            · skip
              refine lv_if_eq (tgt := 92) hx hb dX7_isWithin_85 (by decide) (fun h85 => ?_) (fun h85 => ?_)
              · skip
                refine lv_iconst (v := 0) hx hb dX7_isWithin_92 (by decide) ?_
                exact R_i hC hr hlk rfl (by unfold holdsP; rw [z0]; first | exact Or.inl ⟨rfl, Int32.not_lt.mp h62, h82.1, h82.2⟩ | exact Or.inr ⟨rfl, fun z => h82 ⟨z.2.1, z.2.2⟩⟩ | exact Or.inr ⟨rfl, fun z => absurd h62 (Int32.not_lt.mpr z.1)⟩) dX7_isWithin_93
              · exact absurd h85 (by decide)
        · skip
          refine o_aload hx hb dX7_isWithin_20 hl rfl ?_
          refine o_iload hx hb dX7_isWithin_22 hl rfl ?_
          refine g_iald hC hG (V_r3 (by omega)) _ rfl (by omega) (by omega) dX7_isWithin_24 ?_
          refine o_istore hx hb dX7_isWithin_25 hl (by decide) rfl (fun ls hl => ?_)
          refine o_iload_n hx hb dX7_isWithin_27 hl rfl ?_
          refine lv_bipush (v := 100) hx hb dX7_isWithin_28 (by decide) ?_
          refine o_iload hx hb dX7_isWithin_30 hl rfl ?_
          refine lv_isub hx hb dX7_isWithin_32 ?_
          refine lv_iadd hx hb dX7_isWithin_33 ?_
          refine o_istore_n hx hb dX7_isWithin_34 hl (by decide) rfl (fun ls hl => ?_)
          refine o_iinc1 hx hb dX7_isWithin_35 hl rfl (by decide) rfl (fun ls hl => ?_)
          refine lv_goto (tgt := 13) hx hb dX7_isWithin_38 (by decide) ?_
          exact ih13 (y + 1) (by omega) ls (lo_none (i := 7) hl)
    exact loop13 6 0 (by omega) ls hl
theorem k_X7_isWithin {p : Program} {l : Launch} {e : Env} {R : Room} {s : State} {m : MethodId} {args : Array Value} {below : List Frame} {meth : Method} {c : Code} {H : Heap} {locs : List Loc} {cells slots : Nat} {Q : State → Prop} {cc : ByteArray} {pc nL : Nat} {ls : Array Slot} {rest : List Value} {own : String} {D : va_G} {cy : Nat → ClassId} {sa : Nat → Nat} {de B : Nat} {ad : Ad} {S : St} {n : Nat → Nat} {T : St} {k : Nat → Nat} {th : Int32} {X : Rl} {q f a : Nat} {g : Nat → Int32}  (hC : Cx p m c cc nL s args own D cy sa de B) (hS : va_S (AB B) s.heap H locs) (hG : GW D B ad (Vw cy de ad S n T k th X) H) (h0 : q < k 2 ∧ MB k ∧ a < 16 ∧ KYm T k ∧ ((f = 1 ∧ g = T 6 a) ∨ (f = 3 ∧ g = T 30 a)))  {idx : Nat} (wl : Cond.methodLink own idx yX7_isWithin ∈ G0) (hR : 1 + 1 ≤ R.frames ∧ 8 + (8 + 11) + 22 ≤ R.locals) (hsz : ls.size = nL) (hst : (rest.map fun v => v.category).sum ≤ 8) (hdg : decode cc pc = .ok (.invokevirtual idx, 3)) (hcs : cells + 0 ≤ R.cells ∧ slots + 0 ≤ R.slots) (kt : (holdsP T q g) → W p l e R s m args below meth c H locs cells slots Q (F0 m (pc + 3) ls (.int 1 :: rest))) (kf : ¬ (holdsP T q g) → W p l e R s m args below meth c H locs cells slots Q (F0 m (pc + 3) ls (.int 0 :: rest))) : W p l e R s m args below meth c H locs cells slots Q (F0 m pc ls (.ref (ad 15 f a) :: .int (nI q) :: .ref (ad 13 0 0) :: rest)) :=
  vp_callSi (va_Run.run (rV hC hS hG h0 (As := [.int (nI q), .ref (ad 15 f a)]) (c_X7_isWithin l) ⟨rfl, rfl⟩ wl im_X7_isWithin sl_X7_X7_isWithin in_X7 cd_X7_isWithin (n := 2) (by decide +kernel) hR (recv hC hG (q := (RX7, TX7, 26)) rfl V_model) rfl hsz hst rfl hdg hcs)) (fun r hr => by rcases hr with ⟨rfl, hp⟩ | ⟨rfl, hp⟩; exact kt hp; exact kf hp)
set_option maxHeartbeats 4000000 in
set_option maxRecDepth 100000 in
theorem c_X7_classBy (l : Launch) {D : va_G} {cy : Nat → ClassId} {sa : Nat → Nat} {de B : Nat} {ad : Ad} {S : St} {n : Nat → Nat} {T : St} {k : Nat → Nat} {th : Int32} {X : Rl} {f a : Nat} {g : Nat → Int32}  : Met l yX7_classBy (Cond.code yX7_classBy cX7_classBy 4 (Option.some Jvm.ClassFile.FieldType.int) :: G0) ({ frames := 2, cells := 0, slots := 0, locals := 49 } : Room) (va_Pc [.ref (ad 13 0 0), .ref (ad 15 f a)] (PW D cy sa de B ad (Vw cy de ad S n T k th X) (MB k ∧ a < 16 ∧ KYm T k ∧ ((f = 1 ∧ g = T 6 a) ∨ (f = 3 ∧ g = T 30 a))))) (vp_Si (fun r => r = kbel T k g)) 0 0 (fun _ => False) := by
  refine E_met (own := RX7) rfl rfl (Nat.le_of_ble_eq_true rfl) ?_
  intro p e s m below meth c hC hr hlk hnm hG h0 ls hl
  have hx := hC.x
  have hb := hC.b
  have hS : va_S (AB B) s.heap s.heap [] := va_S.rf
  have hl : lo ls 4 [some (.ref (ad 13 0 0)), some (.ref (ad 15 f a)), none, none] := lo_of hl
  obtain ⟨hMB, ha, hKYm, hfg⟩ := h0
  have hMB9 := hMB
  obtain ⟨hM0, hM1, hM2, hM3⟩ := hMB9
  rcases hfg with ⟨rfl, rfl⟩ | ⟨rfl, rfl⟩
  · skip
    skip
    refine lv_iconst (v := (-1)) hx hb dX7_classBy_0 (by decide) ?_
    refine o_istore_n hx hb dX7_classBy_1 hl (by decide) rfl (fun ls hl => ?_)
    refine o_aload_n hx hb dX7_classBy_2 hl rfl ?_
    refine g_get hC hG us_X7 rfl 22 (by decide) fl_X7_87 V_model rfl dX7_classBy_3 ?_
    refine lv_iconst (v := 1) hx hb dX7_classBy_6 (by decide) ?_
    refine lv_isub hx hb dX7_classBy_7 ?_
    refine o_istore_n hx hb dX7_classBy_8 hl (by decide) rfl (fun ls hl => ?_)
    have loop9 : ∀ (q9 : Nat) (r : Nat), r ≤ k 2 ∧ r < q9 → ∀ ls : Array Slot, lo ls 4 [some (.ref (ad 13 0 0)), some (.ref (ad 15 1 a)), some (.int (fK (fun q => holdsP T q (T 6 a)) r (k 2 - r))), some (.int (nI r - 1))] → W p l e ({ frames := 2, cells := 0, slots := 0, locals := 49 } : Room) s m [.ref (ad 13 0 0), .ref (ad 15 1 a)].toArray below meth c s.heap [] 0 0 (MQ below (vp_Si (fun r => r = kbel T k (T 6 a))) [.ref (ad 13 0 0), .ref (ad 15 1 a)].toArray s 0 0 (fun _ => False)) (F0 m 9 ls []) := by
      intro q9
      induction q9 with
      | zero => intro r hq9; exact absurd hq9 (by omega)
      | succ q9 ih9 =>
        intro r hq9   ls hl
        refine o_iload_n hx hb dX7_classBy_9 hl rfl ?_
        refine lv_if_lt (tgt := 34) hx hb dX7_classBy_10 (by decide) (fun h10 => ?_) (fun h10 => ?_)
        · skip
          have hr0 : r = 0 := Nat.le_zero.mp (Nat.not_lt.mp (fun z => by
            obtain ⟨r1, hr1⟩ : ∃ r1, r = r1 + 1 := ⟨r - 1, by omega⟩
            rw [hr1, nI_pred] at h10
            exact absurd h10 (nI_pos (by omega))))
          subst hr0
          refine o_iload_n hx hb dX7_classBy_34 hl rfl ?_
          exact R_i hC hr hlk rfl (rfl) dX7_classBy_35
        · skip
          obtain ⟨r1, hr1⟩ : ∃ r1, r = r1 + 1 := ⟨r - 1, by have hr0 : r ≠ 0 := (fun z => h10 (by rw [z]; decide)); omega⟩
          subst hr1
          rw [nI_pred] at hl
          refine o_aload_n hx hb dX7_classBy_13 hl rfl ?_
          refine o_iload_n hx hb dX7_classBy_14 hl rfl ?_
          refine o_aload_n hx hb dX7_classBy_15 hl rfl ?_
          refine k_X7_isWithin hC hS hG ⟨by omega, hMB, by omega, hKYm, Or.inl ⟨rfl, rfl⟩⟩ ml_X7_111 ⟨Nat.le_of_ble_eq_true rfl, Nat.le_of_ble_eq_true rfl⟩ hl.1 (Nat.le_of_ble_eq_true rfl) dX7_classBy_16 ⟨Nat.le_of_ble_eq_true rfl, Nat.le_of_ble_eq_true rfl⟩ (fun h16 => ?_) (fun h16 => ?_)
          · skip
            refine lv_if_eq (tgt := 26) hx hb dX7_classBy_19 (by decide) (fun h19 => ?_) (fun h19 => ?_)
            · exact absurd h19 (by decide)
            · skip
              refine o_iload_n hx hb dX7_classBy_22 hl rfl ?_
              refine lv_goto (tgt := 27) hx hb dX7_classBy_23 (by decide) ?_
              refine o_istore_n hx hb dX7_classBy_27 hl (by decide) rfl (fun ls hl => ?_)
              refine o_iinc hx hb dX7_classBy_28 hl rfl (show _ + -1 = _ from rfl) (by decide) rfl (fun ls hl => ?_)
              refine lv_goto (tgt := 9) hx hb dX7_classBy_31 (by decide) ?_
              exact ih9 r1 (by omega) ls (by first | (rw [fK_yes (P := fun q => holdsP T q (T 6 a)) (y := r1) (m := k 2) (by omega) h16, ← add_m1]; exact hl) | (rw [fK_no (P := fun q => holdsP T q (T 6 a)) (y := r1) (m := k 2) (by omega) h16, ← add_m1]; exact hl))
          · skip
            refine lv_if_eq (tgt := 26) hx hb dX7_classBy_19 (by decide) (fun h19 => ?_) (fun h19 => ?_)
            · skip
              refine o_iload_n hx hb dX7_classBy_26 hl rfl ?_
              refine o_istore_n hx hb dX7_classBy_27 hl (by decide) rfl (fun ls hl => ?_)
              refine o_iinc hx hb dX7_classBy_28 hl rfl (show _ + -1 = _ from rfl) (by decide) rfl (fun ls hl => ?_)
              refine lv_goto (tgt := 9) hx hb dX7_classBy_31 (by decide) ?_
              exact ih9 r1 (by omega) ls (by first | (rw [fK_yes (P := fun q => holdsP T q (T 6 a)) (y := r1) (m := k 2) (by omega) h16, ← add_m1]; exact hl) | (rw [fK_no (P := fun q => holdsP T q (T 6 a)) (y := r1) (m := k 2) (by omega) h16, ← add_m1]; exact hl))
            · exact absurd h19 (by decide)
    exact loop9 (k 2 + 1) (k 2) (by omega) ls (by rw [show fK (fun q => holdsP T q (T 6 a)) (k 2) (k 2 - k 2) = -1 from fK_end (Nat.le_refl _)]; exact hl)
  · skip
    skip
    refine lv_iconst (v := (-1)) hx hb dX7_classBy_0 (by decide) ?_
    refine o_istore_n hx hb dX7_classBy_1 hl (by decide) rfl (fun ls hl => ?_)
    refine o_aload_n hx hb dX7_classBy_2 hl rfl ?_
    refine g_get hC hG us_X7 rfl 22 (by decide) fl_X7_87 V_model rfl dX7_classBy_3 ?_
    refine lv_iconst (v := 1) hx hb dX7_classBy_6 (by decide) ?_
    refine lv_isub hx hb dX7_classBy_7 ?_
    refine o_istore_n hx hb dX7_classBy_8 hl (by decide) rfl (fun ls hl => ?_)
    have loop9 : ∀ (q9 : Nat) (r : Nat), r ≤ k 2 ∧ r < q9 → ∀ ls : Array Slot, lo ls 4 [some (.ref (ad 13 0 0)), some (.ref (ad 15 3 a)), some (.int (fK (fun q => holdsP T q (T 30 a)) r (k 2 - r))), some (.int (nI r - 1))] → W p l e ({ frames := 2, cells := 0, slots := 0, locals := 49 } : Room) s m [.ref (ad 13 0 0), .ref (ad 15 3 a)].toArray below meth c s.heap [] 0 0 (MQ below (vp_Si (fun r => r = kbel T k (T 30 a))) [.ref (ad 13 0 0), .ref (ad 15 3 a)].toArray s 0 0 (fun _ => False)) (F0 m 9 ls []) := by
      intro q9
      induction q9 with
      | zero => intro r hq9; exact absurd hq9 (by omega)
      | succ q9 ih9 =>
        intro r hq9   ls hl
        refine o_iload_n hx hb dX7_classBy_9 hl rfl ?_
        refine lv_if_lt (tgt := 34) hx hb dX7_classBy_10 (by decide) (fun h10 => ?_) (fun h10 => ?_)
        · skip
          have hr0 : r = 0 := Nat.le_zero.mp (Nat.not_lt.mp (fun z => by
            obtain ⟨r1, hr1⟩ : ∃ r1, r = r1 + 1 := ⟨r - 1, by omega⟩
            rw [hr1, nI_pred] at h10
            exact absurd h10 (nI_pos (by omega))))
          subst hr0
          refine o_iload_n hx hb dX7_classBy_34 hl rfl ?_
          exact R_i hC hr hlk rfl (rfl) dX7_classBy_35
        · skip
          obtain ⟨r1, hr1⟩ : ∃ r1, r = r1 + 1 := ⟨r - 1, by have hr0 : r ≠ 0 := (fun z => h10 (by rw [z]; decide)); omega⟩
          subst hr1
          rw [nI_pred] at hl
          refine o_aload_n hx hb dX7_classBy_13 hl rfl ?_
          refine o_iload_n hx hb dX7_classBy_14 hl rfl ?_
          refine o_aload_n hx hb dX7_classBy_15 hl rfl ?_
          refine k_X7_isWithin hC hS hG ⟨by omega, hMB, by omega, hKYm, Or.inr ⟨rfl, rfl⟩⟩ ml_X7_111 ⟨Nat.le_of_ble_eq_true rfl, Nat.le_of_ble_eq_true rfl⟩ hl.1 (Nat.le_of_ble_eq_true rfl) dX7_classBy_16 ⟨Nat.le_of_ble_eq_true rfl, Nat.le_of_ble_eq_true rfl⟩ (fun h16 => ?_) (fun h16 => ?_)
          · skip
            refine lv_if_eq (tgt := 26) hx hb dX7_classBy_19 (by decide) (fun h19 => ?_) (fun h19 => ?_)
            · exact absurd h19 (by decide)
            · skip
              refine o_iload_n hx hb dX7_classBy_22 hl rfl ?_
              refine lv_goto (tgt := 27) hx hb dX7_classBy_23 (by decide) ?_
              refine o_istore_n hx hb dX7_classBy_27 hl (by decide) rfl (fun ls hl => ?_)
              refine o_iinc hx hb dX7_classBy_28 hl rfl (show _ + -1 = _ from rfl) (by decide) rfl (fun ls hl => ?_)
              refine lv_goto (tgt := 9) hx hb dX7_classBy_31 (by decide) ?_
              exact ih9 r1 (by omega) ls (by first | (rw [fK_yes (P := fun q => holdsP T q (T 30 a)) (y := r1) (m := k 2) (by omega) h16, ← add_m1]; exact hl) | (rw [fK_no (P := fun q => holdsP T q (T 30 a)) (y := r1) (m := k 2) (by omega) h16, ← add_m1]; exact hl))
          · skip
            refine lv_if_eq (tgt := 26) hx hb dX7_classBy_19 (by decide) (fun h19 => ?_) (fun h19 => ?_)
            · skip
              refine o_iload_n hx hb dX7_classBy_26 hl rfl ?_
              refine o_istore_n hx hb dX7_classBy_27 hl (by decide) rfl (fun ls hl => ?_)
              refine o_iinc hx hb dX7_classBy_28 hl rfl (show _ + -1 = _ from rfl) (by decide) rfl (fun ls hl => ?_)
              refine lv_goto (tgt := 9) hx hb dX7_classBy_31 (by decide) ?_
              exact ih9 r1 (by omega) ls (by first | (rw [fK_yes (P := fun q => holdsP T q (T 30 a)) (y := r1) (m := k 2) (by omega) h16, ← add_m1]; exact hl) | (rw [fK_no (P := fun q => holdsP T q (T 30 a)) (y := r1) (m := k 2) (by omega) h16, ← add_m1]; exact hl))
            · exact absurd h19 (by decide)
    exact loop9 (k 2 + 1) (k 2) (by omega) ls (by rw [show fK (fun q => holdsP T q (T 30 a)) (k 2) (k 2 - k 2) = -1 from fK_end (Nat.le_refl _)]; exact hl)
theorem k_X7_classBy {p : Program} {l : Launch} {e : Env} {R : Room} {s : State} {m : MethodId} {args : Array Value} {below : List Frame} {meth : Method} {c : Code} {H : Heap} {locs : List Loc} {cells slots : Nat} {Q : State → Prop} {cc : ByteArray} {pc nL : Nat} {ls : Array Slot} {rest : List Value} {own : String} {D : va_G} {cy : Nat → ClassId} {sa : Nat → Nat} {de B : Nat} {ad : Ad} {S : St} {n : Nat → Nat} {T : St} {k : Nat → Nat} {th : Int32} {X : Rl} {f a : Nat} {g : Nat → Int32}  (hC : Cx p m c cc nL s args own D cy sa de B) (hS : va_S (AB B) s.heap H locs) (hG : GW D B ad (Vw cy de ad S n T k th X) H) (h0 : MB k ∧ a < 16 ∧ KYm T k ∧ ((f = 1 ∧ g = T 6 a) ∨ (f = 3 ∧ g = T 30 a)))  {idx : Nat} (wl : Cond.methodLink own idx yX7_classBy ∈ G0) (hR : 2 + 1 ≤ R.frames ∧ 8 + (4 + 11) + 49 ≤ R.locals) (hsz : ls.size = nL) (hst : (rest.map fun v => v.category).sum ≤ 8) (hdg : decode cc pc = .ok (.invokevirtual idx, 3)) (hcs : cells + 0 ≤ R.cells ∧ slots + 0 ≤ R.slots) (kk : W p l e R s m args below meth c H locs cells slots Q (F0 m (pc + 3) ls (.int (kbel T k g) :: rest))) : W p l e R s m args below meth c H locs cells slots Q (F0 m pc ls (.ref (ad 15 f a) :: .ref (ad 13 0 0) :: rest)) :=
  vp_callSi (va_Run.run (rV hC hS hG h0 (As := [.ref (ad 15 f a)]) (c_X7_classBy l) ⟨rfl, rfl⟩ wl im_X7_classBy sl_X7_X7_classBy in_X7 cd_X7_classBy (n := 1) (by decide +kernel) hR (recv hC hG (q := (RX7, TX7, 26)) rfl V_model) rfl hsz hst rfl hdg hcs)) (fun r hr => by subst hr; exact kk)
