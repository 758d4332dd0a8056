set_option maxHeartbeats 4000000 in
set_option maxRecDepth 100000 in
theorem c_X7_becomes (l : Launch) {D : va_G} {cy : Nat → ClassId} {sa : Nat → Nat} {de B : Nat} {ad : Ad} {S : St} {n : Nat → Nat} {T : St} {k : Nat → Nat} {th : Int32} {X : Rl} {a : Nat} {kd st : Int32}  : Met l yX7_becomes (Cond.code yX7_becomes cX7_becomes 5 (Option.none : Option Jvm.ClassFile.FieldType) :: G0) ({ frames := 0, cells := 0, slots := 0, locals := 0 } : Room) (va_Pc [.ref (ad 13 0 0), .int (nI a), .int kd, .int st] (PW D cy sa de B ad (Vw cy de ad S n T k th X) (a < 16 ∧ MB k ∧ chP st ∧ (T 11 a 0 = 0 ∨ T 11 a 0 = 1)))) (oV B (fun H => GW D B ad (Vw cy de ad S n (bcS T a kd st (k 3)) k th X) H)) 0 0 (AB B) := by
  refine E_met (own := RX7) rfl rfl (Nat.le_of_ble_eq_true rfl) ?_
  intro p e s m below meth c hC hr hlk hnm hG h0 ls hl
  have hx := hC.x
  have hb := hC.b
  have hS : va_S (AB B) s.heap s.heap [] := va_S.rf
  have hl : lo ls 5 [some (.ref (ad 13 0 0)), some (.int (nI a)), some (.int kd), some (.int st), none] := lo_of hl
  obtain ⟨ha, hMB, hch, hB11⟩ := h0
  obtain ⟨hM0, hM1, hM2, hM3⟩ := hMB
  refine lv_iconst (v := 0) hx hb dX7_becomes_0 (by decide) ?_
  refine o_istore hx hb dX7_becomes_1 hl (by decide) rfl (fun ls hl => ?_)
  have loop3 : ∀ (q9 : Nat) (y : Nat), y ≤ k 3 ∧ k 3 < y + q9 → (y = 0 ∨ ¬ T 10 a 0 = kd) → ∀ (H : Heap) (locs : List Loc), GW D B ad (Vw cy de ad S n (dropS T a y) k th X) H → va_S (AB B) s.heap H locs → ∀ ls : Array Slot, lo ls 5 [some (.ref (ad 13 0 0)), some (.int (nI a)), some (.int kd), some (.int st), some (.int (nI y))] → W p l e ({ frames := 0, cells := 0, slots := 0, locals := 0 } : Room) s m [.ref (ad 13 0 0), .int (nI a), .int kd, .int st].toArray below meth c H locs 0 0 (MQ below (oV B (fun H => GW D B ad (Vw cy de ad S n (bcS T a kd st (k 3)) k th X) H)) [.ref (ad 13 0 0), .int (nI a), .int kd, .int st].toArray s 0 0 (AB B)) (F0 m 3 ls []) := by
    intro q9
    induction q9 with
    | zero => intro y hq9; exact absurd hq9 (by omega)
    | succ q9 ih3 =>
      intro y hq9 hy0 H locs hG hS ls hl
      have z20 : dropS T a y 20 = T 20 := dropS_o y (by decide) (by decide)
      have z19 : dropS T a y 19 = T 19 := dropS_o y (by decide) (by decide)
      have z10 : dropS T a y 10 = T 10 := dropS_o y (by decide) (by decide)
      refine o_iload hx hb dX7_becomes_3 hl rfl ?_
      refine o_aload_n hx hb dX7_becomes_5 hl rfl ?_
      refine g_get hC hG us_X7 rfl 23 (by decide) fl_X7_119 V_model rfl dX7_becomes_6 ?_
      refine n_icmp_ge (tgt := 71) hx hb y (k 3) rfl rfl (by omega) (by omega) dX7_becomes_9 (by decide) (fun h9 => ?_) (fun h9 => ?_)
      · skip
        have hG : GW D B ad (Vw cy de ad S n (bcD T a kd (k 3)) k th X) H := by
          unfold bcD
          by_cases hz : T 10 a 0 = kd
          · have hyy : y = 0 := hy0.elim id (fun z => absurd hz z)
            subst hyy
            rw [cif_t hz]; exact hG
          · have hyy : y = k 3 := by first | omega | exact absurd (by rw [← z10]; exact h19.symm) hz
            subst hyy
            rw [cif_f hz]; exact hG
        have hD11 : bcD T a kd (k 3) 11 a 0 = 0 ∨ bcD T a kd (k 3) 11 a 0 = 1 := by rw [bcD_c (by decide) (by decide)]; exact hB11
        refine o_aload_n hx hb dX7_becomes_71 hl rfl ?_
        refine g_get hC hG us_X7 rfl 6 (by decide) fl_X7_32 V_model rfl dX7_becomes_72 ?_
        refine o_iload_n hx hb dX7_becomes_75 hl rfl ?_
        refine o_iload_n hx hb dX7_becomes_76 hl rfl ?_
        refine g_iast hC hG hS V_m6 _ rfl (by omega) (by omega) P_m6 dX7_becomes_77 (fun H locs hG hS => ?_)
        refine o_aload_n hx hb dX7_becomes_78 hl rfl ?_
        refine g_get hC hG us_X7 rfl 5 (by decide) fl_X7_28 V_model rfl dX7_becomes_79 ?_
        refine o_iload_n hx hb dX7_becomes_82 hl rfl ?_
        refine o_iload_n hx hb dX7_becomes_83 hl rfl ?_
        refine lv_iconst (v := (-1)) hx hb dX7_becomes_84 (by decide) ?_
        refine lv_icmp_ne (tgt := 105) hx hb dX7_becomes_85 (by decide) (fun h85 => ?_) (fun h85 => ?_)
        · skip
          refine o_iload_n hx hb dX7_becomes_105 hl rfl ?_
          refine g_cast hC hG hS V_m5 _ rfl (by omega) (by omega) hch.1 P_m5 dX7_becomes_106 (fun H locs hG hS => ?_)
          refine o_aload_n hx hb dX7_becomes_107 hl rfl ?_
          refine g_get hC hG us_X7 rfl 7 (by decide) fl_X7_35 V_model rfl dX7_becomes_108 ?_
          refine o_iload_n hx hb dX7_becomes_111 hl rfl ?_
          refine lv_iconst (v := (-1)) hx hb dX7_becomes_112 (by decide) ?_
          refine g_iast hC hG hS V_m7 _ rfl (by omega) (by omega) P_m7 dX7_becomes_113 (fun H locs hG hS => ?_)
          refine o_aload_n hx hb dX7_becomes_114 hl rfl ?_
          refine g_get hC hG us_X7 rfl 8 (by decide) fl_X7_38 V_model rfl dX7_becomes_115 ?_
          refine o_iload_n hx hb dX7_becomes_118 hl rfl ?_
          refine lv_dup2_11 hx hb dX7_becomes_119 rfl rfl ?_
          refine g_zald hC hG V_m8 _ rfl (by omega) (by omega) dX7_becomes_120 ?_
          refine o_iload_n hx hb dX7_becomes_121 hl rfl ?_
          refine lv_iconst (v := (-1)) hx hb dX7_becomes_122 (by decide) ?_
          refine lv_icmp_eq (tgt := 130) hx hb dX7_becomes_123 (by decide) (fun h123 => ?_) (fun h123 => ?_)
          · skip
            refine lv_iconst (v := 0) hx hb dX7_becomes_130 (by decide) ?_
            refine lv_iand hx hb dX7_becomes_131 ?_
            refine g_zast hC hG hS V_m8 _ rfl (by omega) (by omega) (and01 hD11 (by first | exact Or.inl rfl | exact Or.inr rfl)) P_m8 dX7_becomes_132 (fun H locs hG hS => ?_)
            exact R_V hC hS hr hlk (by unfold bcS; first | (rw [show bcT kd st = 101 from cif_t ⟨h85, h91, h97⟩, cif_t h123]; exact hG) | (rw [show bcT kd st = 101 from cif_t ⟨h85, h91, h97⟩, cif_f h123]; exact hG) | (rw [show bcT kd st = st from cif_f (by first | exact fun z => h85 z.1 | exact fun z => z.2.1 h91 | exact fun z => z.2.2 h97), cif_t h123]; exact hG) | (rw [show bcT kd st = st from cif_f (by first | exact fun z => h85 z.1 | exact fun z => z.2.1 h91 | exact fun z => z.2.2 h97), cif_f h123]; exact hG)) (Nat.le_of_ble_eq_true rfl) (Nat.le_of_ble_eq_true rfl) dX7_becomes_133
          · skip
            refine lv_iconst (v := 1) hx hb dX7_becomes_126 (by decide) ?_
            refine lv_goto (tgt := 131) hx hb dX7_becomes_127 (by decide) ?_
            refine lv_iand hx hb dX7_becomes_131 ?_
            refine g_zast hC hG hS V_m8 _ rfl (by omega) (by omega) (and01 hD11 (by first | exact Or.inl rfl | exact Or.inr rfl)) P_m8 dX7_becomes_132 (fun H locs hG hS => ?_)
            exact R_V hC hS hr hlk (by unfold bcS; first | (rw [show bcT kd st = 101 from cif_t ⟨h85, h91, h97⟩, cif_t h123]; exact hG) | (rw [show bcT kd st = 101 from cif_t ⟨h85, h91, h97⟩, cif_f h123]; exact hG) | (rw [show bcT kd st = st from cif_f (by first | exact fun z => h85 z.1 | exact fun z => z.2.1 h91 | exact fun z => z.2.2 h97), cif_t h123]; exact hG) | (rw [show bcT kd st = st from cif_f (by first | exact fun z => h85 z.1 | exact fun z => z.2.1 h91 | exact fun z => z.2.2 h97), cif_f h123]; exact hG)) (Nat.le_of_ble_eq_true rfl) (Nat.le_of_ble_eq_true rfl) dX7_becomes_133
        · skip
          refine o_iload_n hx hb dX7_becomes_88 hl rfl ?_
          refine lv_bipush (v := 120) hx hb dX7_becomes_89 (by decide) ?_
          refine lv_icmp_eq (tgt := 105) hx hb dX7_becomes_91 (by decide) (fun h91 => ?_) (fun h91 => ?_)
          · skip
            refine o_iload_n hx hb dX7_becomes_105 hl rfl ?_
            refine g_cast hC hG hS V_m5 _ rfl (by omega) (by omega) hch.1 P_m5 dX7_becomes_106 (fun H locs hG hS => ?_)
            refine o_aload_n hx hb dX7_becomes_107 hl rfl ?_
            refine g_get hC hG us_X7 rfl 7 (by decide) fl_X7_35 V_model rfl dX7_becomes_108 ?_
            refine o_iload_n hx hb dX7_becomes_111 hl rfl ?_
            refine lv_iconst (v := (-1)) hx hb dX7_becomes_112 (by decide) ?_
            refine g_iast hC hG hS V_m7 _ rfl (by omega) (by omega) P_m7 dX7_becomes_113 (fun H locs hG hS => ?_)
            refine o_aload_n hx hb dX7_becomes_114 hl rfl ?_
            refine g_get hC hG us_X7 rfl 8 (by decide) fl_X7_38 V_model rfl dX7_becomes_115 ?_
            refine o_iload_n hx hb dX7_becomes_118 hl rfl ?_
            refine lv_dup2_11 hx hb dX7_becomes_119 rfl rfl ?_
            refine g_zald hC hG V_m8 _ rfl (by omega) (by omega) dX7_becomes_120 ?_
            refine o_iload_n hx hb dX7_becomes_121 hl rfl ?_
            refine lv_iconst (v := (-1)) hx hb dX7_becomes_122 (by decide) ?_
            refine lv_icmp_eq (tgt := 130) hx hb dX7_becomes_123 (by decide) (fun h123 => ?_) (fun h123 => ?_)
            · skip
              refine lv_iconst (v := 0) hx hb dX7_becomes_130 (by decide) ?_
              refine lv_iand hx hb dX7_becomes_131 ?_
              refine g_zast hC hG hS V_m8 _ rfl (by omega) (by omega) (and01 hD11 (by first | exact Or.inl rfl | exact Or.inr rfl)) P_m8 dX7_becomes_132 (fun H locs hG hS => ?_)
              exact R_V hC hS hr hlk (by unfold bcS; first | (rw [show bcT kd st = 101 from cif_t ⟨h85, h91, h97⟩, cif_t h123]; exact hG) | (rw [show bcT kd st = 101 from cif_t ⟨h85, h91, h97⟩, cif_f h123]; exact hG) | (rw [show bcT kd st = st from cif_f (by first | exact fun z => h85 z.1 | exact fun z => z.2.1 h91 | exact fun z => z.2.2 h97), cif_t h123]; exact hG) | (rw [show bcT kd st = st from cif_f (by first | exact fun z => h85 z.1 | exact fun z => z.2.1 h91 | exact fun z => z.2.2 h97), cif_f h123]; exact hG)) (Nat.le_of_ble_eq_true rfl) (Nat.le_of_ble_eq_true rfl) dX7_becomes_133
            · skip
              refine lv_iconst (v := 1) hx hb dX7_becomes_126 (by decide) ?_
              refine lv_goto (tgt := 131) hx hb dX7_becomes_127 (by decide) ?_
              refine lv_iand hx hb dX7_becomes_131 ?_
              refine g_zast hC hG hS V_m8 _ rfl (by omega) (by omega) (and01 hD11 (by first | exact Or.inl rfl | exact Or.inr rfl)) P_m8 dX7_becomes_132 (fun H locs hG hS => ?_)
              exact R_V hC hS hr hlk (by unfold bcS; first | (rw [show bcT kd st = 101 from cif_t ⟨h85, h91, h97⟩, cif_t h123]; exact hG) | (rw [show bcT kd st = 101 from cif_t ⟨h85, h91, h97⟩, cif_f h123]; exact hG) | (rw [show bcT kd st = st from cif_f (by first | exact fun z => h85 z.1 | exact fun z => z.2.1 h91 | exact fun z => z.2.2 h97), cif_t h123]; exact hG) | (rw [show bcT kd st = st from cif_f (by first | exact fun z => h85 z.1 | exact fun z => z.2.1 h91 | exact fun z => z.2.2 h97), cif_f h123]; exact hG)) (Nat.le_of_ble_eq_true rfl) (Nat.le_of_ble_eq_true rfl) dX7_becomes_133
          · skip
            refine o_iload_n hx hb dX7_becomes_94 hl rfl ?_
            refine lv_bipush (v := 45) hx hb dX7_becomes_95 (by decide) ?_
            refine lv_icmp_eq (tgt := 105) hx hb dX7_becomes_97 (by decide) (fun h97 => ?_) (fun h97 => ?_)
            · skip
              refine o_iload_n hx hb dX7_becomes_105 hl rfl ?_
              refine g_cast hC hG hS V_m5 _ rfl (by omega) (by omega) hch.1 P_m5 dX7_becomes_106 (fun H locs hG hS => ?_)
              refine o_aload_n hx hb dX7_becomes_107 hl rfl ?_
              refine g_get hC hG us_X7 rfl 7 (by decide) fl_X7_35 V_model rfl dX7_becomes_108 ?_
              refine o_iload_n hx hb dX7_becomes_111 hl rfl ?_
              refine lv_iconst (v := (-1)) hx hb dX7_becomes_112 (by decide) ?_
              refine g_iast hC hG hS V_m7 _ rfl (by omega) (by omega) P_m7 dX7_becomes_113 (fun H locs hG hS => ?_)
              refine o_aload_n hx hb dX7_becomes_114 hl rfl ?_
              refine g_get hC hG us_X7 rfl 8 (by decide) fl_X7_38 V_model rfl dX7_becomes_115 ?_
              refine o_iload_n hx hb dX7_becomes_118 hl rfl ?_
              refine lv_dup2_11 hx hb dX7_becomes_119 rfl rfl ?_
              refine g_zald hC hG V_m8 _ rfl (by omega) (by omega) dX7_becomes_120 ?_
              refine o_iload_n hx hb dX7_becomes_121 hl rfl ?_
              refine lv_iconst (v := (-1)) hx hb dX7_becomes_122 (by decide) ?_
              refine lv_icmp_eq (tgt := 130) hx hb dX7_becomes_123 (by decide) (fun h123 => ?_) (fun h123 => ?_)
              · skip
                refine lv_iconst (v := 0) hx hb dX7_becomes_130 (by decide) ?_
                refine lv_iand hx hb dX7_becomes_131 ?_
                refine g_zast hC hG hS V_m8 _ rfl (by omega) (by omega) (and01 hD11 (by first | exact Or.inl rfl | exact Or.inr rfl)) P_m8 dX7_becomes_132 (fun H locs hG hS => ?_)
                exact R_V hC hS hr hlk (by unfold bcS; first | (rw [show bcT kd st = 101 from cif_t ⟨h85, h91, h97⟩, cif_t h123]; exact hG) | (rw [show bcT kd st = 101 from cif_t ⟨h85, h91, h97⟩, cif_f h123]; exact hG) | (rw [show bcT kd st = st from cif_f (by first | exact fun z => h85 z.1 | exact fun z => z.2.1 h91 | exact fun z => z.2.2 h97), cif_t h123]; exact hG) | (rw [show bcT kd st = st from cif_f (by first | exact fun z => h85 z.1 | exact fun z => z.2.1 h91 | exact fun z => z.2.2 h97), cif_f h123]; exact hG)) (Nat.le_of_ble_eq_true rfl) (Nat.le_of_ble_eq_true rfl) dX7_becomes_133
              · skip
                refine lv_iconst (v := 1) hx hb dX7_becomes_126 (by decide) ?_
                refine lv_goto (tgt := 131) hx hb dX7_becomes_127 (by decide) ?_
                refine lv_iand hx hb dX7_becomes_131 ?_
                refine g_zast hC hG hS V_m8 _ rfl (by omega) (by omega) (and01 hD11 (by first | exact Or.inl rfl | exact Or.inr rfl)) P_m8 dX7_becomes_132 (fun H locs hG hS => ?_)
                exact R_V hC hS hr hlk (by unfold bcS; first | (rw [show bcT kd st = 101 from cif_t ⟨h85, h91, h97⟩, cif_t h123]; exact hG) | (rw [show bcT kd st = 101 from cif_t ⟨h85, h91, h97⟩, cif_f h123]; exact hG) | (rw [show bcT kd st = st from cif_f (by first | exact fun z => h85 z.1 | exact fun z => z.2.1 h91 | exact fun z => z.2.2 h97), cif_t h123]; exact hG) | (rw [show bcT kd st = st from cif_f (by first | exact fun z => h85 z.1 | exact fun z => z.2.1 h91 | exact fun z => z.2.2 h97), cif_f h123]; exact hG)) (Nat.le_of_ble_eq_true rfl) (Nat.le_of_ble_eq_true rfl) dX7_becomes_133
            · skip
              refine lv_bipush (v := 101) hx hb dX7_becomes_100 (by decide) ?_
              refine lv_goto (tgt := 106) hx hb dX7_becomes_102 (by decide) ?_
              refine g_cast hC hG hS V_m5 _ rfl (by omega) (by omega) rfl P_m5 dX7_becomes_106 (fun H locs hG hS => ?_)
              refine o_aload_n hx hb dX7_becomes_107 hl rfl ?_
              refine g_get hC hG us_X7 rfl 7 (by decide) fl_X7_35 V_model rfl dX7_becomes_108 ?_
              refine o_iload_n hx hb dX7_becomes_111 hl rfl ?_
              refine lv_iconst (v := (-1)) hx hb dX7_becomes_112 (by decide) ?_
              refine g_iast hC hG hS V_m7 _ rfl (by omega) (by omega) P_m7 dX7_becomes_113 (fun H locs hG hS => ?_)
              refine o_aload_n hx hb dX7_becomes_114 hl rfl ?_
              refine g_get hC hG us_X7 rfl 8 (by decide) fl_X7_38 V_model rfl dX7_becomes_115 ?_
              refine o_iload_n hx hb dX7_becomes_118 hl rfl ?_
              refine lv_dup2_11 hx hb dX7_becomes_119 rfl rfl ?_
              refine g_zald hC hG V_m8 _ rfl (by omega) (by omega) dX7_becomes_120 ?_
              refine o_iload_n hx hb dX7_becomes_121 hl rfl ?_
              refine lv_iconst (v := (-1)) hx hb dX7_becomes_122 (by decide) ?_
              refine lv_icmp_eq (tgt := 130) hx hb dX7_becomes_123 (by decide) (fun h123 => ?_) (fun h123 => ?_)
              · skip
                refine lv_iconst (v := 0) hx hb dX7_becomes_130 (by decide) ?_
                refine lv_iand hx hb dX7_becomes_131 ?_
                refine g_zast hC hG hS V_m8 _ rfl (by omega) (by omega) (and01 hD11 (by first | exact Or.inl rfl | exact Or.inr rfl)) P_m8 dX7_becomes_132 (fun H locs hG hS => ?_)
                exact R_V hC hS hr hlk (by unfold bcS; first | (rw [show bcT kd st = 101 from cif_t ⟨h85, h91, h97⟩, cif_t h123]; exact hG) | (rw [show bcT kd st = 101 from cif_t ⟨h85, h91, h97⟩, cif_f h123]; exact hG) | (rw [show bcT kd st = st from cif_f (by first | exact fun z => h85 z.1 | exact fun z => z.2.1 h91 | exact fun z => z.2.2 h97), cif_t h123]; exact hG) | (rw [show bcT kd st = st from cif_f (by first | exact fun z => h85 z.1 | exact fun z => z.2.1 h91 | exact fun z => z.2.2 h97), cif_f h123]; exact hG)) (Nat.le_of_ble_eq_true rfl) (Nat.le_of_ble_eq_true rfl) dX7_becomes_133
              · skip
                refine lv_iconst (v := 1) hx hb dX7_becomes_126 (by decide) ?_
                refine lv_goto (tgt := 131) hx hb dX7_becomes_127 (by decide) ?_
                refine lv_iand hx hb dX7_becomes_131 ?_
                refine g_zast hC hG hS V_m8 _ rfl (by omega) (by omega) (and01 hD11 (by first | exact Or.inl rfl | exact Or.inr rfl)) P_m8 dX7_becomes_132 (fun H locs hG hS => ?_)
                exact R_V hC hS hr hlk (by unfold bcS; first | (rw [show bcT kd st = 101 from cif_t ⟨h85, h91, h97⟩, cif_t h123]; exact hG) | (rw [show bcT kd st = 101 from cif_t ⟨h85, h91, h97⟩, cif_f h123]; exact hG) | (rw [show bcT kd st = st from cif_f (by first | exact fun z => h85 z.1 | exact fun z => z.2.1 h91 | exact fun z => z.2.2 h97), cif_t h123]; exact hG) | (rw [show bcT kd st = st from cif_f (by first | exact fun z => h85 z.1 | exact fun z => z.2.1 h91 | exact fun z => z.2.2 h97), cif_f h123]; exact hG)) (Nat.le_of_ble_eq_true rfl) (Nat.le_of_ble_eq_true rfl) dX7_becomes_133
      · skip
        refine o_iload_n hx hb dX7_becomes_12 hl rfl ?_
        refine o_aload_n hx hb dX7_becomes_13 hl rfl ?_
        refine g_get hC hG us_X7 rfl 6 (by decide) fl_X7_32 V_model rfl dX7_becomes_14 ?_
        refine o_iload_n hx hb dX7_becomes_17 hl rfl ?_
        refine g_iald hC hG V_m6 _ rfl (by omega) (by omega) dX7_becomes_18 ?_
        refine lv_icmp_eq (tgt := 71) hx hb dX7_becomes_19 (by decide) (fun h19 => ?_) (fun h19 => ?_)
        · skip
          have hG : GW D B ad (Vw cy de ad S n (bcD T a kd (k 3)) k th X) H := by
            unfold bcD
            by_cases hz : T 10 a 0 = kd
            · have hyy : y = 0 := hy0.elim id (fun z => absurd hz z)
              subst hyy
              rw [cif_t hz]; exact hG
            · have hyy : y = k 3 := by first | omega | exact absurd (by rw [← z10]; exact h19.symm) hz
              subst hyy
              rw [cif_f hz]; exact hG
          have hD11 : bcD T a kd (k 3) 11 a 0 = 0 ∨ bcD T a kd (k 3) 11 a 0 = 1 := by rw [bcD_c (by decide) (by decide)]; exact hB11
          refine o_aload_n hx hb dX7_becomes_71 hl rfl ?_
          refine g_get hC hG us_X7 rfl 6 (by decide) fl_X7_32 V_model rfl dX7_becomes_72 ?_
          refine o_iload_n hx hb dX7_becomes_75 hl rfl ?_
          refine o_iload_n hx hb dX7_becomes_76 hl rfl ?_
          refine g_iast hC hG hS V_m6 _ rfl (by omega) (by omega) P_m6 dX7_becomes_77 (fun H locs hG hS => ?_)
          refine o_aload_n hx hb dX7_becomes_78 hl rfl ?_
          refine g_get hC hG us_X7 rfl 5 (by decide) fl_X7_28 V_model rfl dX7_becomes_79 ?_
          refine o_iload_n hx hb dX7_becomes_82 hl rfl ?_
          refine o_iload_n hx hb dX7_becomes_83 hl rfl ?_
          refine lv_iconst (v := (-1)) hx hb dX7_becomes_84 (by decide) ?_
          refine lv_icmp_ne (tgt := 105) hx hb dX7_becomes_85 (by decide) (fun h85 => ?_) (fun h85 => ?_)
          · skip
            refine o_iload_n hx hb dX7_becomes_105 hl rfl ?_
            refine g_cast hC hG hS V_m5 _ rfl (by omega) (by omega) hch.1 P_m5 dX7_becomes_106 (fun H locs hG hS => ?_)
            refine o_aload_n hx hb dX7_becomes_107 hl rfl ?_
            refine g_get hC hG us_X7 rfl 7 (by decide) fl_X7_35 V_model rfl dX7_becomes_108 ?_
            refine o_iload_n hx hb dX7_becomes_111 hl rfl ?_
            refine lv_iconst (v := (-1)) hx hb dX7_becomes_112 (by decide) ?_
            refine g_iast hC hG hS V_m7 _ rfl (by omega) (by omega) P_m7 dX7_becomes_113 (fun H locs hG hS => ?_)
            refine o_aload_n hx hb dX7_becomes_114 hl rfl ?_
            refine g_get hC hG us_X7 rfl 8 (by decide) fl_X7_38 V_model rfl dX7_becomes_115 ?_
            refine o_iload_n hx hb dX7_becomes_118 hl rfl ?_
            refine lv_dup2_11 hx hb dX7_becomes_119 rfl rfl ?_
            refine g_zald hC hG V_m8 _ rfl (by omega) (by omega) dX7_becomes_120 ?_
            refine o_iload_n hx hb dX7_becomes_121 hl rfl ?_
            refine lv_iconst (v := (-1)) hx hb dX7_becomes_122 (by decide) ?_
            refine lv_icmp_eq (tgt := 130) hx hb dX7_becomes_123 (by decide) (fun h123 => ?_) (fun h123 => ?_)
            · skip
              refine lv_iconst (v := 0) hx hb dX7_becomes_130 (by decide) ?_
              refine lv_iand hx hb dX7_becomes_131 ?_
              refine g_zast hC hG hS V_m8 _ rfl (by omega) (by omega) (and01 hD11 (by first | exact Or.inl rfl | exact Or.inr rfl)) P_m8 dX7_becomes_132 (fun H locs hG hS => ?_)
              exact R_V hC hS hr hlk (by unfold bcS; first | (rw [show bcT kd st = 101 from cif_t ⟨h85, h91, h97⟩, cif_t h123]; exact hG) | (rw [show bcT kd st = 101 from cif_t ⟨h85, h91, h97⟩, cif_f h123]; exact hG) | (rw [show bcT kd st = st from cif_f (by first | exact fun z => h85 z.1 | exact fun z => z.2.1 h91 | exact fun z => z.2.2 h97), cif_t h123]; exact hG) | (rw [show bcT kd st = st from cif_f (by first | exact fun z => h85 z.1 | exact fun z => z.2.1 h91 | exact fun z => z.2.2 h97), cif_f h123]; exact hG)) (Nat.le_of_ble_eq_true rfl) (Nat.le_of_ble_eq_true rfl) dX7_becomes_133
            · skip
              refine lv_iconst (v := 1) hx hb dX7_becomes_126 (by decide) ?_
              refine lv_goto (tgt := 131) hx hb dX7_becomes_127 (by decide) ?_
              refine lv_iand hx hb dX7_becomes_131 ?_
              refine g_zast hC hG hS V_m8 _ rfl (by omega) (by omega) (and01 hD11 (by first | exact Or.inl rfl | exact Or.inr rfl)) P_m8 dX7_becomes_132 (fun H locs hG hS => ?_)
              exact R_V hC hS hr hlk (by unfold bcS; first | (rw [show bcT kd st = 101 from cif_t ⟨h85, h91, h97⟩, cif_t h123]; exact hG) | (rw [show bcT kd st = 101 from cif_t ⟨h85, h91, h97⟩, cif_f h123]; exact hG) | (rw [show bcT kd st = st from cif_f (by first | exact fun z => h85 z.1 | exact fun z => z.2.1 h91 | exact fun z => z.2.2 h97), cif_t h123]; exact hG) | (rw [show bcT kd st = st from cif_f (by first | exact fun z => h85 z.1 | exact fun z => z.2.1 h91 | exact fun z => z.2.2 h97), cif_f h123]; exact hG)) (Nat.le_of_ble_eq_true rfl) (Nat.le_of_ble_eq_true rfl) dX7_becomes_133
          · skip
            refine o_iload_n hx hb dX7_becomes_88 hl rfl ?_
            refine lv_bipush (v := 120) hx hb dX7_becomes_89 (by decide) ?_
            refine lv_icmp_eq (tgt := 105) hx hb dX7_becomes_91 (by decide) (fun h91 => ?_) (fun h91 => ?_)
            · skip
              refine o_iload_n hx hb dX7_becomes_105 hl rfl ?_
              refine g_cast hC hG hS V_m5 _ rfl (by omega) (by omega) hch.1 P_m5 dX7_becomes_106 (fun H locs hG hS => ?_)
              refine o_aload_n hx hb dX7_becomes_107 hl rfl ?_
              refine g_get hC hG us_X7 rfl 7 (by decide) fl_X7_35 V_model rfl dX7_becomes_108 ?_
              refine o_iload_n hx hb dX7_becomes_111 hl rfl ?_
              refine lv_iconst (v := (-1)) hx hb dX7_becomes_112 (by decide) ?_
              refine g_iast hC hG hS V_m7 _ rfl (by omega) (by omega) P_m7 dX7_becomes_113 (fun H locs hG hS => ?_)
              refine o_aload_n hx hb dX7_becomes_114 hl rfl ?_
              refine g_get hC hG us_X7 rfl 8 (by decide) fl_X7_38 V_model rfl dX7_becomes_115 ?_
              refine o_iload_n hx hb dX7_becomes_118 hl rfl ?_
              refine lv_dup2_11 hx hb dX7_becomes_119 rfl rfl ?_
              refine g_zald hC hG V_m8 _ rfl (by omega) (by omega) dX7_becomes_120 ?_
              refine o_iload_n hx hb dX7_becomes_121 hl rfl ?_
              refine lv_iconst (v := (-1)) hx hb dX7_becomes_122 (by decide) ?_
              refine lv_icmp_eq (tgt := 130) hx hb dX7_becomes_123 (by decide) (fun h123 => ?_) (fun h123 => ?_)
              · skip
                refine lv_iconst (v := 0) hx hb dX7_becomes_130 (by decide) ?_
                refine lv_iand hx hb dX7_becomes_131 ?_
                refine g_zast hC hG hS V_m8 _ rfl (by omega) (by omega) (and01 hD11 (by first | exact Or.inl rfl | exact Or.inr rfl)) P_m8 dX7_becomes_132 (fun H locs hG hS => ?_)
                exact R_V hC hS hr hlk (by unfold bcS; first | (rw [show bcT kd st = 101 from cif_t ⟨h85, h91, h97⟩, cif_t h123]; exact hG) | (rw [show bcT kd st = 101 from cif_t ⟨h85, h91, h97⟩, cif_f h123]; exact hG) | (rw [show bcT kd st = st from cif_f (by first | exact fun z => h85 z.1 | exact fun z => z.2.1 h91 | exact fun z => z.2.2 h97), cif_t h123]; exact hG) | (rw [show bcT kd st = st from cif_f (by first | exact fun z => h85 z.1 | exact fun z => z.2.1 h91 | exact fun z => z.2.2 h97), cif_f h123]; exact hG)) (Nat.le_of_ble_eq_true rfl) (Nat.le_of_ble_eq_true rfl) dX7_becomes_133
              · skip
                refine lv_iconst (v := 1) hx hb dX7_becomes_126 (by decide) ?_
                refine lv_goto (tgt := 131) hx hb dX7_becomes_127 (by decide) ?_
                refine lv_iand hx hb dX7_becomes_131 ?_
                refine g_zast hC hG hS V_m8 _ rfl (by omega) (by omega) (and01 hD11 (by first | exact Or.inl rfl | exact Or.inr rfl)) P_m8 dX7_becomes_132 (fun H locs hG hS => ?_)
                exact R_V hC hS hr hlk (by unfold bcS; first | (rw [show bcT kd st = 101 from cif_t ⟨h85, h91, h97⟩, cif_t h123]; exact hG) | (rw [show bcT kd st = 101 from cif_t ⟨h85, h91, h97⟩, cif_f h123]; exact hG) | (rw [show bcT kd st = st from cif_f (by first | exact fun z => h85 z.1 | exact fun z => z.2.1 h91 | exact fun z => z.2.2 h97), cif_t h123]; exact hG) | (rw [show bcT kd st = st from cif_f (by first | exact fun z => h85 z.1 | exact fun z => z.2.1 h91 | exact fun z => z.2.2 h97), cif_f h123]; exact hG)) (Nat.le_of_ble_eq_true rfl) (Nat.le_of_ble_eq_true rfl) dX7_becomes_133
            · skip
              refine o_iload_n hx hb dX7_becomes_94 hl rfl ?_
              refine lv_bipush (v := 45) hx hb dX7_becomes_95 (by decide) ?_
              refine lv_icmp_eq (tgt := 105) hx hb dX7_becomes_97 (by decide) (fun h97 => ?_) (fun h97 => ?_)
              · skip
                refine o_iload_n hx hb dX7_becomes_105 hl rfl ?_
                refine g_cast hC hG hS V_m5 _ rfl (by omega) (by omega) hch.1 P_m5 dX7_becomes_106 (fun H locs hG hS => ?_)
                refine o_aload_n hx hb dX7_becomes_107 hl rfl ?_
                refine g_get hC hG us_X7 rfl 7 (by decide) fl_X7_35 V_model rfl dX7_becomes_108 ?_
                refine o_iload_n hx hb dX7_becomes_111 hl rfl ?_
                refine lv_iconst (v := (-1)) hx hb dX7_becomes_112 (by decide) ?_
                refine g_iast hC hG hS V_m7 _ rfl (by omega) (by omega) P_m7 dX7_becomes_113 (fun H locs hG hS => ?_)
                refine o_aload_n hx hb dX7_becomes_114 hl rfl ?_
                refine g_get hC hG us_X7 rfl 8 (by decide) fl_X7_38 V_model rfl dX7_becomes_115 ?_
                refine o_iload_n hx hb dX7_becomes_118 hl rfl ?_
                refine lv_dup2_11 hx hb dX7_becomes_119 rfl rfl ?_
                refine g_zald hC hG V_m8 _ rfl (by omega) (by omega) dX7_becomes_120 ?_
                refine o_iload_n hx hb dX7_becomes_121 hl rfl ?_
                refine lv_iconst (v := (-1)) hx hb dX7_becomes_122 (by decide) ?_
                refine lv_icmp_eq (tgt := 130) hx hb dX7_becomes_123 (by decide) (fun h123 => ?_) (fun h123 => ?_)
                · skip
                  refine lv_iconst (v := 0) hx hb dX7_becomes_130 (by decide) ?_
                  refine lv_iand hx hb dX7_becomes_131 ?_
                  refine g_zast hC hG hS V_m8 _ rfl (by omega) (by omega) (and01 hD11 (by first | exact Or.inl rfl | exact Or.inr rfl)) P_m8 dX7_becomes_132 (fun H locs hG hS => ?_)
                  exact R_V hC hS hr hlk (by unfold bcS; first | (rw [show bcT kd st = 101 from cif_t ⟨h85, h91, h97⟩, cif_t h123]; exact hG) | (rw [show bcT kd st = 101 from cif_t ⟨h85, h91, h97⟩, cif_f h123]; exact hG) | (rw [show bcT kd st = st from cif_f (by first | exact fun z => h85 z.1 | exact fun z => z.2.1 h91 | exact fun z => z.2.2 h97), cif_t h123]; exact hG) | (rw [show bcT kd st = st from cif_f (by first | exact fun z => h85 z.1 | exact fun z => z.2.1 h91 | exact fun z => z.2.2 h97), cif_f h123]; exact hG)) (Nat.le_of_ble_eq_true rfl) (Nat.le_of_ble_eq_true rfl) dX7_becomes_133
                · skip
                  refine lv_iconst (v := 1) hx hb dX7_becomes_126 (by decide) ?_
                  refine lv_goto (tgt := 131) hx hb dX7_becomes_127 (by decide) ?_
                  refine lv_iand hx hb dX7_becomes_131 ?_
                  refine g_zast hC hG hS V_m8 _ rfl (by omega) (by omega) (and01 hD11 (by first | exact Or.inl rfl | exact Or.inr rfl)) P_m8 dX7_becomes_132 (fun H locs hG hS => ?_)
                  exact R_V hC hS hr hlk (by unfold bcS; first | (rw [show bcT kd st = 101 from cif_t ⟨h85, h91, h97⟩, cif_t h123]; exact hG) | (rw [show bcT kd st = 101 from cif_t ⟨h85, h91, h97⟩, cif_f h123]; exact hG) | (rw [show bcT kd st = st from cif_f (by first | exact fun z => h85 z.1 | exact fun z => z.2.1 h91 | exact fun z => z.2.2 h97), cif_t h123]; exact hG) | (rw [show bcT kd st = st from cif_f (by first | exact fun z => h85 z.1 | exact fun z => z.2.1 h91 | exact fun z => z.2.2 h97), cif_f h123]; exact hG)) (Nat.le_of_ble_eq_true rfl) (Nat.le_of_ble_eq_true rfl) dX7_becomes_133
              · skip
                refine lv_bipush (v := 101) hx hb dX7_becomes_100 (by decide) ?_
                refine lv_goto (tgt := 106) hx hb dX7_becomes_102 (by decide) ?_
                refine g_cast hC hG hS V_m5 _ rfl (by omega) (by omega) rfl P_m5 dX7_becomes_106 (fun H locs hG hS => ?_)
                refine o_aload_n hx hb dX7_becomes_107 hl rfl ?_
                refine g_get hC hG us_X7 rfl 7 (by decide) fl_X7_35 V_model rfl dX7_becomes_108 ?_
                refine o_iload_n hx hb dX7_becomes_111 hl rfl ?_
                refine lv_iconst (v := (-1)) hx hb dX7_becomes_112 (by decide) ?_
                refine g_iast hC hG hS V_m7 _ rfl (by omega) (by omega) P_m7 dX7_becomes_113 (fun H locs hG hS => ?_)
                refine o_aload_n hx hb dX7_becomes_114 hl rfl ?_
                refine g_get hC hG us_X7 rfl 8 (by decide) fl_X7_38 V_model rfl dX7_becomes_115 ?_
                refine o_iload_n hx hb dX7_becomes_118 hl rfl ?_
                refine lv_dup2_11 hx hb dX7_becomes_119 rfl rfl ?_
                refine g_zald hC hG V_m8 _ rfl (by omega) (by omega) dX7_becomes_120 ?_
                refine o_iload_n hx hb dX7_becomes_121 hl rfl ?_
                refine lv_iconst (v := (-1)) hx hb dX7_becomes_122 (by decide) ?_
                refine lv_icmp_eq (tgt := 130) hx hb dX7_becomes_123 (by decide) (fun h123 => ?_) (fun h123 => ?_)
                · skip
                  refine lv_iconst (v := 0) hx hb dX7_becomes_130 (by decide) ?_
                  refine lv_iand hx hb dX7_becomes_131 ?_
                  refine g_zast hC hG hS V_m8 _ rfl (by omega) (by omega) (and01 hD11 (by first | exact Or.inl rfl | exact Or.inr rfl)) P_m8 dX7_becomes_132 (fun H locs hG hS => ?_)
                  exact R_V hC hS hr hlk (by unfold bcS; first | (rw [show bcT kd st = 101 from cif_t ⟨h85, h91, h97⟩, cif_t h123]; exact hG) | (rw [show bcT kd st = 101 from cif_t ⟨h85, h91, h97⟩, cif_f h123]; exact hG) | (rw [show bcT kd st = st from cif_f (by first | exact fun z => h85 z.1 | exact fun z => z.2.1 h91 | exact fun z => z.2.2 h97), cif_t h123]; exact hG) | (rw [show bcT kd st = st from cif_f (by first | exact fun z => h85 z.1 | exact fun z => z.2.1 h91 | exact fun z => z.2.2 h97), cif_f h123]; exact hG)) (Nat.le_of_ble_eq_true rfl) (Nat.le_of_ble_eq_true rfl) dX7_becomes_133
                · skip
                  refine lv_iconst (v := 1) hx hb dX7_becomes_126 (by decide) ?_
                  refine lv_goto (tgt := 131) hx hb dX7_becomes_127 (by decide) ?_
                  refine lv_iand hx hb dX7_becomes_131 ?_
                  refine g_zast hC hG hS V_m8 _ rfl (by omega) (by omega) (and01 hD11 (by first | exact Or.inl rfl | exact Or.inr rfl)) P_m8 dX7_becomes_132 (fun H locs hG hS => ?_)
                  exact R_V hC hS hr hlk (by unfold bcS; first | (rw [show bcT kd st = 101 from cif_t ⟨h85, h91, h97⟩, cif_t h123]; exact hG) | (rw [show bcT kd st = 101 from cif_t ⟨h85, h91, h97⟩, cif_f h123]; exact hG) | (rw [show bcT kd st = st from cif_f (by first | exact fun z => h85 z.1 | exact fun z => z.2.1 h91 | exact fun z => z.2.2 h97), cif_t h123]; exact hG) | (rw [show bcT kd st = st from cif_f (by first | exact fun z => h85 z.1 | exact fun z => z.2.1 h91 | exact fun z => z.2.2 h97), cif_f h123]; exact hG)) (Nat.le_of_ble_eq_true rfl) (Nat.le_of_ble_eq_true rfl) dX7_becomes_133
        · skip
          refine o_aload_n hx hb dX7_becomes_22 hl rfl ?_
          refine g_get hC hG us_X7 rfl 17 (by decide) fl_X7_65 V_model rfl dX7_becomes_23 ?_
          refine o_iload hx hb dX7_becomes_26 hl rfl ?_
          refine g_aald hC hG 7 rfl rfl V_o17 _ rfl (by omega) (by omega) dX7_becomes_28 ?_
          refine o_iload_n hx hb dX7_becomes_29 hl rfl ?_
          refine g_iald hC hG (V_r17 (by omega)) _ rfl (by omega) (by omega) dX7_becomes_30 ?_
          refine lv_iconst (v := (-1)) hx hb dX7_becomes_31 (by decide) ?_
          refine lv_icmp_eq (tgt := 65) hx hb dX7_becomes_32 (by decide) (fun h32 => ?_) (fun h32 => ?_)
          · skip
            refine o_iinc1 hx hb dX7_becomes_65 hl rfl (by decide) rfl (fun ls hl => ?_)
            refine lv_goto (tgt := 3) hx hb dX7_becomes_68 (by decide) ?_
            exact ih3 (y + 1) (by omega) (Or.inr (fun z => h19 (by rw [z10]; exact z.symm))) H locs (by first | (rw [dropS_t (S := T) (i := a) (c := y) ⟨fun z => h32 (by rw [z20]; exact z), by rw [← z19]; exact h42⟩]; exact hG) | (rw [dropS_f (S := T) (i := a) (c := y) (fun z => z.1 (by rw [← z20]; exact h32))]; exact hG) | (rw [dropS_f (S := T) (i := a) (c := y) (fun z => h42 (by rw [z19]; exact z.2))]; exact hG)) hS ls hl
          · skip
            refine o_aload_n hx hb dX7_becomes_35 hl rfl ?_
            refine g_get hC hG us_X7 rfl 16 (by decide) fl_X7_62 V_model rfl dX7_becomes_36 ?_
            refine o_iload hx hb dX7_becomes_39 hl rfl ?_
            refine g_zald hC hG V_m16 _ rfl (by omega) (by omega) dX7_becomes_41 ?_
            refine lv_if_ne (tgt := 65) hx hb dX7_becomes_42 (by decide) (fun h42 => ?_) (fun h42 => ?_)
            · skip
              refine o_iinc1 hx hb dX7_becomes_65 hl rfl (by decide) rfl (fun ls hl => ?_)
              refine lv_goto (tgt := 3) hx hb dX7_becomes_68 (by decide) ?_
              exact ih3 (y + 1) (by omega) (Or.inr (fun z => h19 (by rw [z10]; exact z.symm))) H locs (by first | (rw [dropS_t (S := T) (i := a) (c := y) ⟨fun z => h32 (by rw [z20]; exact z), by rw [← z19]; exact h42⟩]; exact hG) | (rw [dropS_f (S := T) (i := a) (c := y) (fun z => z.1 (by rw [← z20]; exact h32))]; exact hG) | (rw [dropS_f (S := T) (i := a) (c := y) (fun z => h42 (by rw [z19]; exact z.2))]; exact hG)) hS ls hl
            · skip
              refine o_aload_n hx hb dX7_becomes_45 hl rfl ?_
              refine g_get hC hG us_X7 rfl 18 (by decide) fl_X7_70 V_model rfl dX7_becomes_46 ?_
              refine o_iload hx hb dX7_becomes_49 hl rfl ?_
              refine g_aald hC hG 8 rfl rfl V_o18 _ rfl (by omega) (by omega) dX7_becomes_51 ?_
              refine o_iload_n hx hb dX7_becomes_52 hl rfl ?_
              refine lv_iconst (v := 1) hx hb dX7_becomes_53 (by decide) ?_
              refine g_zast hC hG hS (V_r18 (by omega)) _ rfl (by omega) (by omega) (Or.inr rfl) (P_r18 (by omega)) dX7_becomes_54 (fun H locs hG hS => ?_)
              refine o_aload_n hx hb dX7_becomes_55 hl rfl ?_
              refine g_get hC hG us_X7 rfl 19 (by decide) fl_X7_73 V_model rfl dX7_becomes_56 ?_
              refine o_iload hx hb dX7_becomes_59 hl rfl ?_
              refine g_aald hC hG 7 rfl rfl V_o19 _ rfl (by omega) (by omega) dX7_becomes_61 ?_
              refine o_iload_n hx hb dX7_becomes_62 hl rfl ?_
              refine lv_iconst (v := (-1)) hx hb dX7_becomes_63 (by decide) ?_
              refine g_iast hC hG hS (V_r19 (by omega)) _ rfl (by omega) (by omega) (P_r19 (by omega)) dX7_becomes_64 (fun H locs hG hS => ?_)
              refine o_iinc1 hx hb dX7_becomes_65 hl rfl (by decide) rfl (fun ls hl => ?_)
              refine lv_goto (tgt := 3) hx hb dX7_becomes_68 (by decide) ?_
              exact ih3 (y + 1) (by omega) (Or.inr (fun z => h19 (by rw [z10]; exact z.symm))) H locs (by first | (rw [dropS_t (S := T) (i := a) (c := y) ⟨fun z => h32 (by rw [z20]; exact z), by rw [← z19]; exact h42⟩]; exact hG) | (rw [dropS_f (S := T) (i := a) (c := y) (fun z => z.1 (by rw [← z20]; exact h32))]; exact hG) | (rw [dropS_f (S := T) (i := a) (c := y) (fun z => h42 (by rw [z19]; exact z.2))]; exact hG)) hS ls hl
  exact loop3 (k 3 + 1) 0 (by omega) (Or.inl rfl) s.heap [] hG hS ls hl
theorem k_X7_becomes {p : Program} {l : Launch} {e : Env} {R : Room} {s : State} {m : MethodId} {args : Array Value} {below : List Frame} {meth : Method} {c : Code} {H : Heap} {locs : List Loc} {cells slots : Nat} {Q : State → Prop} {cc : ByteArray} {pc nL : Nat} {ls : Array Slot} {rest : List Value} {own : String} {D : va_G} {cy : Nat → ClassId} {sa : Nat → Nat} {de B : Nat} {ad : Ad} {S : St} {n : Nat → Nat} {T : St} {k : Nat → Nat} {th : Int32} {X : Rl} {a : Nat} {kd st : Int32}  (hC : Cx p m c cc nL s args own D cy sa de B) (hS : va_S (AB B) s.heap H locs) (hG : GW D B ad (Vw cy de ad S n T k th X) H) (h0 : a < 16 ∧ MB k ∧ chP st ∧ (T 11 a 0 = 0 ∨ T 11 a 0 = 1))  {idx : Nat} (wl : Cond.methodLink own idx yX7_becomes ∈ G0) (hR : 0 + 1 ≤ R.frames ∧ 8 + (5 + 11) + 0 ≤ R.locals) (hsz : ls.size = nL) (hst : (rest.map fun v => v.category).sum ≤ 8) (hdg : decode cc pc = .ok (.invokevirtual idx, 3)) (hcs : cells + 0 ≤ R.cells ∧ slots + 0 ≤ R.slots) (kk : ∀ (H1 : Heap) (locs1 : List Loc), ((fun H => GW D B ad (Vw cy de ad S n (bcS T a kd st (k 3)) k th X) H)) H1 → va_S (AB B) s.heap H1 locs1 → W p l e R s m args below meth c H1 locs1 cells slots Q (F0 m (pc + 3) ls (rest))) : W p l e R s m args below meth c H locs cells slots Q (F0 m pc ls (.int st :: .int kd :: .int (nI a) :: .ref (ad 13 0 0) :: rest)) :=
  va_callv (rV hC hS hG h0 (As := [.int (nI a), .int kd, .int st]) (c_X7_becomes l) ⟨rfl, rfl⟩ wl im_X7_becomes sl_X7_X7_becomes in_X7 cd_X7_becomes (n := 3) (by decide +kernel) hR (recv hC hG (q := (RX7, TX7, 26)) rfl V_model) rfl hsz hst rfl hdg hcs) hS (fun _ _ h => h) (fun _ h => h) (fun u t H1 locs1 ht _ _ hB _ _ hS1 => kk H1 locs1 (by dsimp only at hB; rw [ht] at hB; exact hB) hS1)
set_option maxHeartbeats 4000000 in
set_option maxRecDepth 100000 in
theorem c_X7_finds (l : Launch) {D : va_G} {cy : Nat → ClassId} {sa : Nat → Nat} {de B : Nat} {ad : Ad} {S : St} {n : Nat → Nat} {T : St} {k : Nat → Nat} {th : Int32} {X : Rl} {a : Nat}  : Met l yX7_finds (Cond.code yX7_finds cX7_finds 4 (Option.none : Option Jvm.ClassFile.FieldType) :: G0) ({ frames := 3, cells := 0, slots := 0, locals := 72 } : Room) (va_Pc [.ref (ad 13 0 0), .int (nI a)] (PW D cy sa de B ad (Vw cy de ad S n T k th X) (a < 16 ∧ MB k ∧ KYm T k ∧ (T 11 a 0 = 0 ∨ T 11 a 0 = 1)))) (oV B (fun H => GW D B ad (Vw cy de ad S n (fiM T k a) k th X) H)) 0 0 (AB B) := by
  refine E_met (own := RX7) rfl rfl (Nat.le_of_ble_eq_true rfl) ?_
  intro p e s m below meth c hC hr hlk hnm hG h0 ls hl
  have hx := hC.x
  have hb := hC.b
  have hS : va_S (AB B) s.heap s.heap [] := va_S.rf
  have hl : lo ls 4 [some (.ref (ad 13 0 0)), some (.int (nI a)), none, none] := lo_of hl
  obtain ⟨ha, hMB, hKYm, hB11⟩ := h0
  have hMB9 := hMB
  obtain ⟨hM0, hM1, hM2, hM3⟩ := hMB9
  refine lv_iconst (v := 0) hx hb dX7_finds_0 (by decide) ?_
  refine o_istore_n hx hb dX7_finds_1 hl (by decide) rfl (fun ls hl => ?_)
  refine lv_iconst (v := 0) hx hb dX7_finds_2 (by decide) ?_
  refine o_istore_n hx hb dX7_finds_3 hl (by decide) rfl (fun ls hl => ?_)
  have loop4 : ∀ (q9 : Nat) (y : Nat), y ≤ 5 ∧ 5 < y + q9 → ∀ (H : Heap) (locs : List Loc), GW D B ad (Vw cy de ad S n (fm T a (T 6 a) y) k th X) H → va_S (AB B) s.heap H locs → ∀ ls : Array Slot, lo ls 4 [some (.ref (ad 13 0 0)), some (.int (nI a)), some (.int (hF T a y)), some (.int (nI y))] → W p l e ({ frames := 3, cells := 0, slots := 0, locals := 72 } : Room) s m [.ref (ad 13 0 0), .int (nI a)].toArray below meth c H locs 0 0 (MQ below (oV B (fun H => GW D B ad (Vw cy de ad S n (fiM T k a) k th X) H)) [.ref (ad 13 0 0), .int (nI a)].toArray s 0 0 (AB B)) (F0 m 4 ls []) := by
    intro q9
    induction q9 with
    | zero => intro y hq9; exact absurd hq9 (by omega)
    | succ q9 ih4 =>
      intro y hq9  H locs hG hS ls hl
      have z6 : fm T a (T 6 a) y 6 = T 6 := fm_c (by decide) y
      have z30 : fm T a (T 6 a) y 30 a y = T 30 a y := fm_o y (Nat.le_refl y)
      refine o_iload_n hx hb dX7_finds_4 hl rfl ?_
      refine lv_iconst (v := 5) hx hb dX7_finds_5 (by decide) ?_
      refine n_icmp_ge (tgt := 61) hx hb y 5 rfl rfl (by omega) (by omega) dX7_finds_6 (by decide) (fun h6 => ?_) (fun h6 => ?_)
      · skip
        have hy5 : y = 5 := by omega
        subst hy5
        have hh := hF_01 (T := T) (a := a) 5
        have z23 : ∀ kk st, bcS (fm T a (T 6 a) 5) a kk st (k 3) 23 = fm T a (T 6 a) 5 23 := fun kk st => bcS_c (by decide) (by decide) (by decide) (by decide) (by decide) (by decide)
        refine o_aload_n hx hb dX7_finds_61 hl rfl ?_
        refine o_iload_n hx hb dX7_finds_62 hl rfl ?_
        refine o_iload_n hx hb dX7_finds_63 hl rfl ?_
        refine lv_if_eq (tgt := 71) hx hb dX7_finds_64 (by decide) (fun h64 => ?_) (fun h64 => ?_)
        · skip
          refine o_aload_n hx hb dX7_finds_71 hl rfl ?_
          refine o_aload_n hx hb dX7_finds_72 hl rfl ?_
          refine g_get hC hG us_X7 rfl 3 (by decide) fl_X7_21 V_model rfl dX7_finds_73 ?_
          refine o_iload_n hx hb dX7_finds_76 hl rfl ?_
          refine g_aald hC hG 7 rfl rfl V_o3 _ rfl (by omega) (by omega) dX7_finds_77 ?_
          refine k_X7_classBy hC hS hG ⟨hMB, by omega, KYm_c hKYm (fm_c (by decide) 5), Or.inr ⟨rfl, rfl⟩⟩ ml_X7_115 ⟨Nat.le_of_ble_eq_true rfl, Nat.le_of_ble_eq_true rfl⟩ hl.1 (Nat.le_of_ble_eq_true rfl) dX7_finds_78 ⟨Nat.le_of_ble_eq_true rfl, Nat.le_of_ble_eq_true rfl⟩ ?_
          refine o_iload_n hx hb dX7_finds_81 hl rfl ?_
          refine lv_if_eq (tgt := 90) hx hb dX7_finds_82 (by decide) (fun h82 => ?_) (fun h82 => ?_)
          · skip
            refine lv_bipush (v := 99) hx hb dX7_finds_90 (by decide) ?_
            refine k_X7_becomes hC hS hG ⟨by omega, hMB, by exact ⟨rfl, rfl⟩, by rw [fm_c (by decide)]; exact hB11⟩ ml_X7_122 ⟨Nat.le_of_ble_eq_true rfl, Nat.le_of_ble_eq_true rfl⟩ hl.1 (Nat.le_of_ble_eq_true rfl) dX7_finds_92 ⟨Nat.le_of_ble_eq_true rfl, Nat.le_of_ble_eq_true rfl⟩ (fun H locs hG hS => ?_)
            refine o_aload_n hx hb dX7_finds_95 hl rfl ?_
            refine g_get hC hG us_X7 rfl 7 (by decide) fl_X7_35 V_model rfl dX7_finds_96 ?_
            refine o_iload_n hx hb dX7_finds_99 hl rfl ?_
            refine o_iload_n hx hb dX7_finds_100 hl rfl ?_
            refine lv_if_eq (tgt := 113) hx hb dX7_finds_101 (by decide) (fun h101 => ?_) (fun h101 => ?_)
            · skip
              refine lv_iconst (v := (-1)) hx hb dX7_finds_113 (by decide) ?_
              refine g_iast hC hG hS V_m7 _ rfl (by omega) (by omega) P_m7 dX7_finds_114 (fun H locs hG hS => ?_)
              exact R_V hC hS hr hlk (by unfold fiM; rcases hh with ⟨hh1, hh2⟩ | ⟨hh1, hh2⟩ <;> first | (rw [cif_t hh2]; exact hG) | (rw [cif_f hh2]; exact hG) | exact absurd hh1 (by first | (rw [h64]; decide) | exact h64 | (rw [h82]; decide) | exact h82 | (rw [h101]; decide) | exact h101)) (Nat.le_of_ble_eq_true rfl) (Nat.le_of_ble_eq_true rfl) dX7_finds_115
            · skip
              refine o_aload_n hx hb dX7_finds_104 hl rfl ?_
              refine g_get hC hG us_X7 rfl 24 (by decide) fl_X7_126 V_model rfl dX7_finds_105 ?_
              refine lv_iconst (v := 2) hx hb dX7_finds_108 (by decide) ?_
              refine lv_iadd hx hb dX7_finds_109 ?_
              refine lv_goto (tgt := 114) hx hb dX7_finds_110 (by decide) ?_
              refine g_iast hC hG hS V_m7 _ rfl (by omega) (by omega) P_m7 dX7_finds_114 (fun H locs hG hS => ?_)
              exact R_V hC hS hr hlk (by unfold fiM; rcases hh with ⟨hh1, hh2⟩ | ⟨hh1, hh2⟩ <;> first | (rw [cif_t hh2]; exact hG) | (rw [cif_f hh2]; exact hG) | exact absurd hh1 (by first | (rw [h64]; decide) | exact h64 | (rw [h82]; decide) | exact h82 | (rw [h101]; decide) | exact h101)) (Nat.le_of_ble_eq_true rfl) (Nat.le_of_ble_eq_true rfl) dX7_finds_115
          · skip
            refine lv_bipush (v := 120) hx hb dX7_finds_85 (by decide) ?_
            refine lv_goto (tgt := 92) hx hb dX7_finds_87 (by decide) ?_
            refine k_X7_becomes hC hS hG ⟨by omega, hMB, by exact ⟨rfl, rfl⟩, by rw [fm_c (by decide)]; exact hB11⟩ ml_X7_122 ⟨Nat.le_of_ble_eq_true rfl, Nat.le_of_ble_eq_true rfl⟩ hl.1 (Nat.le_of_ble_eq_true rfl) dX7_finds_92 ⟨Nat.le_of_ble_eq_true rfl, Nat.le_of_ble_eq_true rfl⟩ (fun H locs hG hS => ?_)
            refine o_aload_n hx hb dX7_finds_95 hl rfl ?_
            refine g_get hC hG us_X7 rfl 7 (by decide) fl_X7_35 V_model rfl dX7_finds_96 ?_
            refine o_iload_n hx hb dX7_finds_99 hl rfl ?_
            refine o_iload_n hx hb dX7_finds_100 hl rfl ?_
            refine lv_if_eq (tgt := 113) hx hb dX7_finds_101 (by decide) (fun h101 => ?_) (fun h101 => ?_)
            · skip
              refine lv_iconst (v := (-1)) hx hb dX7_finds_113 (by decide) ?_
              refine g_iast hC hG hS V_m7 _ rfl (by omega) (by omega) P_m7 dX7_finds_114 (fun H locs hG hS => ?_)
              exact R_V hC hS hr hlk (by unfold fiM; rcases hh with ⟨hh1, hh2⟩ | ⟨hh1, hh2⟩ <;> first | (rw [cif_t hh2]; exact hG) | (rw [cif_f hh2]; exact hG) | exact absurd hh1 (by first | (rw [h64]; decide) | exact h64 | (rw [h82]; decide) | exact h82 | (rw [h101]; decide) | exact h101)) (Nat.le_of_ble_eq_true rfl) (Nat.le_of_ble_eq_true rfl) dX7_finds_115
            · skip
              refine o_aload_n hx hb dX7_finds_104 hl rfl ?_
              refine g_get hC hG us_X7 rfl 24 (by decide) fl_X7_126 V_model rfl dX7_finds_105 ?_
              refine lv_iconst (v := 2) hx hb dX7_finds_108 (by decide) ?_
              refine lv_iadd hx hb dX7_finds_109 ?_
              refine lv_goto (tgt := 114) hx hb dX7_finds_110 (by decide) ?_
              refine g_iast hC hG hS V_m7 _ rfl (by omega) (by omega) P_m7 dX7_finds_114 (fun H locs hG hS => ?_)
              exact R_V hC hS hr hlk (by unfold fiM; rcases hh with ⟨hh1, hh2⟩ | ⟨hh1, hh2⟩ <;> first | (rw [cif_t hh2]; exact hG) | (rw [cif_f hh2]; exact hG) | exact absurd hh1 (by first | (rw [h64]; decide) | exact h64 | (rw [h82]; decide) | exact h82 | (rw [h101]; decide) | exact h101)) (Nat.le_of_ble_eq_true rfl) (Nat.le_of_ble_eq_true rfl) dX7_finds_115
        · skip
          refine lv_iconst (v := (-1)) hx hb dX7_finds_67 (by decide) ?_
          refine lv_goto (tgt := 81) hx hb dX7_finds_68 (by decide) ?_
          refine o_iload_n hx hb dX7_finds_81 hl rfl ?_
          refine lv_if_eq (tgt := 90) hx hb dX7_finds_82 (by decide) (fun h82 => ?_) (fun h82 => ?_)
          · skip
            refine lv_bipush (v := 99) hx hb dX7_finds_90 (by decide) ?_
            refine k_X7_becomes hC hS hG ⟨by omega, hMB, by exact ⟨rfl, rfl⟩, by rw [fm_c (by decide)]; exact hB11⟩ ml_X7_122 ⟨Nat.le_of_ble_eq_true rfl, Nat.le_of_ble_eq_true rfl⟩ hl.1 (Nat.le_of_ble_eq_true rfl) dX7_finds_92 ⟨Nat.le_of_ble_eq_true rfl, Nat.le_of_ble_eq_true rfl⟩ (fun H locs hG hS => ?_)
            refine o_aload_n hx hb dX7_finds_95 hl rfl ?_
            refine g_get hC hG us_X7 rfl 7 (by decide) fl_X7_35 V_model rfl dX7_finds_96 ?_
            refine o_iload_n hx hb dX7_finds_99 hl rfl ?_
            refine o_iload_n hx hb dX7_finds_100 hl rfl ?_
            refine lv_if_eq (tgt := 113) hx hb dX7_finds_101 (by decide) (fun h101 => ?_) (fun h101 => ?_)
            · skip
              refine lv_iconst (v := (-1)) hx hb dX7_finds_113 (by decide) ?_
              refine g_iast hC hG hS V_m7 _ rfl (by omega) (by omega) P_m7 dX7_finds_114 (fun H locs hG hS => ?_)
              exact R_V hC hS hr hlk (by unfold fiM; rcases hh with ⟨hh1, hh2⟩ | ⟨hh1, hh2⟩ <;> first | (rw [cif_t hh2]; exact hG) | (rw [cif_f hh2]; exact hG) | exact absurd hh1 (by first | (rw [h64]; decide) | exact h64 | (rw [h82]; decide) | exact h82 | (rw [h101]; decide) | exact h101)) (Nat.le_of_ble_eq_true rfl) (Nat.le_of_ble_eq_true rfl) dX7_finds_115
            · skip
              refine o_aload_n hx hb dX7_finds_104 hl rfl ?_
              refine g_get hC hG us_X7 rfl 24 (by decide) fl_X7_126 V_model rfl dX7_finds_105 ?_
              refine lv_iconst (v := 2) hx hb dX7_finds_108 (by decide) ?_
              refine lv_iadd hx hb dX7_finds_109 ?_
              refine lv_goto (tgt := 114) hx hb dX7_finds_110 (by decide) ?_
              refine g_iast hC hG hS V_m7 _ rfl (by omega) (by omega) P_m7 dX7_finds_114 (fun H locs hG hS => ?_)
              exact R_V hC hS hr hlk (by unfold fiM; rcases hh with ⟨hh1, hh2⟩ | ⟨hh1, hh2⟩ <;> first | (rw [cif_t hh2]; exact hG) | (rw [cif_f hh2]; exact hG) | exact absurd hh1 (by first | (rw [h64]; decide) | exact h64 | (rw [h82]; decide) | exact h82 | (rw [h101]; decide) | exact h101)) (Nat.le_of_ble_eq_true rfl) (Nat.le_of_ble_eq_true rfl) dX7_finds_115
          · skip
            refine lv_bipush (v := 120) hx hb dX7_finds_85 (by decide) ?_
            refine lv_goto (tgt := 92) hx hb dX7_finds_87 (by decide) ?_
            refine k_X7_becomes hC hS hG ⟨by omega, hMB, by exact ⟨rfl, rfl⟩, by rw [fm_c (by decide)]; exact hB11⟩ ml_X7_122 ⟨Nat.le_of_ble_eq_true rfl, Nat.le_of_ble_eq_true rfl⟩ hl.1 (Nat.le_of_ble_eq_true rfl) dX7_finds_92 ⟨Nat.le_of_ble_eq_true rfl, Nat.le_of_ble_eq_true rfl⟩ (fun H locs hG hS => ?_)
            refine o_aload_n hx hb dX7_finds_95 hl rfl ?_
            refine g_get hC hG us_X7 rfl 7 (by decide) fl_X7_35 V_model rfl dX7_finds_96 ?_
            refine o_iload_n hx hb dX7_finds_99 hl rfl ?_
            refine o_iload_n hx hb dX7_finds_100 hl rfl ?_
            refine lv_if_eq (tgt := 113) hx hb dX7_finds_101 (by decide) (fun h101 => ?_) (fun h101 => ?_)
            · skip
              refine lv_iconst (v := (-1)) hx hb dX7_finds_113 (by decide) ?_
              refine g_iast hC hG hS V_m7 _ rfl (by omega) (by omega) P_m7 dX7_finds_114 (fun H locs hG hS => ?_)
              exact R_V hC hS hr hlk (by unfold fiM; rcases hh with ⟨hh1, hh2⟩ | ⟨hh1, hh2⟩ <;> first | (rw [cif_t hh2]; exact hG) | (rw [cif_f hh2]; exact hG) | exact absurd hh1 (by first | (rw [h64]; decide) | exact h64 | (rw [h82]; decide) | exact h82 | (rw [h101]; decide) | exact h101)) (Nat.le_of_ble_eq_true rfl) (Nat.le_of_ble_eq_true rfl) dX7_finds_115
            · skip
              refine o_aload_n hx hb dX7_finds_104 hl rfl ?_
              refine g_get hC hG us_X7 rfl 24 (by decide) fl_X7_126 V_model rfl dX7_finds_105 ?_
              refine lv_iconst (v := 2) hx hb dX7_finds_108 (by decide) ?_
              refine lv_iadd hx hb dX7_finds_109 ?_
              refine lv_goto (tgt := 114) hx hb dX7_finds_110 (by decide) ?_
              refine g_iast hC hG hS V_m7 _ rfl (by omega) (by omega) P_m7 dX7_finds_114 (fun H locs hG hS => ?_)
              exact R_V hC hS hr hlk (by unfold fiM; rcases hh with ⟨hh1, hh2⟩ | ⟨hh1, hh2⟩ <;> first | (rw [cif_t hh2]; exact hG) | (rw [cif_f hh2]; exact hG) | exact absurd hh1 (by first | (rw [h64]; decide) | exact h64 | (rw [h82]; decide) | exact h82 | (rw [h101]; decide) | exact h101)) (Nat.le_of_ble_eq_true rfl) (Nat.le_of_ble_eq_true rfl) dX7_finds_115
      · skip
        refine o_iload_n hx hb dX7_finds_9 hl rfl ?_
        refine o_aload_n hx hb dX7_finds_10 hl rfl ?_
        refine g_get hC hG us_X7 rfl 1 (by decide) fl_X7_15 V_model rfl dX7_finds_11 ?_
        refine o_iload_n hx hb dX7_finds_14 hl rfl ?_
        refine g_aald hC hG 7 rfl rfl V_o1 _ rfl (by omega) (by omega) dX7_finds_15 ?_
        refine o_iload_n hx hb dX7_finds_16 hl rfl ?_
        refine g_iald hC hG (V_r1 (by omega)) _ rfl (by omega) (by omega) dX7_finds_17 ?_
        refine o_aload_n hx hb dX7_finds_18 hl rfl ?_
        refine g_get hC hG us_X7 rfl 3 (by decide) fl_X7_21 V_model rfl dX7_finds_19 ?_
        refine o_iload_n hx hb dX7_finds_22 hl rfl ?_
        refine g_aald hC hG 7 rfl rfl V_o3 _ rfl (by omega) (by omega) dX7_finds_23 ?_
        refine o_iload_n hx hb dX7_finds_24 hl rfl ?_
        refine g_iald hC hG (V_r3 (by omega)) _ rfl (by omega) (by omega) dX7_finds_25 ?_
        refine lv_bipush (v := 20) hx hb dX7_finds_26 (by decide) ?_
        refine lv_iadd hx hb dX7_finds_28 ?_
        refine lv_icmp_le (tgt := 36) hx hb dX7_finds_29 (by decide) (fun h29 => ?_) (fun h29 => ?_)
        · skip
          refine lv_iconst (v := 0) hx hb dX7_finds_36 (by decide) ?_
          refine lv_ior hx hb dX7_finds_37 ?_
          refine o_istore_n hx hb dX7_finds_38 hl (by decide) rfl (fun ls hl => ?_)
          refine o_aload_n hx hb dX7_finds_39 hl rfl ?_
          refine g_get hC hG us_X7 rfl 3 (by decide) fl_X7_21 V_model rfl dX7_finds_40 ?_
          refine o_iload_n hx hb dX7_finds_43 hl rfl ?_
          refine g_aald hC hG 7 rfl rfl V_o3 _ rfl (by omega) (by omega) dX7_finds_44 ?_
          refine o_iload_n hx hb dX7_finds_45 hl rfl ?_
          refine o_aload_n hx hb dX7_finds_46 hl rfl ?_
          refine g_get hC hG us_X7 rfl 1 (by decide) fl_X7_15 V_model rfl dX7_finds_47 ?_
          refine o_iload_n hx hb dX7_finds_50 hl rfl ?_
          refine g_aald hC hG 7 rfl rfl V_o1 _ rfl (by omega) (by omega) dX7_finds_51 ?_
          refine o_iload_n hx hb dX7_finds_52 hl rfl ?_
          refine g_iald hC hG (V_r1 (by omega)) _ rfl (by omega) (by omega) dX7_finds_53 ?_
          refine g_iast hC hG hS (V_r3 (by omega)) _ rfl (by omega) (by omega) (P_r3 (by omega)) dX7_finds_54 (fun H locs hG hS => ?_)
          refine o_iinc1 hx hb dX7_finds_55 hl rfl (by decide) rfl (fun ls hl => ?_)
          refine lv_goto (tgt := 4) hx hb dX7_finds_58 (by decide) ?_
          exact ih4 (y + 1) (by omega) H locs (by rw [show fm T a (T 6 a) (y + 1) = up3 (fm T a (T 6 a) y) 30 a y (T 6 a y) from rfl]; rw [z6] at hG; exact hG) hS ls (by rw [show hF T a (y + 1) = hF T a y ||| cif (T 30 a y + 20 < T 6 a y) 1 0 from rfl]; first | (rw [cif_t (by rw [z6, z30] at h29; exact Int32.not_le.mp h29)]; exact hl) | (rw [cif_f (by rw [z6, z30] at h29; exact Int32.not_lt.mpr h29)]; exact hl))
        · skip
          refine lv_iconst (v := 1) hx hb dX7_finds_32 (by decide) ?_
          refine lv_goto (tgt := 37) hx hb dX7_finds_33 (by decide) ?_
          refine lv_ior hx hb dX7_finds_37 ?_
          refine o_istore_n hx hb dX7_finds_38 hl (by decide) rfl (fun ls hl => ?_)
          refine o_aload_n hx hb dX7_finds_39 hl rfl ?_
          refine g_get hC hG us_X7 rfl 3 (by decide) fl_X7_21 V_model rfl dX7_finds_40 ?_
          refine o_iload_n hx hb dX7_finds_43 hl rfl ?_
          refine g_aald hC hG 7 rfl rfl V_o3 _ rfl (by omega) (by omega) dX7_finds_44 ?_
          refine o_iload_n hx hb dX7_finds_45 hl rfl ?_
          refine o_aload_n hx hb dX7_finds_46 hl rfl ?_
          refine g_get hC hG us_X7 rfl 1 (by decide) fl_X7_15 V_model rfl dX7_finds_47 ?_
          refine o_iload_n hx hb dX7_finds_50 hl rfl ?_
          refine g_aald hC hG 7 rfl rfl V_o1 _ rfl (by omega) (by omega) dX7_finds_51 ?_
          refine o_iload_n hx hb dX7_finds_52 hl rfl ?_
          refine g_iald hC hG (V_r1 (by omega)) _ rfl (by omega) (by omega) dX7_finds_53 ?_
          refine g_iast hC hG hS (V_r3 (by omega)) _ rfl (by omega) (by omega) (P_r3 (by omega)) dX7_finds_54 (fun H locs hG hS => ?_)
          refine o_iinc1 hx hb dX7_finds_55 hl rfl (by decide) rfl (fun ls hl => ?_)
          refine lv_goto (tgt := 4) hx hb dX7_finds_58 (by decide) ?_
          exact ih4 (y + 1) (by omega) H locs (by rw [show fm T a (T 6 a) (y + 1) = up3 (fm T a (T 6 a) y) 30 a y (T 6 a y) from rfl]; rw [z6] at hG; exact hG) hS ls (by rw [show hF T a (y + 1) = hF T a y ||| cif (T 30 a y + 20 < T 6 a y) 1 0 from rfl]; first | (rw [cif_t (by rw [z6, z30] at h29; exact Int32.not_le.mp h29)]; exact hl) | (rw [cif_f (by rw [z6, z30] at h29; exact Int32.not_lt.mpr h29)]; exact hl))
  exact loop4 6 0 (by omega) s.heap [] hG hS ls hl
theorem k_X7_finds {p : Program} {l : Launch} {e : Env} {R : Room} {s : State} {m : MethodId} {args : Array Value} {below : List Frame} {meth : Method} {c : Code} {H : Heap} {locs : List Loc} {cells slots : Nat} {Q : State → Prop} {cc : ByteArray} {pc nL : Nat} {ls : Array Slot} {rest : List Value} {own : String} {D : va_G} {cy : Nat → ClassId} {sa : Nat → Nat} {de B : Nat} {ad : Ad} {S : St} {n : Nat → Nat} {T : St} {k : Nat → Nat} {th : Int32} {X : Rl} {a : Nat}  (hC : Cx p m c cc nL s args own D cy sa de B) (hS : va_S (AB B) s.heap H locs) (hG : GW D B ad (Vw cy de ad S n T k th X) H) (h0 : a < 16 ∧ MB k ∧ KYm T k ∧ (T 11 a 0 = 0 ∨ T 11 a 0 = 1))  {idx : Nat} (wl : Cond.methodLink own idx yX7_finds ∈ G0) (hR : 3 + 1 ≤ R.frames ∧ 8 + (4 + 11) + 72 ≤ R.locals) (hsz : ls.size = nL) (hst : (rest.map fun v => v.category).sum ≤ 8) (hdg : decode cc pc = .ok (.invokevirtual idx, 3)) (hcs : cells + 0 ≤ R.cells ∧ slots + 0 ≤ R.slots) (kk : ∀ (H1 : Heap) (locs1 : List Loc), ((fun H => GW D B ad (Vw cy de ad S n (fiM T k a) k th X) H)) H1 → va_S (AB B) s.heap H1 locs1 → W p l e R s m args below meth c H1 locs1 cells slots Q (F0 m (pc + 3) ls (rest))) : W p l e R s m args below meth c H locs cells slots Q (F0 m pc ls (.int (nI a) :: .ref (ad 13 0 0) :: rest)) :=
  va_callv (rV hC hS hG h0 (As := [.int (nI a)]) (c_X7_finds l) ⟨rfl, rfl⟩ wl im_X7_finds sl_X7_X7_finds in_X7 cd_X7_finds (n := 1) (by decide +kernel) hR (recv hC hG (q := (RX7, TX7, 26)) rfl V_model) rfl hsz hst rfl hdg hcs) hS (fun _ _ h => h) (fun _ h => h) (fun u t H1 locs1 ht _ _ hB _ _ hS1 => kk H1 locs1 (by dsimp only at hB; rw [ht] at hB; exact hB) hS1)
set_option maxHeartbeats 4000000 in
set_option maxRecDepth 100000 in
theorem c_X7_results (l : Launch) {D : va_G} {cy : Nat → ClassId} {sa : Nat → Nat} {de B : Nat} {ad : Ad} {S : St} {n : Nat → Nat} {T : St} {k : Nat → Nat} {th : Int32} {X : Rl} {e9 : Nat}  : Met l yX7_results (Cond.code yX7_results cX7_results 7 (Option.some Jvm.ClassFile.FieldType.int) :: G0) ({ frames := 0, cells := 0, slots := 0, locals := 0 } : Room) (va_Pc [.ref (ad 13 0 0), .int (nI e9)] (PW D cy sa de B ad (Vw cy de ad S n T k th X) (e9 < 8))) (vp_Si (fun r => r = cnt (timeP T e9) 16)) 0 0 (fun _ => False) := by
  refine E_met (own := RX7) rfl rfl (Nat.le_of_ble_eq_true rfl) ?_
  intro p e s m below meth c hC hr hlk hnm hG h0 ls hl
  have hx := hC.x
  have hb := hC.b
  have hS : va_S (AB B) s.heap s.heap [] := va_S.rf
  have hl : lo ls 7 [some (.ref (ad 13 0 0)), some (.int (nI e9)), none, none, none, none, none] := lo_of hl
  refine lv_iconst (v := 0) hx hb dX7_results_0 (by decide) ?_
  refine o_istore_n hx hb dX7_results_1 hl (by decide) rfl (fun ls hl => ?_)
  refine o_aload_n hx hb dX7_results_2 hl rfl ?_
  refine g_get hC hG us_X7 rfl 19 (by decide) fl_X7_73 V_model rfl dX7_results_3 ?_
  refine o_iload_n hx hb dX7_results_6 hl rfl ?_
  refine g_aald hC hG 7 rfl rfl V_o19 _ rfl (by omega) (by omega) dX7_results_7 ?_
  refine o_astore_n hx hb dX7_results_8 hl (by decide) rfl (fun ls hl => ?_)
  refine o_aload_n hx hb dX7_results_9 hl rfl ?_
  refine g_alen hC hG 0 rfl (V_r19 (by omega)) (v := nI 16) rfl dX7_results_10 ?_
  refine o_istore hx hb dX7_results_11 hl (by decide) rfl (fun ls hl => ?_)
  refine lv_iconst (v := 0) hx hb dX7_results_13 (by decide) ?_
  refine o_istore hx hb dX7_results_14 hl (by decide) rfl (fun ls hl => ?_)
  have loop16 : ∀ (q9 : Nat) (y : Nat), y ≤ 16 ∧ 16 < y + q9 → ∀ ls : Array Slot, lo ls 7 [some (.ref (ad 13 0 0)), some (.int (nI e9)), some (.int (cnt (timeP T e9) y)), some (.ref (ad 15 19 e9)), some (.int (nI 16)), some (.int (nI y)), none] → W p l e ({ frames := 0, cells := 0, slots := 0, locals := 0 } : Room) s m [.ref (ad 13 0 0), .int (nI e9)].toArray below meth c s.heap [] 0 0 (MQ below (vp_Si (fun r => r = cnt (timeP T e9) 16)) [.ref (ad 13 0 0), .int (nI e9)].toArray s 0 0 (fun _ => False)) (F0 m 16 ls []) := by
    intro q9
    induction q9 with
    | zero => intro y hq9; exact absurd hq9 (by omega)
    | succ q9 ih16 =>
      intro y hq9   ls hl
      refine o_iload hx hb dX7_results_16 hl rfl ?_
      refine o_iload hx hb dX7_results_18 hl rfl ?_
      refine n_icmp_ge (tgt := 49) hx hb y 16 rfl rfl (by omega) (by omega) dX7_results_20 (by decide) (fun h20 => ?_) (fun h20 => ?_)
      · skip
        refine o_iload_n hx hb dX7_results_49 hl rfl ?_
        exact R_i hC hr hlk rfl (by rw [show (16 : Nat) = y by omega]) dX7_results_50
      · skip
        refine o_aload_n hx hb dX7_results_23 hl rfl ?_
        refine o_iload hx hb dX7_results_24 hl rfl ?_
        refine g_iald hC hG (V_r19 (by omega)) _ rfl (by omega) (by omega) dX7_results_26 ?_
        refine o_istore hx hb dX7_results_27 hl (by decide) rfl (fun ls hl => ?_)
        refine o_iload_n hx hb dX7_results_29 hl rfl ?_
        refine o_iload hx hb dX7_results_30 hl rfl ?_
        refine lv_iconst (v := (-1)) hx hb dX7_results_32 (by decide) ?_
        refine lv_icmp_ne (tgt := 40) hx hb dX7_results_33 (by decide) (fun h33 => ?_) (fun h33 => ?_)
        · skip
          refine lv_iconst (v := 1) hx hb dX7_results_40 (by decide) ?_
          refine lv_iadd hx hb dX7_results_41 ?_
          refine o_istore_n hx hb dX7_results_42 hl (by decide) rfl (fun ls hl => ?_)
          try rw [Int32.add_zero] at hl
          refine o_iinc1 hx hb dX7_results_43 hl rfl (by decide) rfl (fun ls hl => ?_)
          refine lv_goto (tgt := 16) hx hb dX7_results_46 (by decide) ?_
          exact ih16 (y + 1) (by omega) ls (by first | (rw [cnt_t (P := timeP T e9) h33]; exact lo_none (i := 6) hl) | (rw [cnt_f (P := timeP T e9) (fun z => z h33)]; exact lo_none (i := 6) hl))
        · skip
          refine lv_iconst (v := 0) hx hb dX7_results_36 (by decide) ?_
          refine lv_goto (tgt := 41) hx hb dX7_results_37 (by decide) ?_
          refine lv_iadd hx hb dX7_results_41 ?_
          refine o_istore_n hx hb dX7_results_42 hl (by decide) rfl (fun ls hl => ?_)
          try rw [Int32.add_zero] at hl
          refine o_iinc1 hx hb dX7_results_43 hl rfl (by decide) rfl (fun ls hl => ?_)
          refine lv_goto (tgt := 16) hx hb dX7_results_46 (by decide) ?_
          exact ih16 (y + 1) (by omega) ls (by first | (rw [cnt_t (P := timeP T e9) h33]; exact lo_none (i := 6) hl) | (rw [cnt_f (P := timeP T e9) (fun z => z h33)]; exact lo_none (i := 6) hl))
  exact loop16 17 0 (by omega) ls hl
theorem k_X7_results {p : Program} {l : Launch} {e : Env} {R : Room} {s : State} {m : MethodId} {args : Array Value} {below : List Frame} {meth : Method} {c : Code} {H : Heap} {locs : List Loc} {cells slots : Nat} {Q : State → Prop} {cc : ByteArray} {pc nL : Nat} {ls : Array Slot} {rest : List Value} {own : String} {D : va_G} {cy : Nat → ClassId} {sa : Nat → Nat} {de B : Nat} {ad : Ad} {S : St} {n : Nat → Nat} {T : St} {k : Nat → Nat} {th : Int32} {X : Rl} {e9 : Nat}  (hC : Cx p m c cc nL s args own D cy sa de B) (hS : va_S (AB B) s.heap H locs) (hG : GW D B ad (Vw cy de ad S n T k th X) H) (h0 : e9 < 8)  {idx : Nat} (wl : Cond.methodLink own idx yX7_results ∈ G0) (hR : 0 + 1 ≤ R.frames ∧ 8 + (7 + 11) + 0 ≤ R.locals) (hsz : ls.size = nL) (hst : (rest.map fun v => v.category).sum ≤ 8) (hdg : decode cc pc = .ok (.invokevirtual idx, 3)) (hcs : cells + 0 ≤ R.cells ∧ slots + 0 ≤ R.slots) (kk : W p l e R s m args below meth c H locs cells slots Q (F0 m (pc + 3) ls (.int (cnt (timeP T e9) 16) :: rest))) : W p l e R s m args below meth c H locs cells slots Q (F0 m pc ls (.int (nI e9) :: .ref (ad 13 0 0) :: rest)) :=
  vp_callSi (va_Run.run (rV hC hS hG h0 (As := [.int (nI e9)]) (c_X7_results l) ⟨rfl, rfl⟩ wl im_X7_results sl_X7_X7_results in_X7 cd_X7_results (n := 1) (by decide +kernel) hR (recv hC hG (q := (RX7, TX7, 26)) rfl V_model) rfl hsz hst rfl hdg hcs)) (fun r hr => by subst hr; exact kk)
set_option maxHeartbeats 4000000 in
set_option maxRecDepth 100000 in
theorem c_X7_aheadOf (l : Launch) {D : va_G} {cy : Nat → ClassId} {sa : Nat → Nat} {de B : Nat} {ad : Ad} {S : St} {n : Nat → Nat} {T : St} {k : Nat → Nat} {th : Int32} {X : Rl} {e9 a : Nat} {b : Int32}  : Met l yX7_aheadOf (Cond.code yX7_aheadOf cX7_aheadOf 9 (Option.some Jvm.ClassFile.FieldType.int) :: G0) ({ frames := 0, cells := 0, slots := 0, locals := 0 } : Room) (va_Pc [.ref (ad 13 0 0), .int (nI e9), .int (nI a), .int b] (PW D cy sa de B ad (Vw cy de ad S n T k th X) (e9 < 8 ∧ a < 16 ∧ MB k ∧ (b = 0 ∨ b = 1)))) (vp_Si (fun r => r = cnt (aoP T e9 a b) (k 0))) 0 0 (fun _ => False) := by
  refine E_met (own := RX7) rfl rfl (Nat.le_of_ble_eq_true rfl) ?_
  intro p e s m below meth c hC hr hlk hnm hG h0 ls hl
  have hx := hC.x
  have hb := hC.b
  have hS : va_S (AB B) s.heap s.heap [] := va_S.rf
  have hl : lo ls 9 [some (.ref (ad 13 0 0)), some (.int (nI e9)), some (.int (nI a)), some (.int b), none, none, none, none, none] := lo_of hl
  obtain ⟨he, ha, hMB, hb01⟩ := h0
  have hMB9 := hMB
  obtain ⟨hM0, hM1, hM2, hM3⟩ := hMB9
  have hbn : ¬ b = 0 → b = 1 := fun z => hb01.resolve_left z
  refine lv_iconst (v := 0) hx hb dX7_aheadOf_0 (by decide) ?_
  refine o_istore hx hb dX7_aheadOf_1 hl (by decide) rfl (fun ls hl => ?_)
  refine lv_iconst (v := 0) hx hb dX7_aheadOf_3 (by decide) ?_
  refine o_istore hx hb dX7_aheadOf_4 hl (by decide) rfl (fun ls hl => ?_)
  have loop6 : ∀ (q9 : Nat) (y : Nat), y ≤ k 0 ∧ k 0 < y + q9 → ∀ ls : Array Slot, lo ls 9 [some (.ref (ad 13 0 0)), some (.int (nI e9)), some (.int (nI a)), some (.int b), some (.int (cnt (aoP T e9 a b) y)), some (.int (nI y)), none, none, none] → W p l e ({ frames := 0, cells := 0, slots := 0, locals := 0 } : Room) s m [.ref (ad 13 0 0), .int (nI e9), .int (nI a), .int b].toArray below meth c s.heap [] 0 0 (MQ below (vp_Si (fun r => r = cnt (aoP T e9 a b) (k 0))) [.ref (ad 13 0 0), .int (nI e9), .int (nI a), .int b].toArray s 0 0 (fun _ => False)) (F0 m 6 ls []) := by
    intro q9
    induction q9 with
    | zero => intro y hq9; exact absurd hq9 (by omega)
    | succ q9 ih6 =>
      intro y hq9   ls hl
      refine o_iload hx hb dX7_aheadOf_6 hl rfl ?_
      refine o_aload_n hx hb dX7_aheadOf_8 hl rfl ?_
      refine g_get hC hG us_X7 rfl 20 (by decide) fl_X7_80 V_model rfl dX7_aheadOf_9 ?_
      refine n_icmp_ge (tgt := 114) hx hb y (k 0) rfl rfl (by omega) (by omega) dX7_aheadOf_12 (by decide) (fun h12 => ?_) (fun h12 => ?_)
      · skip
        refine o_iload hx hb dX7_aheadOf_114 hl rfl ?_
        exact R_i hC hr hlk rfl (by rw [show k 0 = y by omega]) dX7_aheadOf_116
      · skip
        refine o_aload_n hx hb dX7_aheadOf_15 hl rfl ?_
        refine g_get hC hG us_X7 rfl 19 (by decide) fl_X7_73 V_model rfl dX7_aheadOf_16 ?_
        refine o_iload_n hx hb dX7_aheadOf_19 hl rfl ?_
        refine g_aald hC hG 7 rfl rfl V_o19 _ rfl (by omega) (by omega) dX7_aheadOf_20 ?_
        refine o_iload hx hb dX7_aheadOf_21 hl rfl ?_
        refine g_iald hC hG (V_r19 (by omega)) _ rfl (by omega) (by omega) dX7_aheadOf_23 ?_
        refine o_istore hx hb dX7_aheadOf_24 hl (by decide) rfl (fun ls hl => ?_)
        refine o_iload hx hb dX7_aheadOf_26 hl rfl ?_
        refine lv_iconst (v := (-1)) hx hb dX7_aheadOf_28 (by decide) ?_
        refine lv_icmp_eq (tgt := 49) hx hb dX7_aheadOf_29 (by decide) (fun h29 => ?_) (fun h29 => ?_)
        · skip
          refine lv_iconst (v := 0) hx hb dX7_aheadOf_49 (by decide) ?_
          refine o_istore hx hb dX7_aheadOf_50 hl (by decide) rfl (fun ls hl => ?_)
          refine o_iload_n hx hb dX7_aheadOf_52 hl rfl ?_
          refine lv_if_eq (tgt := 85) hx hb dX7_aheadOf_53 (by decide) (fun h53 => ?_) (fun h53 => ?_)
          · skip
            refine lv_iconst (v := 0) hx hb dX7_aheadOf_85 (by decide) ?_
            refine o_istore hx hb dX7_aheadOf_86 hl (by decide) rfl (fun ls hl => ?_)
            refine o_iload hx hb dX7_aheadOf_88 hl rfl ?_
            refine o_iload hx hb dX7_aheadOf_90 hl rfl ?_
            refine lv_if_ne (tgt := 100) hx hb dX7_aheadOf_92 (by decide) (fun h92 => ?_) (fun h92 => ?_)
            · exact absurd h92 (by decide)
            · skip
              refine o_iload hx hb dX7_aheadOf_95 hl rfl ?_
              refine lv_if_eq (tgt := 104) hx hb dX7_aheadOf_97 (by decide) (fun h97 => ?_) (fun h97 => ?_)
              · skip
                refine lv_iconst (v := 0) hx hb dX7_aheadOf_104 (by decide) ?_
                refine lv_iadd hx hb dX7_aheadOf_105 ?_
                refine o_istore hx hb dX7_aheadOf_106 hl (by decide) rfl (fun ls hl => ?_)
                try rw [Int32.add_zero] at hl
                refine o_iinc1 hx hb dX7_aheadOf_108 hl rfl (by decide) rfl (fun ls hl => ?_)
                refine lv_goto (tgt := 6) hx hb dX7_aheadOf_111 (by decide) ?_
                exact ih6 (y + 1) (by omega) ls (by first | (rw [cnt_t (P := aoP T e9 a b) ⟨h29, Or.inl (Int32.not_le.mp h42)⟩]; exact lo_none (i := 6) (lo_none (i := 7) (lo_none (i := 8) hl))) | (rw [cnt_t (P := aoP T e9 a b) ⟨h59, Or.inr ⟨hbn h53, h72, h78⟩⟩]; exact lo_none (i := 6) (lo_none (i := 7) (lo_none (i := 8) hl))) | (rw [cnt_f (P := aoP T e9 a b) (by first | exact fun z => z.1 h29 | exact fun z => z.2.elim (fun z => absurd z (Int32.not_lt.mpr h42)) (fun z => by first | exact absurd (z.1.symm.trans h53) (by decide) | exact absurd h59 h29 | exact h72 z.2.1 | exact absurd z.2.2 (by omega)))]; exact lo_none (i := 6) (lo_none (i := 7) (lo_none (i := 8) hl))))
              · exact absurd h97 (by decide)
          · skip
            refine o_iload hx hb dX7_aheadOf_56 hl rfl ?_
            refine lv_iconst (v := (-1)) hx hb dX7_aheadOf_58 (by decide) ?_
            refine lv_icmp_eq (tgt := 85) hx hb dX7_aheadOf_59 (by decide) (fun h59 => ?_) (fun h59 => ?_)
            · skip
              refine lv_iconst (v := 0) hx hb dX7_aheadOf_85 (by decide) ?_
              refine o_istore hx hb dX7_aheadOf_86 hl (by decide) rfl (fun ls hl => ?_)
              refine o_iload hx hb dX7_aheadOf_88 hl rfl ?_
              refine o_iload hx hb dX7_aheadOf_90 hl rfl ?_
              refine lv_if_ne (tgt := 100) hx hb dX7_aheadOf_92 (by decide) (fun h92 => ?_) (fun h92 => ?_)
              · exact absurd h92 (by decide)
              · skip
                refine o_iload hx hb dX7_aheadOf_95 hl rfl ?_
                refine lv_if_eq (tgt := 104) hx hb dX7_aheadOf_97 (by decide) (fun h97 => ?_) (fun h97 => ?_)
                · skip
                  refine lv_iconst (v := 0) hx hb dX7_aheadOf_104 (by decide) ?_
                  refine lv_iadd hx hb dX7_aheadOf_105 ?_
                  refine o_istore hx hb dX7_aheadOf_106 hl (by decide) rfl (fun ls hl => ?_)
                  try rw [Int32.add_zero] at hl
                  refine o_iinc1 hx hb dX7_aheadOf_108 hl rfl (by decide) rfl (fun ls hl => ?_)
                  refine lv_goto (tgt := 6) hx hb dX7_aheadOf_111 (by decide) ?_
                  exact ih6 (y + 1) (by omega) ls (by first | (rw [cnt_t (P := aoP T e9 a b) ⟨h29, Or.inl (Int32.not_le.mp h42)⟩]; exact lo_none (i := 6) (lo_none (i := 7) (lo_none (i := 8) hl))) | (rw [cnt_t (P := aoP T e9 a b) ⟨h59, Or.inr ⟨hbn h53, h72, h78⟩⟩]; exact lo_none (i := 6) (lo_none (i := 7) (lo_none (i := 8) hl))) | (rw [cnt_f (P := aoP T e9 a b) (by first | exact fun z => z.1 h29 | exact fun z => z.2.elim (fun z => absurd z (Int32.not_lt.mpr h42)) (fun z => by first | exact absurd (z.1.symm.trans h53) (by decide) | exact absurd h59 h29 | exact h72 z.2.1 | exact absurd z.2.2 (by omega)))]; exact lo_none (i := 6) (lo_none (i := 7) (lo_none (i := 8) hl))))
                · exact absurd h97 (by decide)
            · skip
              refine o_iload hx hb dX7_aheadOf_62 hl rfl ?_
              refine o_aload_n hx hb dX7_aheadOf_64 hl rfl ?_
              refine g_get hC hG us_X7 rfl 19 (by decide) fl_X7_73 V_model rfl dX7_aheadOf_65 ?_
              refine o_iload_n hx hb dX7_aheadOf_68 hl rfl ?_
              refine g_aald hC hG 7 rfl rfl V_o19 _ rfl (by omega) (by omega) dX7_aheadOf_69 ?_
              refine o_iload_n hx hb dX7_aheadOf_70 hl rfl ?_
              refine g_iald hC hG (V_r19 (by omega)) _ rfl (by omega) (by omega) dX7_aheadOf_71 ?_
              refine lv_icmp_ne (tgt := 85) hx hb dX7_aheadOf_72 (by decide) (fun h72 => ?_) (fun h72 => ?_)
              · skip
                refine lv_iconst (v := 0) hx hb dX7_aheadOf_85 (by decide) ?_
                refine o_istore hx hb dX7_aheadOf_86 hl (by decide) rfl (fun ls hl => ?_)
                refine o_iload hx hb dX7_aheadOf_88 hl rfl ?_
                refine o_iload hx hb dX7_aheadOf_90 hl rfl ?_
                refine lv_if_ne (tgt := 100) hx hb dX7_aheadOf_92 (by decide) (fun h92 => ?_) (fun h92 => ?_)
                · exact absurd h92 (by decide)
                · skip
                  refine o_iload hx hb dX7_aheadOf_95 hl rfl ?_
                  refine lv_if_eq (tgt := 104) hx hb dX7_aheadOf_97 (by decide) (fun h97 => ?_) (fun h97 => ?_)
                  · skip
                    refine lv_iconst (v := 0) hx hb dX7_aheadOf_104 (by decide) ?_
                    refine lv_iadd hx hb dX7_aheadOf_105 ?_
                    refine o_istore hx hb dX7_aheadOf_106 hl (by decide) rfl (fun ls hl => ?_)
                    try rw [Int32.add_zero] at hl
                    refine o_iinc1 hx hb dX7_aheadOf_108 hl rfl (by decide) rfl (fun ls hl => ?_)
                    refine lv_goto (tgt := 6) hx hb dX7_aheadOf_111 (by decide) ?_
                    exact ih6 (y + 1) (by omega) ls (by first | (rw [cnt_t (P := aoP T e9 a b) ⟨h29, Or.inl (Int32.not_le.mp h42)⟩]; exact lo_none (i := 6) (lo_none (i := 7) (lo_none (i := 8) hl))) | (rw [cnt_t (P := aoP T e9 a b) ⟨h59, Or.inr ⟨hbn h53, h72, h78⟩⟩]; exact lo_none (i := 6) (lo_none (i := 7) (lo_none (i := 8) hl))) | (rw [cnt_f (P := aoP T e9 a b) (by first | exact fun z => z.1 h29 | exact fun z => z.2.elim (fun z => absurd z (Int32.not_lt.mpr h42)) (fun z => by first | exact absurd (z.1.symm.trans h53) (by decide) | exact absurd h59 h29 | exact h72 z.2.1 | exact absurd z.2.2 (by omega)))]; exact lo_none (i := 6) (lo_none (i := 7) (lo_none (i := 8) hl))))
                  · exact absurd h97 (by decide)
              · skip
                refine o_iload hx hb dX7_aheadOf_75 hl rfl ?_
                refine o_iload_n hx hb dX7_aheadOf_77 hl rfl ?_
                refine n_icmp_ge (tgt := 85) hx hb y a rfl rfl (by omega) (by omega) dX7_aheadOf_78 (by decide) (fun h78 => ?_) (fun h78 => ?_)
                · skip
                  refine lv_iconst (v := 0) hx hb dX7_aheadOf_85 (by decide) ?_
                  refine o_istore hx hb dX7_aheadOf_86 hl (by decide) rfl (fun ls hl => ?_)
                  refine o_iload hx hb dX7_aheadOf_88 hl rfl ?_
                  refine o_iload hx hb dX7_aheadOf_90 hl rfl ?_
                  refine lv_if_ne (tgt := 100) hx hb dX7_aheadOf_92 (by decide) (fun h92 => ?_) (fun h92 => ?_)
                  · exact absurd h92 (by decide)
                  · skip
                    refine o_iload hx hb dX7_aheadOf_95 hl rfl ?_
                    refine lv_if_eq (tgt := 104) hx hb dX7_aheadOf_97 (by decide) (fun h97 => ?_) (fun h97 => ?_)
                    · skip
                      refine lv_iconst (v := 0) hx hb dX7_aheadOf_104 (by decide) ?_
                      refine lv_iadd hx hb dX7_aheadOf_105 ?_
                      refine o_istore hx hb dX7_aheadOf_106 hl (by decide) rfl (fun ls hl => ?_)
                      try rw [Int32.add_zero] at hl
                      refine o_iinc1 hx hb dX7_aheadOf_108 hl rfl (by decide) rfl (fun ls hl => ?_)
                      refine lv_goto (tgt := 6) hx hb dX7_aheadOf_111 (by decide) ?_
                      exact ih6 (y + 1) (by omega) ls (by first | (rw [cnt_t (P := aoP T e9 a b) ⟨h29, Or.inl (Int32.not_le.mp h42)⟩]; exact lo_none (i := 6) (lo_none (i := 7) (lo_none (i := 8) hl))) | (rw [cnt_t (P := aoP T e9 a b) ⟨h59, Or.inr ⟨hbn h53, h72, h78⟩⟩]; exact lo_none (i := 6) (lo_none (i := 7) (lo_none (i := 8) hl))) | (rw [cnt_f (P := aoP T e9 a b) (by first | exact fun z => z.1 h29 | exact fun z => z.2.elim (fun z => absurd z (Int32.not_lt.mpr h42)) (fun z => by first | exact absurd (z.1.symm.trans h53) (by decide) | exact absurd h59 h29 | exact h72 z.2.1 | exact absurd z.2.2 (by omega)))]; exact lo_none (i := 6) (lo_none (i := 7) (lo_none (i := 8) hl))))
                    · exact absurd h97 (by decide)
                · skip
                  refine lv_iconst (v := 1) hx hb dX7_aheadOf_81 (by decide) ?_
                  refine lv_goto (tgt := 86) hx hb dX7_aheadOf_82 (by decide) ?_
                  refine o_istore hx hb dX7_aheadOf_86 hl (by decide) rfl (fun ls hl => ?_)
                  refine o_iload hx hb dX7_aheadOf_88 hl rfl ?_
                  refine o_iload hx hb dX7_aheadOf_90 hl rfl ?_
                  refine lv_if_ne (tgt := 100) hx hb dX7_aheadOf_92 (by decide) (fun h92 => ?_) (fun h92 => ?_)
                  · exact absurd h92 (by decide)
                  · skip
                    refine o_iload hx hb dX7_aheadOf_95 hl rfl ?_
                    refine lv_if_eq (tgt := 104) hx hb dX7_aheadOf_97 (by decide) (fun h97 => ?_) (fun h97 => ?_)
                    · exact absurd h97 (by decide)
                    · skip
                      refine lv_iconst (v := 1) hx hb dX7_aheadOf_100 (by decide) ?_
                      refine lv_goto (tgt := 105) hx hb dX7_aheadOf_101 (by decide) ?_
                      refine lv_iadd hx hb dX7_aheadOf_105 ?_
                      refine o_istore hx hb dX7_aheadOf_106 hl (by decide) rfl (fun ls hl => ?_)
                      try rw [Int32.add_zero] at hl
                      refine o_iinc1 hx hb dX7_aheadOf_108 hl rfl (by decide) rfl (fun ls hl => ?_)
                      refine lv_goto (tgt := 6) hx hb dX7_aheadOf_111 (by decide) ?_
                      exact ih6 (y + 1) (by omega) ls (by first | (rw [cnt_t (P := aoP T e9 a b) ⟨h29, Or.inl (Int32.not_le.mp h42)⟩]; exact lo_none (i := 6) (lo_none (i := 7) (lo_none (i := 8) hl))) | (rw [cnt_t (P := aoP T e9 a b) ⟨h59, Or.inr ⟨hbn h53, h72, h78⟩⟩]; exact lo_none (i := 6) (lo_none (i := 7) (lo_none (i := 8) hl))) | (rw [cnt_f (P := aoP T e9 a b) (by first | exact fun z => z.1 h29 | exact fun z => z.2.elim (fun z => absurd z (Int32.not_lt.mpr h42)) (fun z => by first | exact absurd (z.1.symm.trans h53) (by decide) | exact absurd h59 h29 | exact h72 z.2.1 | exact absurd z.2.2 (by omega)))]; exact lo_none (i := 6) (lo_none (i := 7) (lo_none (i := 8) hl))))
        · skip
          refine o_iload hx hb dX7_aheadOf_32 hl rfl ?_
          refine o_aload_n hx hb dX7_aheadOf_34 hl rfl ?_
          refine g_get hC hG us_X7 rfl 19 (by decide) fl_X7_73 V_model rfl dX7_aheadOf_35 ?_
          refine o_iload_n hx hb dX7_aheadOf_38 hl rfl ?_
          refine g_aald hC hG 7 rfl rfl V_o19 _ rfl (by omega) (by omega) dX7_aheadOf_39 ?_
          refine o_iload_n hx hb dX7_aheadOf_40 hl rfl ?_
          refine g_iald hC hG (V_r19 (by omega)) _ rfl (by omega) (by omega) dX7_aheadOf_41 ?_
          refine lv_icmp_ge (tgt := 49) hx hb dX7_aheadOf_42 (by decide) (fun h42 => ?_) (fun h42 => ?_)
          · skip
            refine lv_iconst (v := 0) hx hb dX7_aheadOf_49 (by decide) ?_
            refine o_istore hx hb dX7_aheadOf_50 hl (by decide) rfl (fun ls hl => ?_)
            refine o_iload_n hx hb dX7_aheadOf_52 hl rfl ?_
            refine lv_if_eq (tgt := 85) hx hb dX7_aheadOf_53 (by decide) (fun h53 => ?_) (fun h53 => ?_)
            · skip
              refine lv_iconst (v := 0) hx hb dX7_aheadOf_85 (by decide) ?_
              refine o_istore hx hb dX7_aheadOf_86 hl (by decide) rfl (fun ls hl => ?_)
              refine o_iload hx hb dX7_aheadOf_88 hl rfl ?_
              refine o_iload hx hb dX7_aheadOf_90 hl rfl ?_
              refine lv_if_ne (tgt := 100) hx hb dX7_aheadOf_92 (by decide) (fun h92 => ?_) (fun h92 => ?_)
              · exact absurd h92 (by decide)
              · skip
                refine o_iload hx hb dX7_aheadOf_95 hl rfl ?_
                refine lv_if_eq (tgt := 104) hx hb dX7_aheadOf_97 (by decide) (fun h97 => ?_) (fun h97 => ?_)
                · skip
                  refine lv_iconst (v := 0) hx hb dX7_aheadOf_104 (by decide) ?_
                  refine lv_iadd hx hb dX7_aheadOf_105 ?_
                  refine o_istore hx hb dX7_aheadOf_106 hl (by decide) rfl (fun ls hl => ?_)
                  try rw [Int32.add_zero] at hl
                  refine o_iinc1 hx hb dX7_aheadOf_108 hl rfl (by decide) rfl (fun ls hl => ?_)
                  refine lv_goto (tgt := 6) hx hb dX7_aheadOf_111 (by decide) ?_
                  exact ih6 (y + 1) (by omega) ls (by first | (rw [cnt_t (P := aoP T e9 a b) ⟨h29, Or.inl (Int32.not_le.mp h42)⟩]; exact lo_none (i := 6) (lo_none (i := 7) (lo_none (i := 8) hl))) | (rw [cnt_t (P := aoP T e9 a b) ⟨h59, Or.inr ⟨hbn h53, h72, h78⟩⟩]; exact lo_none (i := 6) (lo_none (i := 7) (lo_none (i := 8) hl))) | (rw [cnt_f (P := aoP T e9 a b) (by first | exact fun z => z.1 h29 | exact fun z => z.2.elim (fun z => absurd z (Int32.not_lt.mpr h42)) (fun z => by first | exact absurd (z.1.symm.trans h53) (by decide) | exact absurd h59 h29 | exact h72 z.2.1 | exact absurd z.2.2 (by omega)))]; exact lo_none (i := 6) (lo_none (i := 7) (lo_none (i := 8) hl))))
                · exact absurd h97 (by decide)
            · skip
              refine o_iload hx hb dX7_aheadOf_56 hl rfl ?_
              refine lv_iconst (v := (-1)) hx hb dX7_aheadOf_58 (by decide) ?_
              refine lv_icmp_eq (tgt := 85) hx hb dX7_aheadOf_59 (by decide) (fun h59 => ?_) (fun h59 => ?_)
              · skip
                refine lv_iconst (v := 0) hx hb dX7_aheadOf_85 (by decide) ?_
                refine o_istore hx hb dX7_aheadOf_86 hl (by decide) rfl (fun ls hl => ?_)
                refine o_iload hx hb dX7_aheadOf_88 hl rfl ?_
                refine o_iload hx hb dX7_aheadOf_90 hl rfl ?_
                refine lv_if_ne (tgt := 100) hx hb dX7_aheadOf_92 (by decide) (fun h92 => ?_) (fun h92 => ?_)
                · exact absurd h92 (by decide)
                · skip
                  refine o_iload hx hb dX7_aheadOf_95 hl rfl ?_
                  refine lv_if_eq (tgt := 104) hx hb dX7_aheadOf_97 (by decide) (fun h97 => ?_) (fun h97 => ?_)
                  · skip
                    refine lv_iconst (v := 0) hx hb dX7_aheadOf_104 (by decide) ?_
                    refine lv_iadd hx hb dX7_aheadOf_105 ?_
                    refine o_istore hx hb dX7_aheadOf_106 hl (by decide) rfl (fun ls hl => ?_)
                    try rw [Int32.add_zero] at hl
                    refine o_iinc1 hx hb dX7_aheadOf_108 hl rfl (by decide) rfl (fun ls hl => ?_)
                    refine lv_goto (tgt := 6) hx hb dX7_aheadOf_111 (by decide) ?_
                    exact ih6 (y + 1) (by omega) ls (by first | (rw [cnt_t (P := aoP T e9 a b) ⟨h29, Or.inl (Int32.not_le.mp h42)⟩]; exact lo_none (i := 6) (lo_none (i := 7) (lo_none (i := 8) hl))) | (rw [cnt_t (P := aoP T e9 a b) ⟨h59, Or.inr ⟨hbn h53, h72, h78⟩⟩]; exact lo_none (i := 6) (lo_none (i := 7) (lo_none (i := 8) hl))) | (rw [cnt_f (P := aoP T e9 a b) (by first | exact fun z => z.1 h29 | exact fun z => z.2.elim (fun z => absurd z (Int32.not_lt.mpr h42)) (fun z => by first | exact absurd (z.1.symm.trans h53) (by decide) | exact absurd h59 h29 | exact h72 z.2.1 | exact absurd z.2.2 (by omega)))]; exact lo_none (i := 6) (lo_none (i := 7) (lo_none (i := 8) hl))))
                  · exact absurd h97 (by decide)
              · skip
                refine o_iload hx hb dX7_aheadOf_62 hl rfl ?_
                refine o_aload_n hx hb dX7_aheadOf_64 hl rfl ?_
                refine g_get hC hG us_X7 rfl 19 (by decide) fl_X7_73 V_model rfl dX7_aheadOf_65 ?_
                refine o_iload_n hx hb dX7_aheadOf_68 hl rfl ?_
                refine g_aald hC hG 7 rfl rfl V_o19 _ rfl (by omega) (by omega) dX7_aheadOf_69 ?_
                refine o_iload_n hx hb dX7_aheadOf_70 hl rfl ?_
                refine g_iald hC hG (V_r19 (by omega)) _ rfl (by omega) (by omega) dX7_aheadOf_71 ?_
                refine lv_icmp_ne (tgt := 85) hx hb dX7_aheadOf_72 (by decide) (fun h72 => ?_) (fun h72 => ?_)
                · skip
                  refine lv_iconst (v := 0) hx hb dX7_aheadOf_85 (by decide) ?_
                  refine o_istore hx hb dX7_aheadOf_86 hl (by decide) rfl (fun ls hl => ?_)
                  refine o_iload hx hb dX7_aheadOf_88 hl rfl ?_
                  refine o_iload hx hb dX7_aheadOf_90 hl rfl ?_
                  refine lv_if_ne (tgt := 100) hx hb dX7_aheadOf_92 (by decide) (fun h92 => ?_) (fun h92 => ?_)
                  · exact absurd h92 (by decide)
                  · skip
                    refine o_iload hx hb dX7_aheadOf_95 hl rfl ?_
                    refine lv_if_eq (tgt := 104) hx hb dX7_aheadOf_97 (by decide) (fun h97 => ?_) (fun h97 => ?_)
                    · skip
                      refine lv_iconst (v := 0) hx hb dX7_aheadOf_104 (by decide) ?_
                      refine lv_iadd hx hb dX7_aheadOf_105 ?_
                      refine o_istore hx hb dX7_aheadOf_106 hl (by decide) rfl (fun ls hl => ?_)
                      try rw [Int32.add_zero] at hl
                      refine o_iinc1 hx hb dX7_aheadOf_108 hl rfl (by decide) rfl (fun ls hl => ?_)
                      refine lv_goto (tgt := 6) hx hb dX7_aheadOf_111 (by decide) ?_
                      exact ih6 (y + 1) (by omega) ls (by first | (rw [cnt_t (P := aoP T e9 a b) ⟨h29, Or.inl (Int32.not_le.mp h42)⟩]; exact lo_none (i := 6) (lo_none (i := 7) (lo_none (i := 8) hl))) | (rw [cnt_t (P := aoP T e9 a b) ⟨h59, Or.inr ⟨hbn h53, h72, h78⟩⟩]; exact lo_none (i := 6) (lo_none (i := 7) (lo_none (i := 8) hl))) | (rw [cnt_f (P := aoP T e9 a b) (by first | exact fun z => z.1 h29 | exact fun z => z.2.elim (fun z => absurd z (Int32.not_lt.mpr h42)) (fun z => by first | exact absurd (z.1.symm.trans h53) (by decide) | exact absurd h59 h29 | exact h72 z.2.1 | exact absurd z.2.2 (by omega)))]; exact lo_none (i := 6) (lo_none (i := 7) (lo_none (i := 8) hl))))
                    · exact absurd h97 (by decide)
                · skip
                  refine o_iload hx hb dX7_aheadOf_75 hl rfl ?_
                  refine o_iload_n hx hb dX7_aheadOf_77 hl rfl ?_
                  refine n_icmp_ge (tgt := 85) hx hb y a rfl rfl (by omega) (by omega) dX7_aheadOf_78 (by decide) (fun h78 => ?_) (fun h78 => ?_)
                  · skip
                    refine lv_iconst (v := 0) hx hb dX7_aheadOf_85 (by decide) ?_
                    refine o_istore hx hb dX7_aheadOf_86 hl (by decide) rfl (fun ls hl => ?_)
                    refine o_iload hx hb dX7_aheadOf_88 hl rfl ?_
                    refine o_iload hx hb dX7_aheadOf_90 hl rfl ?_
                    refine lv_if_ne (tgt := 100) hx hb dX7_aheadOf_92 (by decide) (fun h92 => ?_) (fun h92 => ?_)
                    · exact absurd h92 (by decide)
                    · skip
                      refine o_iload hx hb dX7_aheadOf_95 hl rfl ?_
                      refine lv_if_eq (tgt := 104) hx hb dX7_aheadOf_97 (by decide) (fun h97 => ?_) (fun h97 => ?_)
                      · skip
                        refine lv_iconst (v := 0) hx hb dX7_aheadOf_104 (by decide) ?_
                        refine lv_iadd hx hb dX7_aheadOf_105 ?_
                        refine o_istore hx hb dX7_aheadOf_106 hl (by decide) rfl (fun ls hl => ?_)
                        try rw [Int32.add_zero] at hl
                        refine o_iinc1 hx hb dX7_aheadOf_108 hl rfl (by decide) rfl (fun ls hl => ?_)
                        refine lv_goto (tgt := 6) hx hb dX7_aheadOf_111 (by decide) ?_
                        exact ih6 (y + 1) (by omega) ls (by first | (rw [cnt_t (P := aoP T e9 a b) ⟨h29, Or.inl (Int32.not_le.mp h42)⟩]; exact lo_none (i := 6) (lo_none (i := 7) (lo_none (i := 8) hl))) | (rw [cnt_t (P := aoP T e9 a b) ⟨h59, Or.inr ⟨hbn h53, h72, h78⟩⟩]; exact lo_none (i := 6) (lo_none (i := 7) (lo_none (i := 8) hl))) | (rw [cnt_f (P := aoP T e9 a b) (by first | exact fun z => z.1 h29 | exact fun z => z.2.elim (fun z => absurd z (Int32.not_lt.mpr h42)) (fun z => by first | exact absurd (z.1.symm.trans h53) (by decide) | exact absurd h59 h29 | exact h72 z.2.1 | exact absurd z.2.2 (by omega)))]; exact lo_none (i := 6) (lo_none (i := 7) (lo_none (i := 8) hl))))
                      · exact absurd h97 (by decide)
                  · skip
                    refine lv_iconst (v := 1) hx hb dX7_aheadOf_81 (by decide) ?_
                    refine lv_goto (tgt := 86) hx hb dX7_aheadOf_82 (by decide) ?_
                    refine o_istore hx hb dX7_aheadOf_86 hl (by decide) rfl (fun ls hl => ?_)
                    refine o_iload hx hb dX7_aheadOf_88 hl rfl ?_
                    refine o_iload hx hb dX7_aheadOf_90 hl rfl ?_
                    refine lv_if_ne (tgt := 100) hx hb dX7_aheadOf_92 (by decide) (fun h92 => ?_) (fun h92 => ?_)
                    · exact absurd h92 (by decide)
                    · skip
                      refine o_iload hx hb dX7_aheadOf_95 hl rfl ?_
                      refine lv_if_eq (tgt := 104) hx hb dX7_aheadOf_97 (by decide) (fun h97 => ?_) (fun h97 => ?_)
                      · exact absurd h97 (by decide)
                      · skip
                        refine lv_iconst (v := 1) hx hb dX7_aheadOf_100 (by decide) ?_
                        refine lv_goto (tgt := 105) hx hb dX7_aheadOf_101 (by decide) ?_
                        refine lv_iadd hx hb dX7_aheadOf_105 ?_
                        refine o_istore hx hb dX7_aheadOf_106 hl (by decide) rfl (fun ls hl => ?_)
                        try rw [Int32.add_zero] at hl
                        refine o_iinc1 hx hb dX7_aheadOf_108 hl rfl (by decide) rfl (fun ls hl => ?_)
                        refine lv_goto (tgt := 6) hx hb dX7_aheadOf_111 (by decide) ?_
                        exact ih6 (y + 1) (by omega) ls (by first | (rw [cnt_t (P := aoP T e9 a b) ⟨h29, Or.inl (Int32.not_le.mp h42)⟩]; exact lo_none (i := 6) (lo_none (i := 7) (lo_none (i := 8) hl))) | (rw [cnt_t (P := aoP T e9 a b) ⟨h59, Or.inr ⟨hbn h53, h72, h78⟩⟩]; exact lo_none (i := 6) (lo_none (i := 7) (lo_none (i := 8) hl))) | (rw [cnt_f (P := aoP T e9 a b) (by first | exact fun z => z.1 h29 | exact fun z => z.2.elim (fun z => absurd z (Int32.not_lt.mpr h42)) (fun z => by first | exact absurd (z.1.symm.trans h53) (by decide) | exact absurd h59 h29 | exact h72 z.2.1 | exact absurd z.2.2 (by omega)))]; exact lo_none (i := 6) (lo_none (i := 7) (lo_none (i := 8) hl))))
          · skip
            refine lv_iconst (v := 1) hx hb dX7_aheadOf_45 (by decide) ?_
            refine lv_goto (tgt := 50) hx hb dX7_aheadOf_46 (by decide) ?_
            refine o_istore hx hb dX7_aheadOf_50 hl (by decide) rfl (fun ls hl => ?_)
            refine o_iload_n hx hb dX7_aheadOf_52 hl rfl ?_
            refine lv_if_eq (tgt := 85) hx hb dX7_aheadOf_53 (by decide) (fun h53 => ?_) (fun h53 => ?_)
            · skip
              refine lv_iconst (v := 0) hx hb dX7_aheadOf_85 (by decide) ?_
              refine o_istore hx hb dX7_aheadOf_86 hl (by decide) rfl (fun ls hl => ?_)
              refine o_iload hx hb dX7_aheadOf_88 hl rfl ?_
              refine o_iload hx hb dX7_aheadOf_90 hl rfl ?_
              refine lv_if_ne (tgt := 100) hx hb dX7_aheadOf_92 (by decide) (fun h92 => ?_) (fun h92 => ?_)
              · skip
                refine lv_iconst (v := 1) hx hb dX7_aheadOf_100 (by decide) ?_
                refine lv_goto (tgt := 105) hx hb dX7_aheadOf_101 (by decide) ?_
                refine lv_iadd hx hb dX7_aheadOf_105 ?_
                refine o_istore hx hb dX7_aheadOf_106 hl (by decide) rfl (fun ls hl => ?_)
                try rw [Int32.add_zero] at hl
                refine o_iinc1 hx hb dX7_aheadOf_108 hl rfl (by decide) rfl (fun ls hl => ?_)
                refine lv_goto (tgt := 6) hx hb dX7_aheadOf_111 (by decide) ?_
                exact ih6 (y + 1) (by omega) ls (by first | (rw [cnt_t (P := aoP T e9 a b) ⟨h29, Or.inl (Int32.not_le.mp h42)⟩]; exact lo_none (i := 6) (lo_none (i := 7) (lo_none (i := 8) hl))) | (rw [cnt_t (P := aoP T e9 a b) ⟨h59, Or.inr ⟨hbn h53, h72, h78⟩⟩]; exact lo_none (i := 6) (lo_none (i := 7) (lo_none (i := 8) hl))) | (rw [cnt_f (P := aoP T e9 a b) (by first | exact fun z => z.1 h29 | exact fun z => z.2.elim (fun z => absurd z (Int32.not_lt.mpr h42)) (fun z => by first | exact absurd (z.1.symm.trans h53) (by decide) | exact absurd h59 h29 | exact h72 z.2.1 | exact absurd z.2.2 (by omega)))]; exact lo_none (i := 6) (lo_none (i := 7) (lo_none (i := 8) hl))))
              · exact absurd h92 (by decide)
            · skip
              refine o_iload hx hb dX7_aheadOf_56 hl rfl ?_
              refine lv_iconst (v := (-1)) hx hb dX7_aheadOf_58 (by decide) ?_
              refine lv_icmp_eq (tgt := 85) hx hb dX7_aheadOf_59 (by decide) (fun h59 => ?_) (fun h59 => ?_)
              · skip
                refine lv_iconst (v := 0) hx hb dX7_aheadOf_85 (by decide) ?_
                refine o_istore hx hb dX7_aheadOf_86 hl (by decide) rfl (fun ls hl => ?_)
                refine o_iload hx hb dX7_aheadOf_88 hl rfl ?_
                refine o_iload hx hb dX7_aheadOf_90 hl rfl ?_
                refine lv_if_ne (tgt := 100) hx hb dX7_aheadOf_92 (by decide) (fun h92 => ?_) (fun h92 => ?_)
                · skip
                  refine lv_iconst (v := 1) hx hb dX7_aheadOf_100 (by decide) ?_
                  refine lv_goto (tgt := 105) hx hb dX7_aheadOf_101 (by decide) ?_
                  refine lv_iadd hx hb dX7_aheadOf_105 ?_
                  refine o_istore hx hb dX7_aheadOf_106 hl (by decide) rfl (fun ls hl => ?_)
                  try rw [Int32.add_zero] at hl
                  refine o_iinc1 hx hb dX7_aheadOf_108 hl rfl (by decide) rfl (fun ls hl => ?_)
                  refine lv_goto (tgt := 6) hx hb dX7_aheadOf_111 (by decide) ?_
                  exact ih6 (y + 1) (by omega) ls (by first | (rw [cnt_t (P := aoP T e9 a b) ⟨h29, Or.inl (Int32.not_le.mp h42)⟩]; exact lo_none (i := 6) (lo_none (i := 7) (lo_none (i := 8) hl))) | (rw [cnt_t (P := aoP T e9 a b) ⟨h59, Or.inr ⟨hbn h53, h72, h78⟩⟩]; exact lo_none (i := 6) (lo_none (i := 7) (lo_none (i := 8) hl))) | (rw [cnt_f (P := aoP T e9 a b) (by first | exact fun z => z.1 h29 | exact fun z => z.2.elim (fun z => absurd z (Int32.not_lt.mpr h42)) (fun z => by first | exact absurd (z.1.symm.trans h53) (by decide) | exact absurd h59 h29 | exact h72 z.2.1 | exact absurd z.2.2 (by omega)))]; exact lo_none (i := 6) (lo_none (i := 7) (lo_none (i := 8) hl))))
                · exact absurd h92 (by decide)
              · skip
                refine o_iload hx hb dX7_aheadOf_62 hl rfl ?_
                refine o_aload_n hx hb dX7_aheadOf_64 hl rfl ?_
                refine g_get hC hG us_X7 rfl 19 (by decide) fl_X7_73 V_model rfl dX7_aheadOf_65 ?_
                refine o_iload_n hx hb dX7_aheadOf_68 hl rfl ?_
                refine g_aald hC hG 7 rfl rfl V_o19 _ rfl (by omega) (by omega) dX7_aheadOf_69 ?_
                refine o_iload_n hx hb dX7_aheadOf_70 hl rfl ?_
                refine g_iald hC hG (V_r19 (by omega)) _ rfl (by omega) (by omega) dX7_aheadOf_71 ?_
                refine lv_icmp_ne (tgt := 85) hx hb dX7_aheadOf_72 (by decide) (fun h72 => ?_) (fun h72 => ?_)
                · skip
                  refine lv_iconst (v := 0) hx hb dX7_aheadOf_85 (by decide) ?_
                  refine o_istore hx hb dX7_aheadOf_86 hl (by decide) rfl (fun ls hl => ?_)
                  refine o_iload hx hb dX7_aheadOf_88 hl rfl ?_
                  refine o_iload hx hb dX7_aheadOf_90 hl rfl ?_
                  refine lv_if_ne (tgt := 100) hx hb dX7_aheadOf_92 (by decide) (fun h92 => ?_) (fun h92 => ?_)
                  · skip
                    refine lv_iconst (v := 1) hx hb dX7_aheadOf_100 (by decide) ?_
                    refine lv_goto (tgt := 105) hx hb dX7_aheadOf_101 (by decide) ?_
                    refine lv_iadd hx hb dX7_aheadOf_105 ?_
                    refine o_istore hx hb dX7_aheadOf_106 hl (by decide) rfl (fun ls hl => ?_)
                    try rw [Int32.add_zero] at hl
                    refine o_iinc1 hx hb dX7_aheadOf_108 hl rfl (by decide) rfl (fun ls hl => ?_)
                    refine lv_goto (tgt := 6) hx hb dX7_aheadOf_111 (by decide) ?_
                    exact ih6 (y + 1) (by omega) ls (by first | (rw [cnt_t (P := aoP T e9 a b) ⟨h29, Or.inl (Int32.not_le.mp h42)⟩]; exact lo_none (i := 6) (lo_none (i := 7) (lo_none (i := 8) hl))) | (rw [cnt_t (P := aoP T e9 a b) ⟨h59, Or.inr ⟨hbn h53, h72, h78⟩⟩]; exact lo_none (i := 6) (lo_none (i := 7) (lo_none (i := 8) hl))) | (rw [cnt_f (P := aoP T e9 a b) (by first | exact fun z => z.1 h29 | exact fun z => z.2.elim (fun z => absurd z (Int32.not_lt.mpr h42)) (fun z => by first | exact absurd (z.1.symm.trans h53) (by decide) | exact absurd h59 h29 | exact h72 z.2.1 | exact absurd z.2.2 (by omega)))]; exact lo_none (i := 6) (lo_none (i := 7) (lo_none (i := 8) hl))))
                  · exact absurd h92 (by decide)
                · skip
                  refine o_iload hx hb dX7_aheadOf_75 hl rfl ?_
                  refine o_iload_n hx hb dX7_aheadOf_77 hl rfl ?_
                  refine n_icmp_ge (tgt := 85) hx hb y a rfl rfl (by omega) (by omega) dX7_aheadOf_78 (by decide) (fun h78 => ?_) (fun h78 => ?_)
                  · skip
                    refine lv_iconst (v := 0) hx hb dX7_aheadOf_85 (by decide) ?_
                    refine o_istore hx hb dX7_aheadOf_86 hl (by decide) rfl (fun ls hl => ?_)
                    refine o_iload hx hb dX7_aheadOf_88 hl rfl ?_
                    refine o_iload hx hb dX7_aheadOf_90 hl rfl ?_
                    refine lv_if_ne (tgt := 100) hx hb dX7_aheadOf_92 (by decide) (fun h92 => ?_) (fun h92 => ?_)
                    · skip
                      refine lv_iconst (v := 1) hx hb dX7_aheadOf_100 (by decide) ?_
                      refine lv_goto (tgt := 105) hx hb dX7_aheadOf_101 (by decide) ?_
                      refine lv_iadd hx hb dX7_aheadOf_105 ?_
                      refine o_istore hx hb dX7_aheadOf_106 hl (by decide) rfl (fun ls hl => ?_)
                      try rw [Int32.add_zero] at hl
                      refine o_iinc1 hx hb dX7_aheadOf_108 hl rfl (by decide) rfl (fun ls hl => ?_)
                      refine lv_goto (tgt := 6) hx hb dX7_aheadOf_111 (by decide) ?_
                      exact ih6 (y + 1) (by omega) ls (by first | (rw [cnt_t (P := aoP T e9 a b) ⟨h29, Or.inl (Int32.not_le.mp h42)⟩]; exact lo_none (i := 6) (lo_none (i := 7) (lo_none (i := 8) hl))) | (rw [cnt_t (P := aoP T e9 a b) ⟨h59, Or.inr ⟨hbn h53, h72, h78⟩⟩]; exact lo_none (i := 6) (lo_none (i := 7) (lo_none (i := 8) hl))) | (rw [cnt_f (P := aoP T e9 a b) (by first | exact fun z => z.1 h29 | exact fun z => z.2.elim (fun z => absurd z (Int32.not_lt.mpr h42)) (fun z => by first | exact absurd (z.1.symm.trans h53) (by decide) | exact absurd h59 h29 | exact h72 z.2.1 | exact absurd z.2.2 (by omega)))]; exact lo_none (i := 6) (lo_none (i := 7) (lo_none (i := 8) hl))))
                    · exact absurd h92 (by decide)
                  · skip
                    refine lv_iconst (v := 1) hx hb dX7_aheadOf_81 (by decide) ?_
                    refine lv_goto (tgt := 86) hx hb dX7_aheadOf_82 (by decide) ?_
                    refine o_istore hx hb dX7_aheadOf_86 hl (by decide) rfl (fun ls hl => ?_)
                    refine o_iload hx hb dX7_aheadOf_88 hl rfl ?_
                    refine o_iload hx hb dX7_aheadOf_90 hl rfl ?_
                    refine lv_if_ne (tgt := 100) hx hb dX7_aheadOf_92 (by decide) (fun h92 => ?_) (fun h92 => ?_)
                    · skip
                      refine lv_iconst (v := 1) hx hb dX7_aheadOf_100 (by decide) ?_
                      refine lv_goto (tgt := 105) hx hb dX7_aheadOf_101 (by decide) ?_
                      refine lv_iadd hx hb dX7_aheadOf_105 ?_
                      refine o_istore hx hb dX7_aheadOf_106 hl (by decide) rfl (fun ls hl => ?_)
                      try rw [Int32.add_zero] at hl
                      refine o_iinc1 hx hb dX7_aheadOf_108 hl rfl (by decide) rfl (fun ls hl => ?_)
                      refine lv_goto (tgt := 6) hx hb dX7_aheadOf_111 (by decide) ?_
                      exact ih6 (y + 1) (by omega) ls (by first | (rw [cnt_t (P := aoP T e9 a b) ⟨h29, Or.inl (Int32.not_le.mp h42)⟩]; exact lo_none (i := 6) (lo_none (i := 7) (lo_none (i := 8) hl))) | (rw [cnt_t (P := aoP T e9 a b) ⟨h59, Or.inr ⟨hbn h53, h72, h78⟩⟩]; exact lo_none (i := 6) (lo_none (i := 7) (lo_none (i := 8) hl))) | (rw [cnt_f (P := aoP T e9 a b) (by first | exact fun z => z.1 h29 | exact fun z => z.2.elim (fun z => absurd z (Int32.not_lt.mpr h42)) (fun z => by first | exact absurd (z.1.symm.trans h53) (by decide) | exact absurd h59 h29 | exact h72 z.2.1 | exact absurd z.2.2 (by omega)))]; exact lo_none (i := 6) (lo_none (i := 7) (lo_none (i := 8) hl))))
                    · exact absurd h92 (by decide)
  exact loop6 (k 0 + 1) 0 (by omega) ls hl
theorem k_X7_aheadOf {p : Program} {l : Launch} {e : Env} {R : Room} {s : State} {m : MethodId} {args : Array Value} {below : List Frame} {meth : Method} {c : Code} {H : Heap} {locs : List Loc} {cells slots : Nat} {Q : State → Prop} {cc : ByteArray} {pc nL : Nat} {ls : Array Slot} {rest : List Value} {own : String} {D : va_G} {cy : Nat → ClassId} {sa : Nat → Nat} {de B : Nat} {ad : Ad} {S : St} {n : Nat → Nat} {T : St} {k : Nat → Nat} {th : Int32} {X : Rl} {e9 a : Nat} {b : Int32}  (hC : Cx p m c cc nL s args own D cy sa de B) (hS : va_S (AB B) s.heap H locs) (hG : GW D B ad (Vw cy de ad S n T k th X) H) (h0 : e9 < 8 ∧ a < 16 ∧ MB k ∧ (b = 0 ∨ b = 1))  {idx : Nat} (wl : Cond.methodLink own idx yX7_aheadOf ∈ G0) (hR : 0 + 1 ≤ R.frames ∧ 8 + (9 + 11) + 0 ≤ R.locals) (hsz : ls.size = nL) (hst : (rest.map fun v => v.category).sum ≤ 8) (hdg : decode cc pc = .ok (.invokevirtual idx, 3)) (hcs : cells + 0 ≤ R.cells ∧ slots + 0 ≤ R.slots) (kk : W p l e R s m args below meth c H locs cells slots Q (F0 m (pc + 3) ls (.int (cnt (aoP T e9 a b) (k 0)) :: rest))) : W p l e R s m args below meth c H locs cells slots Q (F0 m pc ls (.int b :: .int (nI a) :: .int (nI e9) :: .ref (ad 13 0 0) :: rest)) :=
  vp_callSi (va_Run.run (rV hC hS hG h0 (As := [.int (nI e9), .int (nI a), .int b]) (c_X7_aheadOf l) ⟨rfl, rfl⟩ wl im_X7_aheadOf sl_X7_X7_aheadOf in_X7 cd_X7_aheadOf (n := 3) (by decide +kernel) hR (recv hC hG (q := (RX7, TX7, 26)) rfl V_model) rfl hsz hst rfl hdg hcs)) (fun r hr => by subst hr; exact kk)
set_option maxHeartbeats 4000000 in
set_option maxRecDepth 100000 in
theorem c_X7_athleteAt (l : Launch) {D : va_G} {cy : Nat → ClassId} {sa : Nat → Nat} {de B : Nat} {ad : Ad} {S : St} {n : Nat → Nat} {T : St} {k : Nat → Nat} {th : Int32} {X : Rl} {e9 : Nat} {x : Int32}  : Met l yX7_athleteAt (Cond.code yX7_athleteAt cX7_athleteAt 5 (Option.some Jvm.ClassFile.FieldType.int) :: G0) ({ frames := 1, cells := 0, slots := 0, locals := 28 } : Room) (va_Pc [.ref (ad 13 0 0), .int (nI e9), .int x] (PW D cy sa de B ad (Vw cy de ad S n T k th X) (e9 < 8 ∧ MB k))) (vp_Si (fun r => r = atF T k e9 x (k 0))) 0 0 (fun _ => False) := by
  refine E_met (own := RX7) rfl rfl (Nat.le_of_ble_eq_true rfl) ?_
  intro p e s m below meth c hC hr hlk hnm hG h0 ls hl
  have hx := hC.x
  have hb := hC.b
  have hS : va_S (AB B) s.heap s.heap [] := va_S.rf
  have hl : lo ls 5 [some (.ref (ad 13 0 0)), some (.int (nI e9)), some (.int x), none, none] := lo_of hl
  obtain ⟨he, hMB⟩ := h0
  have hMB9 := hMB
  obtain ⟨hM0, hM1, hM2, hM3⟩ := hMB9
  refine lv_iconst (v := (-1)) hx hb dX7_athleteAt_0 (by decide) ?_
  refine o_istore_n hx hb dX7_athleteAt_1 hl (by decide) rfl (fun ls hl => ?_)
  refine lv_iconst (v := 0) hx hb dX7_athleteAt_2 (by decide) ?_
  refine o_istore hx hb dX7_athleteAt_3 hl (by decide) rfl (fun ls hl => ?_)
  have loop5 : ∀ (q9 : Nat) (y : Nat), y ≤ k 0 ∧ k 0 < y + q9 → ∀ ls : Array Slot, lo ls 5 [some (.ref (ad 13 0 0)), some (.int (nI e9)), some (.int x), some (.int (atF T k e9 x y)), some (.int (nI y))] → W p l e ({ frames := 1, cells := 0, slots := 0, locals := 28 } : Room) s m [.ref (ad 13 0 0), .int (nI e9), .int x].toArray below meth c s.heap [] 0 0 (MQ below (vp_Si (fun r => r = atF T k e9 x (k 0))) [.ref (ad 13 0 0), .int (nI e9), .int x].toArray s 0 0 (fun _ => False)) (F0 m 5 ls []) := by
    intro q9
    induction q9 with
    | zero => intro y hq9; exact absurd hq9 (by omega)
    | succ q9 ih5 =>
      intro y hq9   ls hl
      refine o_iload hx hb dX7_athleteAt_5 hl rfl ?_
      refine o_aload_n hx hb dX7_athleteAt_7 hl rfl ?_
      refine g_get hC hG us_X7 rfl 20 (by decide) fl_X7_80 V_model rfl dX7_athleteAt_8 ?_
      refine n_icmp_ge (tgt := 52) hx hb y (k 0) rfl rfl (by omega) (by omega) dX7_athleteAt_11 (by decide) (fun h11 => ?_) (fun h11 => ?_)
      · skip
        refine o_iload_n hx hb dX7_athleteAt_52 hl rfl ?_
        exact R_i hC hr hlk rfl (by rw [show k 0 = y by omega]) dX7_athleteAt_53
      · skip
        refine o_aload_n hx hb dX7_athleteAt_14 hl rfl ?_
        refine g_get hC hG us_X7 rfl 19 (by decide) fl_X7_73 V_model rfl dX7_athleteAt_15 ?_
        refine o_iload_n hx hb dX7_athleteAt_18 hl rfl ?_
        refine g_aald hC hG 7 rfl rfl V_o19 _ rfl (by omega) (by omega) dX7_athleteAt_19 ?_
        refine o_iload hx hb dX7_athleteAt_20 hl rfl ?_
        refine g_iald hC hG (V_r19 (by omega)) _ rfl (by omega) (by omega) dX7_athleteAt_22 ?_
        refine lv_iconst (v := (-1)) hx hb dX7_athleteAt_23 (by decide) ?_
        refine lv_icmp_eq (tgt := 44) hx hb dX7_athleteAt_24 (by decide) (fun h24 => ?_) (fun h24 => ?_)
        · skip
          refine o_iload_n hx hb dX7_athleteAt_44 hl rfl ?_
          refine o_istore_n hx hb dX7_athleteAt_45 hl (by decide) rfl (fun ls hl => ?_)
          refine o_iinc1 hx hb dX7_athleteAt_46 hl rfl (by decide) rfl (fun ls hl => ?_)
          refine lv_goto (tgt := 5) hx hb dX7_athleteAt_49 (by decide) ?_
          exact ih5 (y + 1) (by omega) ls (by first | (rw [atF_t ⟨h24, h36⟩]; exact hl) | (rw [atF_f (by first | exact fun z => z.1 h24 | exact fun z => h36 z.2)]; exact hl))
        · skip
          refine o_aload_n hx hb dX7_athleteAt_27 hl rfl ?_
          refine o_iload_n hx hb dX7_athleteAt_28 hl rfl ?_
          refine o_iload hx hb dX7_athleteAt_29 hl rfl ?_
          refine lv_iconst (v := 1) hx hb dX7_athleteAt_31 (by decide) ?_
          refine k_X7_aheadOf hC hS hG ⟨by omega, by omega, hMB, Or.inr rfl⟩ ml_X7_165 ⟨Nat.le_of_ble_eq_true rfl, Nat.le_of_ble_eq_true rfl⟩ hl.1 (Nat.le_of_ble_eq_true rfl) dX7_athleteAt_32 ⟨Nat.le_of_ble_eq_true rfl, Nat.le_of_ble_eq_true rfl⟩ ?_
          refine o_iload_n hx hb dX7_athleteAt_35 hl rfl ?_
          refine lv_icmp_ne (tgt := 44) hx hb dX7_athleteAt_36 (by decide) (fun h36 => ?_) (fun h36 => ?_)
          · skip
            refine o_iload_n hx hb dX7_athleteAt_44 hl rfl ?_
            refine o_istore_n hx hb dX7_athleteAt_45 hl (by decide) rfl (fun ls hl => ?_)
            refine o_iinc1 hx hb dX7_athleteAt_46 hl rfl (by decide) rfl (fun ls hl => ?_)
            refine lv_goto (tgt := 5) hx hb dX7_athleteAt_49 (by decide) ?_
            exact ih5 (y + 1) (by omega) ls (by first | (rw [atF_t ⟨h24, h36⟩]; exact hl) | (rw [atF_f (by first | exact fun z => z.1 h24 | exact fun z => h36 z.2)]; exact hl))
          · skip
            refine o_iload hx hb dX7_athleteAt_39 hl rfl ?_
            refine lv_goto (tgt := 45) hx hb dX7_athleteAt_41 (by decide) ?_
            refine o_istore_n hx hb dX7_athleteAt_45 hl (by decide) rfl (fun ls hl => ?_)
            refine o_iinc1 hx hb dX7_athleteAt_46 hl rfl (by decide) rfl (fun ls hl => ?_)
            refine lv_goto (tgt := 5) hx hb dX7_athleteAt_49 (by decide) ?_
            exact ih5 (y + 1) (by omega) ls (by first | (rw [atF_t ⟨h24, h36⟩]; exact hl) | (rw [atF_f (by first | exact fun z => z.1 h24 | exact fun z => h36 z.2)]; exact hl))
  exact loop5 (k 0 + 1) 0 (by omega) ls hl
theorem k_X7_athleteAt {p : Program} {l : Launch} {e : Env} {R : Room} {s : State} {m : MethodId} {args : Array Value} {below : List Frame} {meth : Method} {c : Code} {H : Heap} {locs : List Loc} {cells slots : Nat} {Q : State → Prop} {cc : ByteArray} {pc nL : Nat} {ls : Array Slot} {rest : List Value} {own : String} {D : va_G} {cy : Nat → ClassId} {sa : Nat → Nat} {de B : Nat} {ad : Ad} {S : St} {n : Nat → Nat} {T : St} {k : Nat → Nat} {th : Int32} {X : Rl} {e9 : Nat} {x : Int32}  (hC : Cx p m c cc nL s args own D cy sa de B) (hS : va_S (AB B) s.heap H locs) (hG : GW D B ad (Vw cy de ad S n T k th X) H) (h0 : e9 < 8 ∧ MB k)  {idx : Nat} (wl : Cond.methodLink own idx yX7_athleteAt ∈ G0) (hR : 1 + 1 ≤ R.frames ∧ 8 + (5 + 11) + 28 ≤ R.locals) (hsz : ls.size = nL) (hst : (rest.map fun v => v.category).sum ≤ 8) (hdg : decode cc pc = .ok (.invokevirtual idx, 3)) (hcs : cells + 0 ≤ R.cells ∧ slots + 0 ≤ R.slots) (kk : W p l e R s m args below meth c H locs cells slots Q (F0 m (pc + 3) ls (.int (atF T k e9 x (k 0)) :: rest))) : W p l e R s m args below meth c H locs cells slots Q (F0 m pc ls (.int x :: .int (nI e9) :: .ref (ad 13 0 0) :: rest)) :=
  vp_callSi (va_Run.run (rV hC hS hG h0 (As := [.int (nI e9), .int x]) (c_X7_athleteAt l) ⟨rfl, rfl⟩ wl im_X7_athleteAt sl_X7_X7_athleteAt in_X7 cd_X7_athleteAt (n := 2) (by decide +kernel) hR (recv hC hG (q := (RX7, TX7, 26)) rfl V_model) rfl hsz hst rfl hdg hcs)) (fun r hr => by subst hr; exact kk)
set_option maxHeartbeats 4000000 in
set_option maxRecDepth 100000 in
theorem c_X7_pointsOf (l : Launch) {D : va_G} {cy : Nat → ClassId} {sa : Nat → Nat} {de B : Nat} {ad : Ad} {S : St} {n : Nat → Nat} {T : St} {k : Nat → Nat} {th : Int32} {X : Rl} {x : Int32}  : Met l yX7_pointsOf (Cond.code yX7_pointsOf cX7_pointsOf 4 (Option.some Jvm.ClassFile.FieldType.int) :: G0) ({ frames := 0, cells := 0, slots := 0, locals := 0 } : Room) (va_Pc [.ref (ad 13 0 0), .int x] (PW D cy sa de B ad (Vw cy de ad S n T k th X) (MB k))) (vp_Si (fun r => r = ptF T x (k 0))) 0 0 (fun _ => False) := by
  refine E_met (own := RX7) rfl rfl (Nat.le_of_ble_eq_true rfl) ?_
  intro p e s m below meth c hC hr hlk hnm hG h0 ls hl
  have hx := hC.x
  have hb := hC.b
  have hS : va_S (AB B) s.heap s.heap [] := va_S.rf
  have hl : lo ls 4 [some (.ref (ad 13 0 0)), some (.int x), none, none] := lo_of hl
  have hMB := h0
  have hMB9 := hMB
  obtain ⟨hM0, hM1, hM2, hM3⟩ := hMB9
  refine lv_iconst (v := 0) hx hb dX7_pointsOf_0 (by decide) ?_
  refine o_istore_n hx hb dX7_pointsOf_1 hl (by decide) rfl (fun ls hl => ?_)
  refine lv_iconst (v := 0) hx hb dX7_pointsOf_2 (by decide) ?_
  refine o_istore_n hx hb dX7_pointsOf_3 hl (by decide) rfl (fun ls hl => ?_)
  have loop4 : ∀ (q9 : Nat) (y : Nat), y ≤ k 0 ∧ k 0 < y + q9 → ∀ ls : Array Slot, lo ls 4 [some (.ref (ad 13 0 0)), some (.int x), some (.int (ptF T x y)), some (.int (nI y))] → W p l e ({ frames := 0, cells := 0, slots := 0, locals := 0 } : Room) s m [.ref (ad 13 0 0), .int x].toArray below meth c s.heap [] 0 0 (MQ below (vp_Si (fun r => r = ptF T x (k 0))) [.ref (ad 13 0 0), .int x].toArray s 0 0 (fun _ => False)) (F0 m 4 ls []) := by
    intro q9
    induction q9 with
    | zero => intro y hq9; exact absurd hq9 (by omega)
    | succ q9 ih4 =>
      intro y hq9   ls hl
      refine o_iload_n hx hb dX7_pointsOf_4 hl rfl ?_
      refine o_aload_n hx hb dX7_pointsOf_5 hl rfl ?_
      refine g_get hC hG us_X7 rfl 20 (by decide) fl_X7_80 V_model rfl dX7_pointsOf_6 ?_
      refine n_icmp_ge (tgt := 42) hx hb y (k 0) rfl rfl (by omega) (by omega) dX7_pointsOf_9 (by decide) (fun h9 => ?_) (fun h9 => ?_)
      · skip
        refine o_iload_n hx hb dX7_pointsOf_42 hl rfl ?_
        exact R_i hC hr hlk rfl (by rw [show k 0 = y by omega]) dX7_pointsOf_43
      · skip
        refine o_iload_n hx hb dX7_pointsOf_12 hl rfl ?_
        refine o_iload_n hx hb dX7_pointsOf_13 hl rfl ?_
        refine o_iload_n hx hb dX7_pointsOf_14 hl rfl ?_
        refine lv_ishr hx hb dX7_pointsOf_15 ?_
        refine lv_iconst (v := 1) hx hb dX7_pointsOf_16 (by decide) ?_
        refine lv_iand hx hb dX7_pointsOf_17 ?_
        refine lv_iconst (v := 1) hx hb dX7_pointsOf_18 (by decide) ?_
        refine lv_icmp_ne (tgt := 33) hx hb dX7_pointsOf_19 (by decide) (fun h19 => ?_) (fun h19 => ?_)
        · skip
          refine lv_iconst (v := 0) hx hb dX7_pointsOf_33 (by decide) ?_
          refine lv_iadd hx hb dX7_pointsOf_34 ?_
          refine o_istore_n hx hb dX7_pointsOf_35 hl (by decide) rfl (fun ls hl => ?_)
          try rw [Int32.add_zero] at hl
          refine o_iinc1 hx hb dX7_pointsOf_36 hl rfl (by decide) rfl (fun ls hl => ?_)
          refine lv_goto (tgt := 4) hx hb dX7_pointsOf_39 (by decide) ?_
          exact ih4 (y + 1) (by omega) ls (by first | (rw [ptF_t ((bit_shr (by omega)).mp h19), ptsOf_eq]; exact hl) | (rw [ptF_f (fun z => h19 ((bit_shr (by omega)).mpr z))]; exact hl))
        · skip
          refine o_aload_n hx hb dX7_pointsOf_22 hl rfl ?_
          refine g_get hC hG us_X7 rfl 6 (by decide) fl_X7_32 V_model rfl dX7_pointsOf_23 ?_
          refine o_iload_n hx hb dX7_pointsOf_26 hl rfl ?_
          refine g_iald hC hG V_m6 _ rfl (by omega) (by omega) dX7_pointsOf_27 ?_
          refine lv_iconst (v := 1) hx hb dX7_pointsOf_28 (by decide) ?_
          refine lv_iadd hx hb dX7_pointsOf_29 ?_
          refine lv_goto (tgt := 34) hx hb dX7_pointsOf_30 (by decide) ?_
          refine lv_iadd hx hb dX7_pointsOf_34 ?_
          refine o_istore_n hx hb dX7_pointsOf_35 hl (by decide) rfl (fun ls hl => ?_)
          try rw [Int32.add_zero] at hl
          refine o_iinc1 hx hb dX7_pointsOf_36 hl rfl (by decide) rfl (fun ls hl => ?_)
          refine lv_goto (tgt := 4) hx hb dX7_pointsOf_39 (by decide) ?_
          exact ih4 (y + 1) (by omega) ls (by first | (rw [ptF_t ((bit_shr (by omega)).mp h19), ptsOf_eq]; exact hl) | (rw [ptF_f (fun z => h19 ((bit_shr (by omega)).mpr z))]; exact hl))
  exact loop4 (k 0 + 1) 0 (by omega) ls hl
theorem k_X7_pointsOf {p : Program} {l : Launch} {e : Env} {R : Room} {s : State} {m : MethodId} {args : Array Value} {below : List Frame} {meth : Method} {c : Code} {H : Heap} {locs : List Loc} {cells slots : Nat} {Q : State → Prop} {cc : ByteArray} {pc nL : Nat} {ls : Array Slot} {rest : List Value} {own : String} {D : va_G} {cy : Nat → ClassId} {sa : Nat → Nat} {de B : Nat} {ad : Ad} {S : St} {n : Nat → Nat} {T : St} {k : Nat → Nat} {th : Int32} {X : Rl} {x : Int32}  (hC : Cx p m c cc nL s args own D cy sa de B) (hS : va_S (AB B) s.heap H locs) (hG : GW D B ad (Vw cy de ad S n T k th X) H) (h0 : MB k)  {idx : Nat} (wl : Cond.methodLink own idx yX7_pointsOf ∈ G0) (hR : 0 + 1 ≤ R.frames ∧ 8 + (4 + 11) + 0 ≤ R.locals) (hsz : ls.size = nL) (hst : (rest.map fun v => v.category).sum ≤ 8) (hdg : decode cc pc = .ok (.invokevirtual idx, 3)) (hcs : cells + 0 ≤ R.cells ∧ slots + 0 ≤ R.slots) (kk : W p l e R s m args below meth c H locs cells slots Q (F0 m (pc + 3) ls (.int (ptF T x (k 0)) :: rest))) : W p l e R s m args below meth c H locs cells slots Q (F0 m pc ls (.int x :: .ref (ad 13 0 0) :: rest)) :=
  vp_callSi (va_Run.run (rV hC hS hG h0 (As := [.int x]) (c_X7_pointsOf l) ⟨rfl, rfl⟩ wl im_X7_pointsOf sl_X7_X7_pointsOf in_X7 cd_X7_pointsOf (n := 1) (by decide +kernel) hR (recv hC hG (q := (RX7, TX7, 26)) rfl V_model) rfl hsz hst rfl hdg hcs)) (fun r hr => by subst hr; exact kk)
set_option maxHeartbeats 4000000 in
set_option maxRecDepth 100000 in
theorem c_X7_floorOf (l : Launch) {D : va_G} {cy : Nat → ClassId} {sa : Nat → Nat} {de B : Nat} {ad : Ad} {S : St} {n : Nat → Nat} {T : St} {k : Nat → Nat} {th : Int32} {X : Rl} {x : Int32}  : Met l yX7_floorOf (Cond.code yX7_floorOf cX7_floorOf 4 (Option.some Jvm.ClassFile.FieldType.int) :: G0) ({ frames := 0, cells := 0, slots := 0, locals := 0 } : Room) (va_Pc [.ref (ad 13 0 0), .int x] (PW D cy sa de B ad (Vw cy de ad S n T k th X) (MB k))) (vp_Si (fun r => r = biF T x (k 0))) 0 0 (fun _ => False) := by
  refine E_met (own := RX7) rfl rfl (Nat.le_of_ble_eq_true rfl) ?_
  intro p e s m below meth c hC hr hlk hnm hG h0 ls hl
  have hx := hC.x
  have hb := hC.b
  have hS : va_S (AB B) s.heap s.heap [] := va_S.rf
  have hl : lo ls 4 [some (.ref (ad 13 0 0)), some (.int x), none, none] := lo_of hl
  have hMB := h0
  have hMB9 := hMB
  obtain ⟨hM0, hM1, hM2, hM3⟩ := hMB9
  refine lv_iconst (v := 0) hx hb dX7_floorOf_0 (by decide) ?_
  refine o_istore_n hx hb dX7_floorOf_1 hl (by decide) rfl (fun ls hl => ?_)
  refine lv_iconst (v := 0) hx hb dX7_floorOf_2 (by decide) ?_
  refine o_istore_n hx hb dX7_floorOf_3 hl (by decide) rfl (fun ls hl => ?_)
  have loop4 : ∀ (q9 : Nat) (y : Nat), y ≤ k 0 ∧ k 0 < y + q9 → ∀ ls : Array Slot, lo ls 4 [some (.ref (ad 13 0 0)), some (.int x), some (.int (biF T x y)), some (.int (nI y))] → W p l e ({ frames := 0, cells := 0, slots := 0, locals := 0 } : Room) s m [.ref (ad 13 0 0), .int x].toArray below meth c s.heap [] 0 0 (MQ below (vp_Si (fun r => r = biF T x (k 0))) [.ref (ad 13 0 0), .int x].toArray s 0 0 (fun _ => False)) (F0 m 4 ls []) := by
    intro q9
    induction q9 with
    | zero => intro y hq9; exact absurd hq9 (by omega)
    | succ q9 ih4 =>
      intro y hq9   ls hl
      refine o_iload_n hx hb dX7_floorOf_4 hl rfl ?_
      refine o_aload_n hx hb dX7_floorOf_5 hl rfl ?_
      refine g_get hC hG us_X7 rfl 20 (by decide) fl_X7_80 V_model rfl dX7_floorOf_6 ?_
      refine n_icmp_ge (tgt := 47) hx hb y (k 0) rfl rfl (by omega) (by omega) dX7_floorOf_9 (by decide) (fun h9 => ?_) (fun h9 => ?_)
      · skip
        refine o_iload_n hx hb dX7_floorOf_47 hl rfl ?_
        exact R_i hC hr hlk rfl (by rw [show k 0 = y by omega]) dX7_floorOf_48
      · skip
        refine o_iload_n hx hb dX7_floorOf_12 hl rfl ?_
        refine o_aload_n hx hb dX7_floorOf_13 hl rfl ?_
        refine g_get hC hG us_X7 rfl 0 (by decide) fl_X7_9 V_model rfl dX7_floorOf_14 ?_
        refine o_iload_n hx hb dX7_floorOf_17 hl rfl ?_
        refine g_iald hC hG V_m0 _ rfl (by omega) (by omega) dX7_floorOf_18 ?_
        refine o_iload_n hx hb dX7_floorOf_19 hl rfl ?_
        refine lv_icmp_ne (tgt := 38) hx hb dX7_floorOf_20 (by decide) (fun h20 => ?_) (fun h20 => ?_)
        · skip
          refine lv_iconst (v := 0) hx hb dX7_floorOf_38 (by decide) ?_
          refine lv_ior hx hb dX7_floorOf_39 ?_
          refine o_istore_n hx hb dX7_floorOf_40 hl (by decide) rfl (fun ls hl => ?_)
          try rw [Int32.or_zero] at hl
          refine o_iinc1 hx hb dX7_floorOf_41 hl rfl (by decide) rfl (fun ls hl => ?_)
          refine lv_goto (tgt := 4) hx hb dX7_floorOf_44 (by decide) ?_
          exact ih4 (y + 1) (by omega) ls (by first | (rw [biF_t ⟨h20, h29⟩]; exact hl) | (rw [biF_f (by first | exact fun z => h20 z.1 | exact fun z => z.2 h29)]; exact hl))
        · skip
          refine o_aload_n hx hb dX7_floorOf_23 hl rfl ?_
          refine g_get hC hG us_X7 rfl 8 (by decide) fl_X7_38 V_model rfl dX7_floorOf_24 ?_
          refine o_iload_n hx hb dX7_floorOf_27 hl rfl ?_
          refine g_zald hC hG V_m8 _ rfl (by omega) (by omega) dX7_floorOf_28 ?_
          refine lv_if_eq (tgt := 38) hx hb dX7_floorOf_29 (by decide) (fun h29 => ?_) (fun h29 => ?_)
          · skip
            refine lv_iconst (v := 0) hx hb dX7_floorOf_38 (by decide) ?_
            refine lv_ior hx hb dX7_floorOf_39 ?_
            refine o_istore_n hx hb dX7_floorOf_40 hl (by decide) rfl (fun ls hl => ?_)
            try rw [Int32.or_zero] at hl
            refine o_iinc1 hx hb dX7_floorOf_41 hl rfl (by decide) rfl (fun ls hl => ?_)
            refine lv_goto (tgt := 4) hx hb dX7_floorOf_44 (by decide) ?_
            exact ih4 (y + 1) (by omega) ls (by first | (rw [biF_t ⟨h20, h29⟩]; exact hl) | (rw [biF_f (by first | exact fun z => h20 z.1 | exact fun z => z.2 h29)]; exact hl))
          · skip
            refine lv_iconst (v := 1) hx hb dX7_floorOf_32 (by decide) ?_
            refine o_iload_n hx hb dX7_floorOf_33 hl rfl ?_
            refine lv_ishl hx hb dX7_floorOf_34 ?_
            refine lv_goto (tgt := 39) hx hb dX7_floorOf_35 (by decide) ?_
            refine lv_ior hx hb dX7_floorOf_39 ?_
            refine o_istore_n hx hb dX7_floorOf_40 hl (by decide) rfl (fun ls hl => ?_)
            try rw [Int32.or_zero] at hl
            refine o_iinc1 hx hb dX7_floorOf_41 hl rfl (by decide) rfl (fun ls hl => ?_)
            refine lv_goto (tgt := 4) hx hb dX7_floorOf_44 (by decide) ?_
            exact ih4 (y + 1) (by omega) ls (by first | (rw [biF_t ⟨h20, h29⟩]; exact hl) | (rw [biF_f (by first | exact fun z => h20 z.1 | exact fun z => z.2 h29)]; exact hl))
  exact loop4 (k 0 + 1) 0 (by omega) ls hl
theorem k_X7_floorOf {p : Program} {l : Launch} {e : Env} {R : Room} {s : State} {m : MethodId} {args : Array Value} {below : List Frame} {meth : Method} {c : Code} {H : Heap} {locs : List Loc} {cells slots : Nat} {Q : State → Prop} {cc : ByteArray} {pc nL : Nat} {ls : Array Slot} {rest : List Value} {own : String} {D : va_G} {cy : Nat → ClassId} {sa : Nat → Nat} {de B : Nat} {ad : Ad} {S : St} {n : Nat → Nat} {T : St} {k : Nat → Nat} {th : Int32} {X : Rl} {x : Int32}  (hC : Cx p m c cc nL s args own D cy sa de B) (hS : va_S (AB B) s.heap H locs) (hG : GW D B ad (Vw cy de ad S n T k th X) H) (h0 : MB k)  {idx : Nat} (wl : Cond.methodLink own idx yX7_floorOf ∈ G0) (hR : 0 + 1 ≤ R.frames ∧ 8 + (4 + 11) + 0 ≤ R.locals) (hsz : ls.size = nL) (hst : (rest.map fun v => v.category).sum ≤ 8) (hdg : decode cc pc = .ok (.invokevirtual idx, 3)) (hcs : cells + 0 ≤ R.cells ∧ slots + 0 ≤ R.slots) (kk : W p l e R s m args below meth c H locs cells slots Q (F0 m (pc + 3) ls (.int (biF T x (k 0)) :: rest))) : W p l e R s m args below meth c H locs cells slots Q (F0 m pc ls (.int x :: .ref (ad 13 0 0) :: rest)) :=
  vp_callSi (va_Run.run (rV hC hS hG h0 (As := [.int x]) (c_X7_floorOf l) ⟨rfl, rfl⟩ wl im_X7_floorOf sl_X7_X7_floorOf in_X7 cd_X7_floorOf (n := 1) (by decide +kernel) hR (recv hC hG (q := (RX7, TX7, 26)) rfl V_model) rfl hsz hst rfl hdg hcs)) (fun r hr => by subst hr; exact kk)
set_option maxHeartbeats 4000000 in
set_option maxRecDepth 100000 in
theorem c_X7_isTooMuch (l : Launch) {D : va_G} {cy : Nat → ClassId} {sa : Nat → Nat} {de B : Nat} {ad : Ad} {S : St} {n : Nat → Nat} {T : St} {k : Nat → Nat} {th : Int32} {X : Rl} {x : Int32}  : Met l yX7_isTooMuch (Cond.code yX7_isTooMuch cX7_isTooMuch 4 (Option.some Jvm.ClassFile.FieldType.boolean) :: G0) ({ frames := 1, cells := 0, slots := 0, locals := 23 } : Room) (va_Pc [.ref (ad 13 0 0), .int x] (PW D cy sa de B ad (Vw cy de ad S n T k th X) (MB k))) (vp_Si (fun r => (r = 1 ∧ (¬ tmP T k x (k 0))) ∨ (r = 0 ∧ ¬ (¬ tmP T k x (k 0))))) 0 0 (fun _ => False) := by
  refine E_met (own := RX7) rfl rfl (Nat.le_of_ble_eq_true rfl) ?_
  intro p e s m below meth c hC hr hlk hnm hG h0 ls hl
  have hx := hC.x
  have hb := hC.b
  have hS : va_S (AB B) s.heap s.heap [] := va_S.rf
  have hl : lo ls 4 [some (.ref (ad 13 0 0)), some (.int x), none, none] := lo_of hl
  have hMB := h0
  have hMB9 := hMB
  obtain ⟨hM0, hM1, hM2, hM3⟩ := hMB9
  refine o_aload_n hx hb dX7_isTooMuch_0 hl rfl ?_
  refine o_iload_n hx hb dX7_isTooMuch_1 hl rfl ?_
  refine k_X7_pointsOf hC hS hG hMB ml_X7_172 ⟨Nat.le_of_ble_eq_true rfl, Nat.le_of_ble_eq_true rfl⟩ hl.1 (Nat.le_of_ble_eq_true rfl) dX7_isTooMuch_2 ⟨Nat.le_of_ble_eq_true rfl, Nat.le_of_ble_eq_true rfl⟩ ?_
  refine lv_bipush (v := 12) hx hb dX7_isTooMuch_5 (by decide) ?_
  refine lv_icmp_le (tgt := 14) hx hb dX7_isTooMuch_7 (by decide) (fun h7 => ?_) (fun h7 => ?_)
  · skip
    refine lv_iconst (v := 0) hx hb dX7_isTooMuch_14 (by decide) ?_
    refine o_istore_n hx hb dX7_isTooMuch_15 hl (by decide) rfl (fun ls hl => ?_)
    refine lv_iconst (v := 0) hx hb dX7_isTooMuch_16 (by decide) ?_
    refine o_istore_n hx hb dX7_isTooMuch_17 hl (by decide) rfl (fun ls hl => ?_)
    have loop18 : ∀ (q9 : Nat) (y : Nat), y ≤ k 0 ∧ k 0 < y + q9 → ∀ ls : Array Slot, lo ls 4 [some (.ref (ad 13 0 0)), some (.int x), some (.int (tmF T k x y)), some (.int (nI y))] → W p l e ({ frames := 1, cells := 0, slots := 0, locals := 23 } : Room) s m [.ref (ad 13 0 0), .int x].toArray below meth c s.heap [] 0 0 (MQ below (vp_Si (fun r => (r = 1 ∧ (¬ tmP T k x (k 0))) ∨ (r = 0 ∧ ¬ (¬ tmP T k x (k 0))))) [.ref (ad 13 0 0), .int x].toArray s 0 0 (fun _ => False)) (F0 m 18 ls []) := by
      intro q9
      induction q9 with
      | zero => intro y hq9; exact absurd hq9 (by omega)
      | succ q9 ih18 =>
        intro y hq9   ls hl
        refine o_iload_n hx hb dX7_isTooMuch_18 hl rfl ?_
        refine o_aload_n hx hb dX7_isTooMuch_19 hl rfl ?_
        refine g_get hC hG us_X7 rfl 20 (by decide) fl_X7_80 V_model rfl dX7_isTooMuch_20 ?_
        refine n_icmp_ge (tgt := 59) hx hb y (k 0) rfl rfl (by omega) (by omega) dX7_isTooMuch_23 (by decide) (fun h23 => ?_) (fun h23 => ?_)
        · skip
          refine o_iload_n hx hb dX7_isTooMuch_59 hl rfl ?_
          exact R_i hC hr hlk (by rcases tmF_01 (T := T) (k := k) (x := x) y with ⟨z1, -⟩ | ⟨z1, -⟩ <;> rw [z1] <;> rfl) (by rw [show y = k 0 by omega]; rcases tmF_01 (T := T) (k := k) (x := x) (k 0) with ⟨z1, z2⟩ | ⟨z1, z2⟩; exact Or.inl ⟨z1, z2⟩; exact Or.inr ⟨z1, fun z => z z2⟩) dX7_isTooMuch_60
        · skip
          refine o_iload_n hx hb dX7_isTooMuch_26 hl rfl ?_
          refine o_iload_n hx hb dX7_isTooMuch_27 hl rfl ?_
          refine o_iload_n hx hb dX7_isTooMuch_28 hl rfl ?_
          refine lv_ishr hx hb dX7_isTooMuch_29 ?_
          refine lv_iconst (v := 1) hx hb dX7_isTooMuch_30 (by decide) ?_
          refine lv_iand hx hb dX7_isTooMuch_31 ?_
          refine lv_iconst (v := 1) hx hb dX7_isTooMuch_32 (by decide) ?_
          refine lv_icmp_ne (tgt := 50) hx hb dX7_isTooMuch_33 (by decide) (fun h33 => ?_) (fun h33 => ?_)
          · skip
            refine lv_iconst (v := 0) hx hb dX7_isTooMuch_50 (by decide) ?_
            refine lv_ior hx hb dX7_isTooMuch_51 ?_
            refine o_istore_n hx hb dX7_isTooMuch_52 hl (by decide) rfl (fun ls hl => ?_)
            refine o_iinc1 hx hb dX7_isTooMuch_53 hl rfl (by decide) rfl (fun ls hl => ?_)
            refine lv_goto (tgt := 18) hx hb dX7_isTooMuch_56 (by decide) ?_
            exact ih18 (y + 1) (by omega) ls (by rw [show tmF T k x (y + 1) = tmF T k x y ||| cif (bitP x (nI y) ∧ T 10 y 0 = -1) 1 0 from rfl]; first | (rw [cif_t ⟨(bit_shr (by omega)).mp h33, h43⟩]; exact hl) | (rw [cif_f (by first | exact fun z => h33 ((bit_shr (by omega)).mpr z.1) | exact fun z => h43 z.2)]; exact hl))
          · skip
            refine o_aload_n hx hb dX7_isTooMuch_36 hl rfl ?_
            refine g_get hC hG us_X7 rfl 6 (by decide) fl_X7_32 V_model rfl dX7_isTooMuch_37 ?_
            refine o_iload_n hx hb dX7_isTooMuch_40 hl rfl ?_
            refine g_iald hC hG V_m6 _ rfl (by omega) (by omega) dX7_isTooMuch_41 ?_
            refine lv_iconst (v := (-1)) hx hb dX7_isTooMuch_42 (by decide) ?_
            refine lv_icmp_ne (tgt := 50) hx hb dX7_isTooMuch_43 (by decide) (fun h43 => ?_) (fun h43 => ?_)
            · skip
              refine lv_iconst (v := 0) hx hb dX7_isTooMuch_50 (by decide) ?_
              refine lv_ior hx hb dX7_isTooMuch_51 ?_
              refine o_istore_n hx hb dX7_isTooMuch_52 hl (by decide) rfl (fun ls hl => ?_)
              refine o_iinc1 hx hb dX7_isTooMuch_53 hl rfl (by decide) rfl (fun ls hl => ?_)
              refine lv_goto (tgt := 18) hx hb dX7_isTooMuch_56 (by decide) ?_
              exact ih18 (y + 1) (by omega) ls (by rw [show tmF T k x (y + 1) = tmF T k x y ||| cif (bitP x (nI y) ∧ T 10 y 0 = -1) 1 0 from rfl]; first | (rw [cif_t ⟨(bit_shr (by omega)).mp h33, h43⟩]; exact hl) | (rw [cif_f (by first | exact fun z => h33 ((bit_shr (by omega)).mpr z.1) | exact fun z => h43 z.2)]; exact hl))
            · skip
              refine lv_iconst (v := 1) hx hb dX7_isTooMuch_46 (by decide) ?_
              refine lv_goto (tgt := 51) hx hb dX7_isTooMuch_47 (by decide) ?_
              refine lv_ior hx hb dX7_isTooMuch_51 ?_
              refine o_istore_n hx hb dX7_isTooMuch_52 hl (by decide) rfl (fun ls hl => ?_)
              refine o_iinc1 hx hb dX7_isTooMuch_53 hl rfl (by decide) rfl (fun ls hl => ?_)
              refine lv_goto (tgt := 18) hx hb dX7_isTooMuch_56 (by decide) ?_
              exact ih18 (y + 1) (by omega) ls (by rw [show tmF T k x (y + 1) = tmF T k x y ||| cif (bitP x (nI y) ∧ T 10 y 0 = -1) 1 0 from rfl]; first | (rw [cif_t ⟨(bit_shr (by omega)).mp h33, h43⟩]; exact hl) | (rw [cif_f (by first | exact fun z => h33 ((bit_shr (by omega)).mpr z.1) | exact fun z => h43 z.2)]; exact hl))
    exact loop18 (k 0 + 1) 0 (by omega) ls (by first | (rw [show tmF T k x 0 = 0 from cif_t h7]; exact hl) | (rw [show tmF T k x 0 = 1 from cif_f h7]; exact hl))
  · skip
    refine lv_iconst (v := 1) hx hb dX7_isTooMuch_10 (by decide) ?_
    refine lv_goto (tgt := 15) hx hb dX7_isTooMuch_11 (by decide) ?_
    refine o_istore_n hx hb dX7_isTooMuch_15 hl (by decide) rfl (fun ls hl => ?_)
    refine lv_iconst (v := 0) hx hb dX7_isTooMuch_16 (by decide) ?_
    refine o_istore_n hx hb dX7_isTooMuch_17 hl (by decide) rfl (fun ls hl => ?_)
    have loop18 : ∀ (q9 : Nat) (y : Nat), y ≤ k 0 ∧ k 0 < y + q9 → ∀ ls : Array Slot, lo ls 4 [some (.ref (ad 13 0 0)), some (.int x), some (.int (tmF T k x y)), some (.int (nI y))] → W p l e ({ frames := 1, cells := 0, slots := 0, locals := 23 } : Room) s m [.ref (ad 13 0 0), .int x].toArray below meth c s.heap [] 0 0 (MQ below (vp_Si (fun r => (r = 1 ∧ (¬ tmP T k x (k 0))) ∨ (r = 0 ∧ ¬ (¬ tmP T k x (k 0))))) [.ref (ad 13 0 0), .int x].toArray s 0 0 (fun _ => False)) (F0 m 18 ls []) := by
      intro q9
      induction q9 with
      | zero => intro y hq9; exact absurd hq9 (by omega)
      | succ q9 ih18 =>
        intro y hq9   ls hl
        refine o_iload_n hx hb dX7_isTooMuch_18 hl rfl ?_
        refine o_aload_n hx hb dX7_isTooMuch_19 hl rfl ?_
        refine g_get hC hG us_X7 rfl 20 (by decide) fl_X7_80 V_model rfl dX7_isTooMuch_20 ?_
        refine n_icmp_ge (tgt := 59) hx hb y (k 0) rfl rfl (by omega) (by omega) dX7_isTooMuch_23 (by decide) (fun h23 => ?_) (fun h23 => ?_)
        · skip
          refine o_iload_n hx hb dX7_isTooMuch_59 hl rfl ?_
          exact R_i hC hr hlk (by rcases tmF_01 (T := T) (k := k) (x := x) y with ⟨z1, -⟩ | ⟨z1, -⟩ <;> rw [z1] <;> rfl) (by rw [show y = k 0 by omega]; rcases tmF_01 (T := T) (k := k) (x := x) (k 0) with ⟨z1, z2⟩ | ⟨z1, z2⟩; exact Or.inl ⟨z1, z2⟩; exact Or.inr ⟨z1, fun z => z z2⟩) dX7_isTooMuch_60
        · skip
          refine o_iload_n hx hb dX7_isTooMuch_26 hl rfl ?_
          refine o_iload_n hx hb dX7_isTooMuch_27 hl rfl ?_
          refine o_iload_n hx hb dX7_isTooMuch_28 hl rfl ?_
          refine lv_ishr hx hb dX7_isTooMuch_29 ?_
          refine lv_iconst (v := 1) hx hb dX7_isTooMuch_30 (by decide) ?_
          refine lv_iand hx hb dX7_isTooMuch_31 ?_
          refine lv_iconst (v := 1) hx hb dX7_isTooMuch_32 (by decide) ?_
          refine lv_icmp_ne (tgt := 50) hx hb dX7_isTooMuch_33 (by decide) (fun h33 => ?_) (fun h33 => ?_)
          · skip
            refine lv_iconst (v := 0) hx hb dX7_isTooMuch_50 (by decide) ?_
            refine lv_ior hx hb dX7_isTooMuch_51 ?_
            refine o_istore_n hx hb dX7_isTooMuch_52 hl (by decide) rfl (fun ls hl => ?_)
            refine o_iinc1 hx hb dX7_isTooMuch_53 hl rfl (by decide) rfl (fun ls hl => ?_)
            refine lv_goto (tgt := 18) hx hb dX7_isTooMuch_56 (by decide) ?_
            exact ih18 (y + 1) (by omega) ls (by rw [show tmF T k x (y + 1) = tmF T k x y ||| cif (bitP x (nI y) ∧ T 10 y 0 = -1) 1 0 from rfl]; first | (rw [cif_t ⟨(bit_shr (by omega)).mp h33, h43⟩]; exact hl) | (rw [cif_f (by first | exact fun z => h33 ((bit_shr (by omega)).mpr z.1) | exact fun z => h43 z.2)]; exact hl))
          · skip
            refine o_aload_n hx hb dX7_isTooMuch_36 hl rfl ?_
            refine g_get hC hG us_X7 rfl 6 (by decide) fl_X7_32 V_model rfl dX7_isTooMuch_37 ?_
            refine o_iload_n hx hb dX7_isTooMuch_40 hl rfl ?_
            refine g_iald hC hG V_m6 _ rfl (by omega) (by omega) dX7_isTooMuch_41 ?_
            refine lv_iconst (v := (-1)) hx hb dX7_isTooMuch_42 (by decide) ?_
            refine lv_icmp_ne (tgt := 50) hx hb dX7_isTooMuch_43 (by decide) (fun h43 => ?_) (fun h43 => ?_)
            · skip
              refine lv_iconst (v := 0) hx hb dX7_isTooMuch_50 (by decide) ?_
              refine lv_ior hx hb dX7_isTooMuch_51 ?_
              refine o_istore_n hx hb dX7_isTooMuch_52 hl (by decide) rfl (fun ls hl => ?_)
              refine o_iinc1 hx hb dX7_isTooMuch_53 hl rfl (by decide) rfl (fun ls hl => ?_)
              refine lv_goto (tgt := 18) hx hb dX7_isTooMuch_56 (by decide) ?_
              exact ih18 (y + 1) (by omega) ls (by rw [show tmF T k x (y + 1) = tmF T k x y ||| cif (bitP x (nI y) ∧ T 10 y 0 = -1) 1 0 from rfl]; first | (rw [cif_t ⟨(bit_shr (by omega)).mp h33, h43⟩]; exact hl) | (rw [cif_f (by first | exact fun z => h33 ((bit_shr (by omega)).mpr z.1) | exact fun z => h43 z.2)]; exact hl))
            · skip
              refine lv_iconst (v := 1) hx hb dX7_isTooMuch_46 (by decide) ?_
              refine lv_goto (tgt := 51) hx hb dX7_isTooMuch_47 (by decide) ?_
              refine lv_ior hx hb dX7_isTooMuch_51 ?_
              refine o_istore_n hx hb dX7_isTooMuch_52 hl (by decide) rfl (fun ls hl => ?_)
              refine o_iinc1 hx hb dX7_isTooMuch_53 hl rfl (by decide) rfl (fun ls hl => ?_)
              refine lv_goto (tgt := 18) hx hb dX7_isTooMuch_56 (by decide) ?_
              exact ih18 (y + 1) (by omega) ls (by rw [show tmF T k x (y + 1) = tmF T k x y ||| cif (bitP x (nI y) ∧ T 10 y 0 = -1) 1 0 from rfl]; first | (rw [cif_t ⟨(bit_shr (by omega)).mp h33, h43⟩]; exact hl) | (rw [cif_f (by first | exact fun z => h33 ((bit_shr (by omega)).mpr z.1) | exact fun z => h43 z.2)]; exact hl))
    exact loop18 (k 0 + 1) 0 (by omega) ls (by first | (rw [show tmF T k x 0 = 0 from cif_t h7]; exact hl) | (rw [show tmF T k x 0 = 1 from cif_f h7]; exact hl))
theorem k_X7_isTooMuch {p : Program} {l : Launch} {e : Env} {R : Room} {s : State} {m : MethodId} {args : Array Value} {below : List Frame} {meth : Method} {c : Code} {H : Heap} {locs : List Loc} {cells slots : Nat} {Q : State → Prop} {cc : ByteArray} {pc nL : Nat} {ls : Array Slot} {rest : List Value} {own : String} {D : va_G} {cy : Nat → ClassId} {sa : Nat → Nat} {de B : Nat} {ad : Ad} {S : St} {n : Nat → Nat} {T : St} {k : Nat → Nat} {th : Int32} {X : Rl} {x : Int32}  (hC : Cx p m c cc nL s args own D cy sa de B) (hS : va_S (AB B) s.heap H locs) (hG : GW D B ad (Vw cy de ad S n T k th X) H) (h0 : MB k)  {idx : Nat} (wl : Cond.methodLink own idx yX7_isTooMuch ∈ G0) (hR : 1 + 1 ≤ R.frames ∧ 8 + (4 + 11) + 23 ≤ R.locals) (hsz : ls.size = nL) (hst : (rest.map fun v => v.category).sum ≤ 8) (hdg : decode cc pc = .ok (.invokevirtual idx, 3)) (hcs : cells + 0 ≤ R.cells ∧ slots + 0 ≤ R.slots) (kt : (¬ tmP T k x (k 0)) → W p l e R s m args below meth c H locs cells slots Q (F0 m (pc + 3) ls (.int 1 :: rest))) (kf : ¬ (¬ tmP T k x (k 0)) → W p l e R s m args below meth c H locs cells slots Q (F0 m (pc + 3) ls (.int 0 :: rest))) : W p l e R s m args below meth c H locs cells slots Q (F0 m pc ls (.int x :: .ref (ad 13 0 0) :: rest)) :=
  vp_callSi (va_Run.run (rV hC hS hG h0 (As := [.int x]) (c_X7_isTooMuch l) ⟨rfl, rfl⟩ wl im_X7_isTooMuch sl_X7_X7_isTooMuch in_X7 cd_X7_isTooMuch (n := 1) (by decide +kernel) hR (recv hC hG (q := (RX7, TX7, 26)) rfl V_model) rfl hsz hst rfl hdg hcs)) (fun r hr => by rcases hr with ⟨rfl, hp⟩ | ⟨rfl, hp⟩; exact kt hp; exact kf hp)
set_option maxHeartbeats 4000000 in
set_option maxRecDepth 100000 in
theorem c_X7_puts (l : Launch) {D : va_G} {cy : Nat → ClassId} {sa : Nat → Nat} {de B : Nat} {ad : Ad} {S : St} {n : Nat → Nat} {T : St} {k : Nat → Nat} {th : Int32} {X : Rl} {land x : Int32}  : Met l yX7_puts (Cond.code yX7_puts cX7_puts 4 (Option.some Jvm.ClassFile.FieldType.int) :: G0) ({ frames := 1, cells := 0, slots := 0, locals := 23 } : Room) (va_Pc [.ref (ad 13 0 0), .int land, .int x] (PW D cy sa de B ad (Vw cy de ad S n T k th X) (MB k ∧ ∀ i, T 11 i 0 = 0 ∨ T 11 i 0 = 1))) (oI B (fun r H => (r = ptF T x (k 0) ∧ GW D B ad (Vw cy de ad S n (puF T land x (k 0)) k th X) H))) 0 0 (AB B) := by
  refine E_met (own := RX7) rfl rfl (Nat.le_of_ble_eq_true rfl) ?_
  intro p e s m below meth c hC hr hlk hnm hG h0 ls hl
  have hx := hC.x
  have hb := hC.b
  have hS : va_S (AB B) s.heap s.heap [] := va_S.rf
  have hl : lo ls 4 [some (.ref (ad 13 0 0)), some (.int land), some (.int x), none] := lo_of hl
  obtain ⟨hMB, hB11⟩ := h0
  have hMB9 := hMB
  obtain ⟨hM0, hM1, hM2, hM3⟩ := hMB9
  refine lv_iconst (v := 0) hx hb dX7_puts_0 (by decide) ?_
  refine o_istore_n hx hb dX7_puts_1 hl (by decide) rfl (fun ls hl => ?_)
  have loop2 : ∀ (q9 : Nat) (y : Nat), y ≤ k 0 ∧ k 0 < y + q9 → ∀ (H : Heap) (locs : List Loc), GW D B ad (Vw cy de ad S n (puF T land x y) k th X) H → va_S (AB B) s.heap H locs → ∀ ls : Array Slot, lo ls 4 [some (.ref (ad 13 0 0)), some (.int land), some (.int x), some (.int (nI y))] → W p l e ({ frames := 1, cells := 0, slots := 0, locals := 23 } : Room) s m [.ref (ad 13 0 0), .int land, .int x].toArray below meth c H locs 0 0 (MQ below (oI B (fun r H => (r = ptF T x (k 0) ∧ GW D B ad (Vw cy de ad S n (puF T land x (k 0)) k th X) H))) [.ref (ad 13 0 0), .int land, .int x].toArray s 0 0 (AB B)) (F0 m 2 ls []) := by
    intro q9
    induction q9 with
    | zero => intro y hq9; exact absurd hq9 (by omega)
    | succ q9 ih2 =>
      intro y hq9  H locs hG hS ls hl
      have z5 : puF T land x y 5 = T 5 := puF_o y (by decide)
      have z11 : puF T land x y 11 y 0 = T 11 y 0 := puF_11 y (Nat.le_refl y)
      refine o_iload_n hx hb dX7_puts_2 hl rfl ?_
      refine o_aload_n hx hb dX7_puts_3 hl rfl ?_
      refine g_get hC hG us_X7 rfl 20 (by decide) fl_X7_80 V_model rfl dX7_puts_4 ?_
      refine n_icmp_ge (tgt := 55) hx hb y (k 0) rfl rfl (by omega) (by omega) dX7_puts_7 (by decide) (fun h7 => ?_) (fun h7 => ?_)
      · skip
        refine o_aload_n hx hb dX7_puts_55 hl rfl ?_
        refine o_iload_n hx hb dX7_puts_56 hl rfl ?_
        refine k_X7_pointsOf hC hS hG hMB ml_X7_172 ⟨Nat.le_of_ble_eq_true rfl, Nat.le_of_ble_eq_true rfl⟩ hl.1 (Nat.le_of_ble_eq_true rfl) dX7_puts_57 ⟨Nat.le_of_ble_eq_true rfl, Nat.le_of_ble_eq_true rfl⟩ ?_
        exact R_I hC hS hr hlk rfl (⟨(by rw [ptF_congr (puF_o y (by decide))]), (show y = k 0 by omega) ▸ hG⟩) (Nat.le_of_ble_eq_true rfl) (Nat.le_of_ble_eq_true rfl) dX7_puts_60
      · skip
        refine o_aload_n hx hb dX7_puts_10 hl rfl ?_
        refine g_get hC hG us_X7 rfl 8 (by decide) fl_X7_38 V_model rfl dX7_puts_11 ?_
        refine o_iload_n hx hb dX7_puts_14 hl rfl ?_
        refine o_aload_n hx hb dX7_puts_15 hl rfl ?_
        refine g_get hC hG us_X7 rfl 0 (by decide) fl_X7_9 V_model rfl dX7_puts_16 ?_
        refine o_iload_n hx hb dX7_puts_19 hl rfl ?_
        refine g_iald hC hG V_m0 _ rfl (by omega) (by omega) dX7_puts_20 ?_
        refine o_iload_n hx hb dX7_puts_21 hl rfl ?_
        refine lv_icmp_ne (tgt := 42) hx hb dX7_puts_22 (by decide) (fun h22 => ?_) (fun h22 => ?_)
        · skip
          refine o_aload_n hx hb dX7_puts_42 hl rfl ?_
          refine g_get hC hG us_X7 rfl 8 (by decide) fl_X7_38 V_model rfl dX7_puts_43 ?_
          refine o_iload_n hx hb dX7_puts_46 hl rfl ?_
          refine g_zald hC hG V_m8 _ rfl (by omega) (by omega) dX7_puts_47 ?_
          refine g_zast hC hG hS V_m8 _ rfl (by omega) (by omega) (by first | exact Or.inl rfl | exact Or.inr rfl | (rw [z11]; exact hB11 y)) P_m8 dX7_puts_48 (fun H locs hG hS => ?_)
          refine o_iinc1 hx hb dX7_puts_49 hl rfl (by decide) rfl (fun ls hl => ?_)
          refine lv_goto (tgt := 2) hx hb dX7_puts_52 (by decide) ?_
          exact ih2 (y + 1) (by omega) H locs (by first | (rw [puF_t (S := T) (land := land) (x := x) (c := y) (by rw [← z5]; exact h22), cif_t ((bit_shr (by omega)).mp h31)]; exact hG) | (rw [puF_t (S := T) (land := land) (x := x) (c := y) (by rw [← z5]; exact h22), cif_f (fun z => h31 ((bit_shr (by omega)).mpr z))]; exact hG) | (rw [puF_f (S := T) (land := land) (x := x) (c := y) (by rw [← z5]; exact h22)]; rw [up3_same rfl] at hG; exact hG)) hS ls hl
        · skip
          refine o_iload_n hx hb dX7_puts_25 hl rfl ?_
          refine o_iload_n hx hb dX7_puts_26 hl rfl ?_
          refine lv_ishr hx hb dX7_puts_27 ?_
          refine lv_iconst (v := 1) hx hb dX7_puts_28 (by decide) ?_
          refine lv_iand hx hb dX7_puts_29 ?_
          refine lv_iconst (v := 1) hx hb dX7_puts_30 (by decide) ?_
          refine lv_icmp_ne (tgt := 38) hx hb dX7_puts_31 (by decide) (fun h31 => ?_) (fun h31 => ?_)
          · skip
            refine lv_iconst (v := 0) hx hb dX7_puts_38 (by decide) ?_
            refine lv_goto (tgt := 48) hx hb dX7_puts_39 (by decide) ?_
            refine g_zast hC hG hS V_m8 _ rfl (by omega) (by omega) (by first | exact Or.inl rfl | exact Or.inr rfl | (rw [z11]; exact hB11 y)) P_m8 dX7_puts_48 (fun H locs hG hS => ?_)
            refine o_iinc1 hx hb dX7_puts_49 hl rfl (by decide) rfl (fun ls hl => ?_)
            refine lv_goto (tgt := 2) hx hb dX7_puts_52 (by decide) ?_
            exact ih2 (y + 1) (by omega) H locs (by first | (rw [puF_t (S := T) (land := land) (x := x) (c := y) (by rw [← z5]; exact h22), cif_t ((bit_shr (by omega)).mp h31)]; exact hG) | (rw [puF_t (S := T) (land := land) (x := x) (c := y) (by rw [← z5]; exact h22), cif_f (fun z => h31 ((bit_shr (by omega)).mpr z))]; exact hG) | (rw [puF_f (S := T) (land := land) (x := x) (c := y) (by rw [← z5]; exact h22)]; rw [up3_same rfl] at hG; exact hG)) hS ls hl
          · skip
            refine lv_iconst (v := 1) hx hb dX7_puts_34 (by decide) ?_
            refine lv_goto (tgt := 48) hx hb dX7_puts_35 (by decide) ?_
            refine g_zast hC hG hS V_m8 _ rfl (by omega) (by omega) (by first | exact Or.inl rfl | exact Or.inr rfl | (rw [z11]; exact hB11 y)) P_m8 dX7_puts_48 (fun H locs hG hS => ?_)
            refine o_iinc1 hx hb dX7_puts_49 hl rfl (by decide) rfl (fun ls hl => ?_)
            refine lv_goto (tgt := 2) hx hb dX7_puts_52 (by decide) ?_
            exact ih2 (y + 1) (by omega) H locs (by first | (rw [puF_t (S := T) (land := land) (x := x) (c := y) (by rw [← z5]; exact h22), cif_t ((bit_shr (by omega)).mp h31)]; exact hG) | (rw [puF_t (S := T) (land := land) (x := x) (c := y) (by rw [← z5]; exact h22), cif_f (fun z => h31 ((bit_shr (by omega)).mpr z))]; exact hG) | (rw [puF_f (S := T) (land := land) (x := x) (c := y) (by rw [← z5]; exact h22)]; rw [up3_same rfl] at hG; exact hG)) hS ls hl
  exact loop2 (k 0 + 1) 0 (by omega) s.heap [] hG hS ls hl
theorem k_X7_puts {p : Program} {l : Launch} {e : Env} {R : Room} {s : State} {m : MethodId} {args : Array Value} {below : List Frame} {meth : Method} {c : Code} {H : Heap} {locs : List Loc} {cells slots : Nat} {Q : State → Prop} {cc : ByteArray} {pc nL : Nat} {ls : Array Slot} {rest : List Value} {own : String} {D : va_G} {cy : Nat → ClassId} {sa : Nat → Nat} {de B : Nat} {ad : Ad} {S : St} {n : Nat → Nat} {T : St} {k : Nat → Nat} {th : Int32} {X : Rl} {land x : Int32}  (hC : Cx p m c cc nL s args own D cy sa de B) (hS : va_S (AB B) s.heap H locs) (hG : GW D B ad (Vw cy de ad S n T k th X) H) (h0 : MB k ∧ ∀ i, T 11 i 0 = 0 ∨ T 11 i 0 = 1)  {idx : Nat} (wl : Cond.methodLink own idx yX7_puts ∈ G0) (hR : 1 + 1 ≤ R.frames ∧ 8 + (4 + 11) + 23 ≤ R.locals) (hsz : ls.size = nL) (hst : (rest.map fun v => v.category).sum ≤ 8) (hdg : decode cc pc = .ok (.invokevirtual idx, 3)) (hcs : cells + 0 ≤ R.cells ∧ slots + 0 ≤ R.slots) (k0 : ∀ (H1 : Heap) (locs1 : List Loc), GW D B ad (Vw cy de ad S n (puF T land x (k 0)) k th X) H1 → va_S (AB B) s.heap H1 locs1 → W p l e R s m args below meth c H1 locs1 cells slots Q (F0 m (pc + 3) ls (.int (ptF T x (k 0)) :: rest))) : W p l e R s m args below meth c H locs cells slots Q (F0 m pc ls (.int x :: .int land :: .ref (ad 13 0 0) :: rest)) :=
  va_calli (rV hC hS hG h0 (As := [.int land, .int x]) (c_X7_puts l) ⟨rfl, rfl⟩ wl im_X7_puts sl_X7_X7_puts in_X7 cd_X7_puts (n := 2) (by decide +kernel) hR (recv hC hG (q := (RX7, TX7, 26)) rfl V_model) rfl hsz hst rfl hdg hcs) hS (fun _ _ h => h) (fun _ h => h) (fun r u t H1 locs1 ht _ hr hB _ _ hS1 => by
      subst hr
      have hB9 := hB; try dsimp only at hB9
      rw [ht] at hB9
      rcases hB9 with ⟨rfl, hG1⟩
      · exact k0 _ _ hG1 hS1)
