/-! WHAT IS FOUND, BY PANELS AND BY PROTESTS: pc 893 to 1152. -/
theorem hid_s0 {L : St} {a c : Nat} (h : ¬ L 6 a c + 20 < L 4 a c) : cif (hidB L a (c + 1)) (1 : Int32) 0 = cif (hidB L a c) 1 0 ||| 0 := by
  by_cases z : hidB L a c
  · have z2 : hidB L a (c + 1) := z.elim (fun y w => ⟨y, by omega, w.2⟩)
    rw [cif_t z, cif_t z2]; decide
  · have z2 : ¬ hidB L a (c + 1) := fun ⟨y, hy, w⟩ => by
      by_cases hyc : y = c
      · subst hyc; exact h w
      · exact z ⟨y, by omega, w⟩
    rw [cif_f z, cif_f z2]; decide
theorem hid_s1 {L : St} {a c : Nat} (h : L 6 a c + 20 < L 4 a c) : cif (hidB L a (c + 1)) (1 : Int32) 0 = cif (hidB L a c) 1 0 ||| 1 := by
  have z2 : hidB L a (c + 1) := ⟨c, by omega, h⟩
  rw [cif_t z2]
  by_cases z : hidB L a c
  · rw [cif_t z]; decide
  · rw [cif_f z]; decide
set_option maxHeartbeats 4000000 in
set_option maxRecDepth 100000 in
theorem blk_test {p : Program} {l : Launch} {e : Env} {s : State} {m : MethodId} {args : Array Value} {below : List Frame} {meth : Method} {c : Code} {H : Heap} {locs : List Loc} {cells slots : Nat} {Q : State → Prop} {ls : Array Slot} {D : va_G} {cy : Nat → ClassId} {sa : Nat → Nat} {de B : Nat} {ad : Ad} {S : St} {n : Nat → Nat} {T : St} {k : Nat → Nat} {th : Int32} {L : St} {b K yr nn : Nat} {a : Nat} {yv mo bf : Int32} {g : Nat → Int32} (hC : Cx p m c cL_law 29 s args RL D cy sa de B) (hS : va_S (AB B) s.heap H locs) (hG : GW D B ad (WL cy de ad S n T k th K 10 L) H) (ha : a < 3) (hK : K ≤ 8) (hkey : ∀ q, q < K → ∃ z, z < 5 ∧ L 0 q 0 = nI z) (hg : ∀ y, y < 5 → (0 ≤ L 5 a y → L 5 a y = g y) ∧ (¬ 0 ≤ L 5 a y → L 4 a y = g y)) (hl : lo ls 29 (LW b ad K yv mo (nI nn) (some (.int (nI a))) none none none (some (.int 1)) (some (.int 1)) (some (.int bf)) (some (.int 0)) none none none none)) (kk0 : ∀ (H1 : Heap) (locs1 : List Loc) (ls1 : Array Slot), GW D B ad (WL cy de ad S n T k th K 10 (setL (rowL L a g 5) a (fK (condL L g) 0 K) (stL (fK (condL L g) 0 K) 110) (yv + 2))) H1 → va_S (AB B) s.heap H1 locs1 → lo ls1 29 (LW b ad K yv mo (nI nn) (some (.int (nI a))) none none none (some (.int 1)) (some (.int 1)) (some (.int bf)) none none none none none) → W p l e room_1 s m args below meth c H1 locs1 cells slots Q (F0 m 1152 ls1 [])) : W p l e room_1 s m args below meth c H locs cells slots Q (F0 m 893 ls []) := by
  have hx := hC.x
  have hb := hC.b
  have tail : ∀ (H : Heap) (locs : List Loc) (ls : Array Slot), GW D B ad (WL cy de ad S n T k th K 10 (rowL L a g 5)) H → va_S (AB B) s.heap H locs → lo ls 29 (LW b ad K yv mo (nI nn) (some (.int (nI a))) none none none (some (.int 1)) (some (.int 1)) (some (.int bf)) (some (.int 0)) none none none none) → W p l e room_1 s m args below meth c H locs cells slots Q (F0 m 986 ls []) := by
    intro H locs ls hG hS hl
    have tail2 : ∀ (ls : Array Slot), lo ls 29 (LW b ad K yv mo (nI nn) (some (.int (nI a))) none none none (some (.int 1)) (some (.int 1)) (some (.int bf)) (some (.int 0)) (some (.int (fK (condL L g) 0 K))) none none none) → W p l e room_1 s m args below meth c H locs cells slots Q (F0 m 1090 ls []) := by
      intro ls hl
      refine o_aload hx hb dL_law_1090 hl rfl ?_
      refine o_iload hx hb dL_law_1092 hl rfl ?_
      refine o_iload hx hb dL_law_1094 hl rfl ?_
      refine lv_if_eq (tgt := 1103) hx hb dL_law_1096 (by decide) (fun _ => ?_) (fun h => absurd rfl h)
      refine o_iload hx hb dL_law_1103 hl rfl ?_
      refine g_iast hC hG hS (V_c (i := 7) (by decide) (by decide) (by decide)) (a) rfl (by omega) (by decide) (P_c (by decide) (by decide) (by decide)) dL_law_1105 (fun H locs hG hS => ?_)
      refine o_aload hx hb dL_law_1106 hl rfl ?_
      refine o_iload hx hb dL_law_1108 hl rfl ?_
      refine o_iload hx hb dL_law_1110 hl rfl ?_
      refine lv_if_eq (tgt := 1120) hx hb dL_law_1112 (by decide) (fun _ => ?_) (fun h => absurd rfl h)
      refine o_iload hx hb dL_law_1120 hl rfl ?_
      refine lv_if_ge (tgt := 1130) hx hb dL_law_1122 (by decide) (fun hB => ?_) (fun hB => ?_)
      · skip
        refine o_iload hx hb dL_law_1130 hl rfl ?_
        refine lv_if_eq (tgt := 1140) hx hb dL_law_1132 (by decide) (fun h => absurd h (by decide)) (fun _ => ?_)
        refine lv_bipush (v := 110) hx hb dL_law_1135 (by decide) ?_
        refine lv_goto (tgt := 1142) hx hb dL_law_1137 (by decide) ?_
        refine bi_0 (x := (stL (fK (condL L g) 0 K) 110)) ((cif_f (Int32.not_lt.mpr hB))) ?_
        refine g_iast hC hG hS (V_c (i := 8) (by decide) (by decide) (by decide)) (a) rfl (by omega) (by decide) (P_c (by decide) (by decide) (by decide)) dL_law_1142 (fun H locs hG hS => ?_)
        refine o_aload hx hb dL_law_1143 hl rfl ?_
        refine o_iload hx hb dL_law_1145 hl rfl ?_
        refine o_iload hx hb dL_law_1147 hl rfl ?_
        refine lv_iconst (v := 2) hx hb dL_law_1149 (by decide) ?_
        refine lv_iadd hx hb dL_law_1150 ?_
        refine g_iast hC hG hS (V_c (i := 9) (by decide) (by decide) (by decide)) (a) rfl (by omega) (by decide) (P_c (by decide) (by decide) (by decide)) dL_law_1151 (fun H locs hG hS => ?_)
        exact kk0 _ _ _ hG hS (lo_none (i := 24) (lo_none (i := 25) hl))
      · skip
        refine lv_bipush (v := 101) hx hb dL_law_1125 (by decide) ?_
        refine lv_goto (tgt := 1142) hx hb dL_law_1127 (by decide) ?_
        refine bi_0 (x := (stL (fK (condL L g) 0 K) 110)) ((cif_t (Int32.not_le.mp hB))) ?_
        refine g_iast hC hG hS (V_c (i := 8) (by decide) (by decide) (by decide)) (a) rfl (by omega) (by decide) (P_c (by decide) (by decide) (by decide)) dL_law_1142 (fun H locs hG hS => ?_)
        refine o_aload hx hb dL_law_1143 hl rfl ?_
        refine o_iload hx hb dL_law_1145 hl rfl ?_
        refine o_iload hx hb dL_law_1147 hl rfl ?_
        refine lv_iconst (v := 2) hx hb dL_law_1149 (by decide) ?_
        refine lv_iadd hx hb dL_law_1150 ?_
        refine g_iast hC hG hS (V_c (i := 9) (by decide) (by decide) (by decide)) (a) rfl (by omega) (by decide) (P_c (by decide) (by decide) (by decide)) dL_law_1151 (fun H locs hG hS => ?_)
        exact kk0 _ _ _ hG hS (lo_none (i := 24) (lo_none (i := 25) hl))
    have loop2 : ∀ y, y ≤ K → ∀ ls : Array Slot, lo ls 29 (LW b ad K yv mo (nI nn) (some (.int (nI a))) none none none (some (.int 1)) (some (.int 1)) (some (.int bf)) (some (.int 0)) (some (.int (fK (condL L g) y (K - y)))) (some (.int (pm y))) none none) → W p l e room_1 s m args below meth c H locs cells slots Q (F0 m 994 ls []) := by
      intro y
      induction y with
      | zero =>
        intro _ ls hl
        refine o_iload hx hb dL_law_994 hl rfl ?_
        refine lv_if_lt (tgt := 1090) hx hb dL_law_996 (by decide) (fun _ => ?_) (fun h => absurd (by decide) h)
        exact tail2 ls (lo_none (i := 26) hl)
      | succ y ih =>
        intro hy ls hl
        have hl : lo ls 29 (LW b ad K yv mo (nI nn) (some (.int (nI a))) none none none (some (.int 1)) (some (.int 1)) (some (.int bf)) (some (.int 0)) (some (.int (fK (condL L g) (y + 1) (K - (y + 1))))) (some (.int (nI y))) none none) := hl
        refine o_iload hx hb dL_law_994 hl rfl ?_
        refine lv_if_lt (tgt := 1090) hx hb dL_law_996 (by decide) (fun h => absurd h (nI_pos (by omega))) (fun _ => ?_)
        obtain ⟨z, hz, ez⟩ := hkey y (by omega)
        have ek : (rowL L a g 5) 0 y 0 = nI z := by rw [rowL_c (by decide)]; exact ez
        have ez2 : ci (L 0 y 0) = z := by rw [ez]; exact nI_clamp (by omega)
        have tail3 : ∀ (v : Int32) (ls : Array Slot), v = fK (condL L g) y (K - y) → lo ls 29 (LW b ad K yv mo (nI nn) (some (.int (nI a))) none none none (some (.int 1)) (some (.int 1)) (some (.int bf)) (some (.int 0)) none (some (.int (nI y))) none none) → W p l e room_1 s m args below meth c H locs cells slots Q (F0 m 1082 ls [.int v]) := by
          intro v ls hv hl
          subst hv
          refine o_istore hx hb dL_law_1082 hl (by decide) rfl (fun ls hl => ?_)
          refine o_iinc (v := pm y) hx hb dL_law_1084 hl rfl (pm_step y) (by decide) rfl (fun ls hl => ?_)
          refine lv_goto (tgt := 994) hx hb dL_law_1087 (by decide) ?_
          exact ih (by omega) ls hl
        have tail4 : ∀ (ls : Array Slot), lo ls 29 (LW b ad K yv mo (nI nn) (some (.int (nI a))) none none none (some (.int 1)) (some (.int 1)) (some (.int bf)) (some (.int 0)) (some (.int (fK (condL L g) (y + 1) (K - (y + 1))))) (some (.int (nI y))) (some (.int (sumLk g 5))) none) → W p l e room_1 s m args below meth c H locs cells slots Q (F0 m 1033 ls []) := by
          intro ls hl
          refine lv_bipush (v := 100) hx hb dL_law_1033 (by decide) ?_
          refine o_aload hx hb dL_law_1035 hl rfl ?_
          refine o_iload hx hb dL_law_1037 hl rfl ?_
          refine g_aald hC hG 7 rfl rfl (V_o (i := 6) (by decide) (by decide) (by decide)) (a) rfl (by omega) (by decide) dL_law_1039 ?_
          refine o_aload hx hb dL_law_1040 hl rfl ?_
          refine o_iload hx hb dL_law_1042 hl rfl ?_
          refine g_iald hC hG (V_a (i := 0) (by decide) (by decide)) (y) rfl (by omega) (by omega) dL_law_1044 ?_
          refine bi_0 (x := nI z) ek.symm ?_
          refine g_iald hC hG (V_r (i := 6) (a := a) (by decide) (by decide) (by decide) (by omega)) (z) rfl (by omega) (by decide) dL_law_1045 ?_
          refine bi_0 (x := g z) (rowL_lt 5 hz).symm ?_
          refine lv_isub hx hb dL_law_1046 ?_
          refine o_aload hx hb dL_law_1047 hl rfl ?_
          refine o_iload hx hb dL_law_1049 hl rfl ?_
          refine g_iald hC hG (V_a (i := 1) (by decide) (by decide)) (y) rfl (by omega) (by omega) dL_law_1051 ?_
          refine lv_icmp_lt (tgt := 1080) hx hb dL_law_1052 (by decide) (fun h1 => ?_) (fun h1 => ?_)
          · skip
            refine o_iload hx hb dL_law_1080 hl rfl ?_
            exact tail3 _ _ ((fK_no (P := condL L g) (y := y) (m := K) (by omega) (fun hc => by rw [(show (rowL L a g 5) 1 y 0 = L 1 y 0 from by rw [rowL_c (by decide)])] at h1; have h9 := hc.1; rw [ez2] at h9; exact absurd h1 (Int32.not_lt.mpr h9))).symm) (lo_none (i := 25) (lo_none (i := 27) hl))
          · skip
            refine o_iload hx hb dL_law_1055 hl rfl ?_
            refine o_aload hx hb dL_law_1057 hl rfl ?_
            refine o_iload hx hb dL_law_1059 hl rfl ?_
            refine g_iald hC hG (V_a (i := 2) (by decide) (by decide)) (y) rfl (by omega) (by omega) dL_law_1061 ?_
            refine lv_icmp_lt (tgt := 1080) hx hb dL_law_1062 (by decide) (fun h2 => ?_) (fun h2 => ?_)
            · skip
              refine o_iload hx hb dL_law_1080 hl rfl ?_
              exact tail3 _ _ ((fK_no (P := condL L g) (y := y) (m := K) (by omega) (fun hc => by rw [(show (rowL L a g 5) 2 y 0 = L 2 y 0 from by rw [rowL_c (by decide)])] at h2; exact absurd h2 (Int32.not_lt.mpr hc.2.1))).symm) (lo_none (i := 25) (lo_none (i := 27) hl))
            · skip
              refine o_iload hx hb dL_law_1065 hl rfl ?_
              refine o_aload hx hb dL_law_1067 hl rfl ?_
              refine o_iload hx hb dL_law_1069 hl rfl ?_
              refine g_iald hC hG (V_a (i := 3) (by decide) (by decide)) (y) rfl (by omega) (by omega) dL_law_1071 ?_
              refine lv_icmp_gt (tgt := 1080) hx hb dL_law_1072 (by decide) (fun h3 => ?_) (fun h3 => ?_)
              · skip
                refine o_iload hx hb dL_law_1080 hl rfl ?_
                exact tail3 _ _ ((fK_no (P := condL L g) (y := y) (m := K) (by omega) (fun hc => by rw [(show (rowL L a g 5) 3 y 0 = L 3 y 0 from by rw [rowL_c (by decide)])] at h3; exact absurd h3 (Int32.not_lt.mpr hc.2.2))).symm) (lo_none (i := 25) (lo_none (i := 27) hl))
              · skip
                refine o_iload hx hb dL_law_1075 hl rfl ?_
                refine lv_goto (tgt := 1082) hx hb dL_law_1077 (by decide) ?_
                have hc : condL L g y := ⟨by rw [ez2]; rw [(show (rowL L a g 5) 1 y 0 = L 1 y 0 from by rw [rowL_c (by decide)])] at h1; exact Int32.not_lt.mp h1, by rw [(show (rowL L a g 5) 2 y 0 = L 2 y 0 from by rw [rowL_c (by decide)])] at h2; exact Int32.not_lt.mp h2, by rw [(show (rowL L a g 5) 3 y 0 = L 3 y 0 from by rw [rowL_c (by decide)])] at h3; exact Int32.not_lt.mp h3⟩
                exact tail3 _ _ ((fK_yes (P := condL L g) (y := y) (m := K) (by omega) hc).symm) (lo_none (i := 25) (lo_none (i := 27) hl))
        have loop3 : ∀ (q9 x : Nat), x + q9 = 5 → ∀ ls : Array Slot, lo ls 29 (LW b ad K yv mo (nI nn) (some (.int (nI a))) none none none (some (.int 1)) (some (.int 1)) (some (.int bf)) (some (.int 0)) (some (.int (fK (condL L g) (y + 1) (K - (y + 1))))) (some (.int (nI y))) (some (.int (sumLk g x))) (some (.int (nI x)))) → W p l e room_1 s m args below meth c H locs cells slots Q (F0 m 1005 ls []) := by
          intro q9
          induction q9 with
          | zero =>
            intro x hx5 ls hl
            obtain rfl : x = 5 := by omega
            refine o_iload hx hb dL_law_1005 hl rfl ?_
            refine lv_iconst (v := 5) hx hb dL_law_1007 (by decide) ?_
            refine n_icmp_ge (tgt := 1033) hx hb 5 5 rfl rfl (by omega) (by omega) dL_law_1008 (by decide) (fun _ => ?_) (fun h => absurd h (by omega))
            exact tail4 ls (lo_none (i := 28) hl)
          | succ q9 ih3 =>
            intro x hx5 ls hl
            refine o_iload hx hb dL_law_1005 hl rfl ?_
            refine lv_iconst (v := 5) hx hb dL_law_1007 (by decide) ?_
            refine n_icmp_ge (tgt := 1033) hx hb x 5 rfl rfl (by omega) (by omega) dL_law_1008 (by decide) (fun h => absurd h (by omega)) (fun _ => ?_)
            refine o_iload hx hb dL_law_1011 hl rfl ?_
            refine lv_bipush (v := 100) hx hb dL_law_1013 (by decide) ?_
            refine o_aload hx hb dL_law_1015 hl rfl ?_
            refine o_iload hx hb dL_law_1017 hl rfl ?_
            refine g_aald hC hG 7 rfl rfl (V_o (i := 6) (by decide) (by decide) (by decide)) (a) rfl (by omega) (by decide) dL_law_1019 ?_
            refine o_iload hx hb dL_law_1020 hl rfl ?_
            refine g_iald hC hG (V_r (i := 6) (a := a) (by decide) (by decide) (by decide) (by omega)) (x) rfl (by omega) (by decide) dL_law_1022 ?_
            refine bi_0 (x := g x) (rowL_lt 5 (by omega)).symm ?_
            refine lv_isub hx hb dL_law_1023 ?_
            refine lv_iadd hx hb dL_law_1024 ?_
            refine o_istore hx hb dL_law_1025 hl (by decide) rfl (fun ls hl => ?_)
            refine o_iinc1 hx hb dL_law_1027 hl rfl (by decide) rfl (fun ls hl => ?_)
            refine lv_goto (tgt := 1005) hx hb dL_law_1030 (by decide) ?_
            exact ih3 (x + 1) (by omega) ls hl
        refine lv_iconst (v := 0) hx hb dL_law_999 (by decide) ?_
        refine o_istore hx hb dL_law_1000 hl (by decide) rfl (fun ls hl => ?_)
        refine lv_iconst (v := 0) hx hb dL_law_1002 (by decide) ?_
        refine o_istore hx hb dL_law_1003 hl (by decide) rfl (fun ls hl => ?_)
        exact loop3 5 0 rfl ls hl
    refine lv_iconst (v := (-1)) hx hb dL_law_986 (by decide) ?_
    refine o_istore hx hb dL_law_987 hl (by decide) rfl (fun ls hl => ?_)
    refine o_iload_n hx hb dL_law_989 hl rfl ?_
    refine lv_iconst (v := 1) hx hb dL_law_990 (by decide) ?_
    refine lv_isub hx hb dL_law_991 ?_
    refine bi_0 (x := pm K) (pm_sub K).symm ?_
    refine o_istore hx hb dL_law_992 hl (by decide) rfl (fun ls hl => ?_)
    exact loop2 K (Nat.le_refl K) ls (by rw [Nat.sub_self]; exact hl)
  have loop1 : ∀ (q9 x : Nat), x + q9 = 5 → ∀ (H : Heap) (locs : List Loc) (ls : Array Slot), GW D B ad (WL cy de ad S n T k th K 10 (rowL L a g x)) H → va_S (AB B) s.heap H locs → lo ls 29 (LW b ad K yv mo (nI nn) (some (.int (nI a))) none none none (some (.int 1)) (some (.int 1)) (some (.int bf)) (some (.int 0)) (some (.int (nI x))) none none none) → W p l e room_1 s m args below meth c H locs cells slots Q (F0 m 896 ls []) := by
    intro q9
    induction q9 with
    | zero =>
      intro x hx5 H locs ls hG hS hl
      obtain rfl : x = 5 := by omega
      refine o_iload hx hb dL_law_896 hl rfl ?_
      refine lv_iconst (v := 5) hx hb dL_law_898 (by decide) ?_
      refine n_icmp_ge (tgt := 986) hx hb 5 5 rfl rfl (by omega) (by omega) dL_law_899 (by decide) (fun _ => ?_) (fun h => absurd h (by omega))
      exact tail _ _ ls hG hS (lo_none (i := 25) hl)
    | succ q9 ih =>
      intro x hx5 H locs ls hG hS hl
      refine o_iload hx hb dL_law_896 hl rfl ?_
      refine lv_iconst (v := 5) hx hb dL_law_898 (by decide) ?_
      refine n_icmp_ge (tgt := 986) hx hb x 5 rfl rfl (by omega) (by omega) dL_law_899 (by decide) (fun h => absurd h (by omega)) (fun _ => ?_)
      obtain ⟨g1, g2⟩ := hg x (by omega)
      have tl : ∀ ls : Array Slot, lo ls 29 (LW b ad K yv mo (nI nn) (some (.int (nI a))) none none none (some (.int 1)) (some (.int 1)) (some (.int bf)) (some (.int 0)) (some (.int (nI x))) none none none) → W p l e room_1 s m args below meth c H locs cells slots Q (F0 m 937 ls [.int (g x)]) := by
        intro ls hl
        refine o_istore hx hb dL_law_937 hl (by decide) rfl (fun ls hl => ?_)
        refine o_iload hx hb dL_law_939 hl rfl ?_
        refine o_iload hx hb dL_law_941 hl rfl ?_
        refine lv_if_ne (tgt := 966) hx hb dL_law_943 (by decide) (fun _ => ?_) (fun h => absurd h (by decide))
        refine lv_iconst (v := 0) hx hb dL_law_966 (by decide) ?_
        refine lv_ior hx hb dL_law_967 ?_
        refine bi_0 (x := 0) (by decide) ?_
        refine o_istore hx hb dL_law_968 hl (by decide) rfl (fun ls hl => ?_)
        refine o_aload hx hb dL_law_970 hl rfl ?_
        refine o_iload hx hb dL_law_972 hl rfl ?_
        refine g_aald hC hG 7 rfl rfl (V_o (i := 6) (by decide) (by decide) (by decide)) (a) rfl (by omega) (by decide) dL_law_974 ?_
        refine o_iload hx hb dL_law_975 hl rfl ?_
        refine o_iload hx hb dL_law_977 hl rfl ?_
        refine g_iast hC hG hS (V_r (i := 6) (a := a) (by decide) (by decide) (by decide) (by omega)) (x) rfl (by omega) (by decide) (P_r (by decide) (by decide) (by decide) (by omega)) dL_law_979 (fun H locs hG hS => ?_)
        refine o_iinc1 hx hb dL_law_980 hl rfl (by decide) rfl (fun ls hl => ?_)
        refine lv_goto (tgt := 896) hx hb dL_law_983 (by decide) ?_
        exact ih (x + 1) (by omega) _ _ _ hG hS (lo_none (i := 26) hl)
      refine o_iload hx hb dL_law_902 hl rfl ?_
      refine lv_if_eq (tgt := 929) hx hb dL_law_904 (by decide) (fun h => absurd h (by decide)) (fun _ => ?_)
      refine o_aload hx hb dL_law_907 hl rfl ?_
      refine o_iload hx hb dL_law_909 hl rfl ?_
      refine g_aald hC hG 7 rfl rfl (V_o (i := 5) (by decide) (by decide) (by decide)) (a) rfl (by omega) (by decide) dL_law_911 ?_
      refine o_iload hx hb dL_law_912 hl rfl ?_
      refine g_iald hC hG (V_r (i := 5) (a := a) (by decide) (by decide) (by decide) (by omega)) (x) rfl (by omega) (by decide) dL_law_914 ?_
      refine lv_if_lt (tgt := 929) hx hb dL_law_915 (by decide) (fun h => ?_) (fun h => ?_)
      · skip
        refine o_aload hx hb dL_law_929 hl rfl ?_
        refine o_iload hx hb dL_law_931 hl rfl ?_
        refine g_aald hC hG 7 rfl rfl (V_o (i := 4) (by decide) (by decide) (by decide)) (a) rfl (by omega) (by decide) dL_law_933 ?_
        refine o_iload hx hb dL_law_934 hl rfl ?_
        refine g_iald hC hG (V_r (i := 4) (a := a) (by decide) (by decide) (by decide) (by omega)) (x) rfl (by omega) (by decide) dL_law_936 ?_
        refine bi_0 (x := g x) (by rw [rowL_c (by decide)] at h ⊢; exact (g2 (Int32.not_le.mpr h)).symm) ?_
        exact tl ls hl
      · skip
        refine o_aload hx hb dL_law_918 hl rfl ?_
        refine o_iload hx hb dL_law_920 hl rfl ?_
        refine g_aald hC hG 7 rfl rfl (V_o (i := 5) (by decide) (by decide) (by decide)) (a) rfl (by omega) (by decide) dL_law_922 ?_
        refine o_iload hx hb dL_law_923 hl rfl ?_
        refine g_iald hC hG (V_r (i := 5) (a := a) (by decide) (by decide) (by decide) (by omega)) (x) rfl (by omega) (by decide) dL_law_925 ?_
        refine lv_goto (tgt := 937) hx hb dL_law_926 (by decide) ?_
        refine bi_0 (x := g x) (by rw [rowL_c (by decide)] at h ⊢; exact (g1 (Int32.not_lt.mp h)).symm) ?_
        exact tl ls hl
  refine lv_iconst (v := 0) hx hb dL_law_893 (by decide) ?_
  refine o_istore hx hb dL_law_894 hl (by decide) rfl (fun ls hl => ?_)
  exact loop1 5 0 rfl _ _ _ hG hS hl
set_option maxHeartbeats 4000000 in
set_option maxRecDepth 100000 in
theorem blk_prot {p : Program} {l : Launch} {e : Env} {s : State} {m : MethodId} {args : Array Value} {below : List Frame} {meth : Method} {c : Code} {H : Heap} {locs : List Loc} {cells slots : Nat} {Q : State → Prop} {ls : Array Slot} {D : va_G} {cy : Nat → ClassId} {sa : Nat → Nat} {de B : Nat} {ad : Ad} {S : St} {n : Nat → Nat} {T : St} {k : Nat → Nat} {th : Int32} {L : St} {b K yr nn : Nat} {a : Nat} {yv mo bf : Int32} (hC : Cx p m c cL_law 29 s args RL D cy sa de B) (hS : va_S (AB B) s.heap H locs) (hG : GW D B ad (WL cy de ad S n T k th K 10 L) H) (ha : a < 3) (hK : K ≤ 8) (hkey : ∀ q, q < K → ∃ z, z < 5 ∧ L 0 q 0 = nI z) (hl : lo ls 29 (LW b ad K yv mo (nI nn) (some (.int (nI a))) none none none (some (.int 0)) (some (.int 1)) (some (.int bf)) (some (.int 0)) none none none none)) (kk0 : ∀ (H1 : Heap) (locs1 : List Loc) (ls1 : Array Slot), GW D B ad (WL cy de ad S n T k th K 10 (setL (rowL L a (fun y => L 4 a y) 5) a (kkP L a K) (stP' L a K) (yv + 2))) H1 → va_S (AB B) s.heap H1 locs1 → lo ls1 29 (LW b ad K yv mo (nI nn) (some (.int (nI a))) none none none (some (.int 0)) (some (.int 1)) (some (.int bf)) none none none none none) → W p l e room_1 s m args below meth c H1 locs1 cells slots Q (F0 m 1152 ls1 [])) : W p l e room_1 s m args below meth c H locs cells slots Q (F0 m 893 ls []) := by
  have hx := hC.x
  have hb := hC.b
  have tail : ∀ (H : Heap) (locs : List Loc) (ls : Array Slot), GW D B ad (WL cy de ad S n T k th K 10 (rowL L a (fun y => L 4 a y) 5)) H → va_S (AB B) s.heap H locs → lo ls 29 (LW b ad K yv mo (nI nn) (some (.int (nI a))) none none none (some (.int 0)) (some (.int 1)) (some (.int bf)) (some (.int (cif (hidB L a 5) 1 0))) none none none none) → W p l e room_1 s m args below meth c H locs cells slots Q (F0 m 986 ls []) := by
    intro H locs ls hG hS hl
    have tail2 : ∀ (ls : Array Slot), lo ls 29 (LW b ad K yv mo (nI nn) (some (.int (nI a))) none none none (some (.int 0)) (some (.int 1)) (some (.int bf)) (some (.int (cif (hidB L a 5) 1 0))) (some (.int (fK (condL L (fun y => L 4 a y)) 0 K))) none none none) → W p l e room_1 s m args below meth c H locs cells slots Q (F0 m 1090 ls []) := by
      intro ls hl
      by_cases hh : hidB L a 5
      · rw [cif_t hh] at hl
        have ek : kkP L a K = -1 := cif_t hh
        refine o_aload hx hb dL_law_1090 hl rfl ?_
        refine o_iload hx hb dL_law_1092 hl rfl ?_
        refine o_iload hx hb dL_law_1094 hl rfl ?_
        refine lv_if_eq (tgt := 1103) hx hb dL_law_1096 (by decide) (fun h => absurd h (by decide)) (fun _ => ?_)
        refine lv_iconst (v := (-1)) hx hb dL_law_1099 (by decide) ?_
        refine lv_goto (tgt := 1105) hx hb dL_law_1100 (by decide) ?_
        refine bi_0 (x := kkP L a K) ek ?_
        refine g_iast hC hG hS (V_c (i := 7) (by decide) (by decide) (by decide)) (a) rfl (by omega) (by decide) (P_c (by decide) (by decide) (by decide)) dL_law_1105 (fun H locs hG hS => ?_)
        refine o_aload hx hb dL_law_1106 hl rfl ?_
        refine o_iload hx hb dL_law_1108 hl rfl ?_
        refine o_iload hx hb dL_law_1110 hl rfl ?_
        refine lv_if_eq (tgt := 1120) hx hb dL_law_1112 (by decide) (fun h => absurd h (by decide)) (fun _ => ?_)
        refine lv_bipush (v := 120) hx hb dL_law_1115 (by decide) ?_
        refine lv_goto (tgt := 1142) hx hb dL_law_1117 (by decide) ?_
        refine bi_0 (x := stP' L a K) (cif_t hh) ?_
        refine g_iast hC hG hS (V_c (i := 8) (by decide) (by decide) (by decide)) (a) rfl (by omega) (by decide) (P_c (by decide) (by decide) (by decide)) dL_law_1142 (fun H locs hG hS => ?_)
        refine o_aload hx hb dL_law_1143 hl rfl ?_
        refine o_iload hx hb dL_law_1145 hl rfl ?_
        refine o_iload hx hb dL_law_1147 hl rfl ?_
        refine lv_iconst (v := 2) hx hb dL_law_1149 (by decide) ?_
        refine lv_iadd hx hb dL_law_1150 ?_
        refine g_iast hC hG hS (V_c (i := 9) (by decide) (by decide) (by decide)) (a) rfl (by omega) (by decide) (P_c (by decide) (by decide) (by decide)) dL_law_1151 (fun H locs hG hS => ?_)
        exact kk0 _ _ _ hG hS (lo_none (i := 24) (lo_none (i := 25) hl))
      · rw [cif_f hh] at hl
        have ek : kkP L a K = fK (condL L (fun y => L 4 a y)) 0 K := cif_f hh
        refine o_aload hx hb dL_law_1090 hl rfl ?_
        refine o_iload hx hb dL_law_1092 hl rfl ?_
        refine o_iload hx hb dL_law_1094 hl rfl ?_
        refine lv_if_eq (tgt := 1103) hx hb dL_law_1096 (by decide) (fun _ => ?_) (fun h => absurd rfl h)
        refine o_iload hx hb dL_law_1103 hl rfl ?_
        refine bi_0 (x := kkP L a K) ek ?_
        refine g_iast hC hG hS (V_c (i := 7) (by decide) (by decide) (by decide)) (a) rfl (by omega) (by decide) (P_c (by decide) (by decide) (by decide)) dL_law_1105 (fun H locs hG hS => ?_)
        refine o_aload hx hb dL_law_1106 hl rfl ?_
        refine o_iload hx hb dL_law_1108 hl rfl ?_
        refine o_iload hx hb dL_law_1110 hl rfl ?_
        refine lv_if_eq (tgt := 1120) hx hb dL_law_1112 (by decide) (fun _ => ?_) (fun h => absurd rfl h)
        refine o_iload hx hb dL_law_1120 hl rfl ?_
        refine lv_if_ge (tgt := 1130) hx hb dL_law_1122 (by decide) (fun hB => ?_) (fun hB => ?_)
        · skip
          refine o_iload hx hb dL_law_1130 hl rfl ?_
          refine lv_if_eq (tgt := 1140) hx hb dL_law_1132 (by decide) (fun _ => ?_) (fun h => absurd rfl h)
          refine lv_bipush (v := 99) hx hb dL_law_1140 (by decide) ?_
          refine bi_0 (x := stP' L a K) ((cif_f hh).trans (cif_f (Int32.not_lt.mpr hB))) ?_
          refine g_iast hC hG hS (V_c (i := 8) (by decide) (by decide) (by decide)) (a) rfl (by omega) (by decide) (P_c (by decide) (by decide) (by decide)) dL_law_1142 (fun H locs hG hS => ?_)
          refine o_aload hx hb dL_law_1143 hl rfl ?_
          refine o_iload hx hb dL_law_1145 hl rfl ?_
          refine o_iload hx hb dL_law_1147 hl rfl ?_
          refine lv_iconst (v := 2) hx hb dL_law_1149 (by decide) ?_
          refine lv_iadd hx hb dL_law_1150 ?_
          refine g_iast hC hG hS (V_c (i := 9) (by decide) (by decide) (by decide)) (a) rfl (by omega) (by decide) (P_c (by decide) (by decide) (by decide)) dL_law_1151 (fun H locs hG hS => ?_)
          exact kk0 _ _ _ hG hS (lo_none (i := 24) (lo_none (i := 25) hl))
        · skip
          refine lv_bipush (v := 101) hx hb dL_law_1125 (by decide) ?_
          refine lv_goto (tgt := 1142) hx hb dL_law_1127 (by decide) ?_
          refine bi_0 (x := stP' L a K) ((cif_f hh).trans (cif_t (Int32.not_le.mp hB))) ?_
          refine g_iast hC hG hS (V_c (i := 8) (by decide) (by decide) (by decide)) (a) rfl (by omega) (by decide) (P_c (by decide) (by decide) (by decide)) dL_law_1142 (fun H locs hG hS => ?_)
          refine o_aload hx hb dL_law_1143 hl rfl ?_
          refine o_iload hx hb dL_law_1145 hl rfl ?_
          refine o_iload hx hb dL_law_1147 hl rfl ?_
          refine lv_iconst (v := 2) hx hb dL_law_1149 (by decide) ?_
          refine lv_iadd hx hb dL_law_1150 ?_
          refine g_iast hC hG hS (V_c (i := 9) (by decide) (by decide) (by decide)) (a) rfl (by omega) (by decide) (P_c (by decide) (by decide) (by decide)) dL_law_1151 (fun H locs hG hS => ?_)
          exact kk0 _ _ _ hG hS (lo_none (i := 24) (lo_none (i := 25) hl))
    have loop2 : ∀ y, y ≤ K → ∀ ls : Array Slot, lo ls 29 (LW b ad K yv mo (nI nn) (some (.int (nI a))) none none none (some (.int 0)) (some (.int 1)) (some (.int bf)) (some (.int (cif (hidB L a 5) 1 0))) (some (.int (fK (condL L (fun y => L 4 a y)) y (K - y)))) (some (.int (pm y))) none none) → W p l e room_1 s m args below meth c H locs cells slots Q (F0 m 994 ls []) := by
      intro y
      induction y with
      | zero =>
        intro _ ls hl
        refine o_iload hx hb dL_law_994 hl rfl ?_
        refine lv_if_lt (tgt := 1090) hx hb dL_law_996 (by decide) (fun _ => ?_) (fun h => absurd (by decide) h)
        exact tail2 ls (lo_none (i := 26) hl)
      | succ y ih =>
        intro hy ls hl
        have hl : lo ls 29 (LW b ad K yv mo (nI nn) (some (.int (nI a))) none none none (some (.int 0)) (some (.int 1)) (some (.int bf)) (some (.int (cif (hidB L a 5) 1 0))) (some (.int (fK (condL L (fun y => L 4 a y)) (y + 1) (K - (y + 1))))) (some (.int (nI y))) none none) := hl
        refine o_iload hx hb dL_law_994 hl rfl ?_
        refine lv_if_lt (tgt := 1090) hx hb dL_law_996 (by decide) (fun h => absurd h (nI_pos (by omega))) (fun _ => ?_)
        obtain ⟨z, hz, ez⟩ := hkey y (by omega)
        have ek : (rowL L a (fun y => L 4 a y) 5) 0 y 0 = nI z := by rw [rowL_c (by decide)]; exact ez
        have ez2 : ci (L 0 y 0) = z := by rw [ez]; exact nI_clamp (by omega)
        have tail3 : ∀ (v : Int32) (ls : Array Slot), v = fK (condL L (fun y => L 4 a y)) y (K - y) → lo ls 29 (LW b ad K yv mo (nI nn) (some (.int (nI a))) none none none (some (.int 0)) (some (.int 1)) (some (.int bf)) (some (.int (cif (hidB L a 5) 1 0))) none (some (.int (nI y))) none none) → W p l e room_1 s m args below meth c H locs cells slots Q (F0 m 1082 ls [.int v]) := by
          intro v ls hv hl
          subst hv
          refine o_istore hx hb dL_law_1082 hl (by decide) rfl (fun ls hl => ?_)
          refine o_iinc (v := pm y) hx hb dL_law_1084 hl rfl (pm_step y) (by decide) rfl (fun ls hl => ?_)
          refine lv_goto (tgt := 994) hx hb dL_law_1087 (by decide) ?_
          exact ih (by omega) ls hl
        have tail4 : ∀ (ls : Array Slot), lo ls 29 (LW b ad K yv mo (nI nn) (some (.int (nI a))) none none none (some (.int 0)) (some (.int 1)) (some (.int bf)) (some (.int (cif (hidB L a 5) 1 0))) (some (.int (fK (condL L (fun y => L 4 a y)) (y + 1) (K - (y + 1))))) (some (.int (nI y))) (some (.int (sumLk (fun y => L 4 a y) 5))) none) → W p l e room_1 s m args below meth c H locs cells slots Q (F0 m 1033 ls []) := by
          intro ls hl
          refine lv_bipush (v := 100) hx hb dL_law_1033 (by decide) ?_
          refine o_aload hx hb dL_law_1035 hl rfl ?_
          refine o_iload hx hb dL_law_1037 hl rfl ?_
          refine g_aald hC hG 7 rfl rfl (V_o (i := 6) (by decide) (by decide) (by decide)) (a) rfl (by omega) (by decide) dL_law_1039 ?_
          refine o_aload hx hb dL_law_1040 hl rfl ?_
          refine o_iload hx hb dL_law_1042 hl rfl ?_
          refine g_iald hC hG (V_a (i := 0) (by decide) (by decide)) (y) rfl (by omega) (by omega) dL_law_1044 ?_
          refine bi_0 (x := nI z) ek.symm ?_
          refine g_iald hC hG (V_r (i := 6) (a := a) (by decide) (by decide) (by decide) (by omega)) (z) rfl (by omega) (by decide) dL_law_1045 ?_
          refine bi_0 (x := (fun y => L 4 a y) z) (rowL_lt 5 hz).symm ?_
          refine lv_isub hx hb dL_law_1046 ?_
          refine o_aload hx hb dL_law_1047 hl rfl ?_
          refine o_iload hx hb dL_law_1049 hl rfl ?_
          refine g_iald hC hG (V_a (i := 1) (by decide) (by decide)) (y) rfl (by omega) (by omega) dL_law_1051 ?_
          refine lv_icmp_lt (tgt := 1080) hx hb dL_law_1052 (by decide) (fun h1 => ?_) (fun h1 => ?_)
          · skip
            refine o_iload hx hb dL_law_1080 hl rfl ?_
            exact tail3 _ _ ((fK_no (P := condL L (fun y => L 4 a y)) (y := y) (m := K) (by omega) (fun hc => by rw [(show (rowL L a (fun y => L 4 a y) 5) 1 y 0 = L 1 y 0 from by rw [rowL_c (by decide)])] at h1; have h9 := hc.1; rw [ez2] at h9; exact absurd h1 (Int32.not_lt.mpr h9))).symm) (lo_none (i := 25) (lo_none (i := 27) hl))
          · skip
            refine o_iload hx hb dL_law_1055 hl rfl ?_
            refine o_aload hx hb dL_law_1057 hl rfl ?_
            refine o_iload hx hb dL_law_1059 hl rfl ?_
            refine g_iald hC hG (V_a (i := 2) (by decide) (by decide)) (y) rfl (by omega) (by omega) dL_law_1061 ?_
            refine lv_icmp_lt (tgt := 1080) hx hb dL_law_1062 (by decide) (fun h2 => ?_) (fun h2 => ?_)
            · skip
              refine o_iload hx hb dL_law_1080 hl rfl ?_
              exact tail3 _ _ ((fK_no (P := condL L (fun y => L 4 a y)) (y := y) (m := K) (by omega) (fun hc => by rw [(show (rowL L a (fun y => L 4 a y) 5) 2 y 0 = L 2 y 0 from by rw [rowL_c (by decide)])] at h2; exact absurd h2 (Int32.not_lt.mpr hc.2.1))).symm) (lo_none (i := 25) (lo_none (i := 27) hl))
            · skip
              refine o_iload hx hb dL_law_1065 hl rfl ?_
              refine o_aload hx hb dL_law_1067 hl rfl ?_
              refine o_iload hx hb dL_law_1069 hl rfl ?_
              refine g_iald hC hG (V_a (i := 3) (by decide) (by decide)) (y) rfl (by omega) (by omega) dL_law_1071 ?_
              refine lv_icmp_gt (tgt := 1080) hx hb dL_law_1072 (by decide) (fun h3 => ?_) (fun h3 => ?_)
              · skip
                refine o_iload hx hb dL_law_1080 hl rfl ?_
                exact tail3 _ _ ((fK_no (P := condL L (fun y => L 4 a y)) (y := y) (m := K) (by omega) (fun hc => by rw [(show (rowL L a (fun y => L 4 a y) 5) 3 y 0 = L 3 y 0 from by rw [rowL_c (by decide)])] at h3; exact absurd h3 (Int32.not_lt.mpr hc.2.2))).symm) (lo_none (i := 25) (lo_none (i := 27) hl))
              · skip
                refine o_iload hx hb dL_law_1075 hl rfl ?_
                refine lv_goto (tgt := 1082) hx hb dL_law_1077 (by decide) ?_
                have hc : condL L (fun y => L 4 a y) y := ⟨by rw [ez2]; rw [(show (rowL L a (fun y => L 4 a y) 5) 1 y 0 = L 1 y 0 from by rw [rowL_c (by decide)])] at h1; exact Int32.not_lt.mp h1, by rw [(show (rowL L a (fun y => L 4 a y) 5) 2 y 0 = L 2 y 0 from by rw [rowL_c (by decide)])] at h2; exact Int32.not_lt.mp h2, by rw [(show (rowL L a (fun y => L 4 a y) 5) 3 y 0 = L 3 y 0 from by rw [rowL_c (by decide)])] at h3; exact Int32.not_lt.mp h3⟩
                exact tail3 _ _ ((fK_yes (P := condL L (fun y => L 4 a y)) (y := y) (m := K) (by omega) hc).symm) (lo_none (i := 25) (lo_none (i := 27) hl))
        have loop3 : ∀ (q9 x : Nat), x + q9 = 5 → ∀ ls : Array Slot, lo ls 29 (LW b ad K yv mo (nI nn) (some (.int (nI a))) none none none (some (.int 0)) (some (.int 1)) (some (.int bf)) (some (.int (cif (hidB L a 5) 1 0))) (some (.int (fK (condL L (fun y => L 4 a y)) (y + 1) (K - (y + 1))))) (some (.int (nI y))) (some (.int (sumLk (fun y => L 4 a y) x))) (some (.int (nI x)))) → W p l e room_1 s m args below meth c H locs cells slots Q (F0 m 1005 ls []) := by
          intro q9
          induction q9 with
          | zero =>
            intro x hx5 ls hl
            obtain rfl : x = 5 := by omega
            refine o_iload hx hb dL_law_1005 hl rfl ?_
            refine lv_iconst (v := 5) hx hb dL_law_1007 (by decide) ?_
            refine n_icmp_ge (tgt := 1033) hx hb 5 5 rfl rfl (by omega) (by omega) dL_law_1008 (by decide) (fun _ => ?_) (fun h => absurd h (by omega))
            exact tail4 ls (lo_none (i := 28) hl)
          | succ q9 ih3 =>
            intro x hx5 ls hl
            refine o_iload hx hb dL_law_1005 hl rfl ?_
            refine lv_iconst (v := 5) hx hb dL_law_1007 (by decide) ?_
            refine n_icmp_ge (tgt := 1033) hx hb x 5 rfl rfl (by omega) (by omega) dL_law_1008 (by decide) (fun h => absurd h (by omega)) (fun _ => ?_)
            refine o_iload hx hb dL_law_1011 hl rfl ?_
            refine lv_bipush (v := 100) hx hb dL_law_1013 (by decide) ?_
            refine o_aload hx hb dL_law_1015 hl rfl ?_
            refine o_iload hx hb dL_law_1017 hl rfl ?_
            refine g_aald hC hG 7 rfl rfl (V_o (i := 6) (by decide) (by decide) (by decide)) (a) rfl (by omega) (by decide) dL_law_1019 ?_
            refine o_iload hx hb dL_law_1020 hl rfl ?_
            refine g_iald hC hG (V_r (i := 6) (a := a) (by decide) (by decide) (by decide) (by omega)) (x) rfl (by omega) (by decide) dL_law_1022 ?_
            refine bi_0 (x := (fun y => L 4 a y) x) (rowL_lt 5 (by omega)).symm ?_
            refine lv_isub hx hb dL_law_1023 ?_
            refine lv_iadd hx hb dL_law_1024 ?_
            refine o_istore hx hb dL_law_1025 hl (by decide) rfl (fun ls hl => ?_)
            refine o_iinc1 hx hb dL_law_1027 hl rfl (by decide) rfl (fun ls hl => ?_)
            refine lv_goto (tgt := 1005) hx hb dL_law_1030 (by decide) ?_
            exact ih3 (x + 1) (by omega) ls hl
        refine lv_iconst (v := 0) hx hb dL_law_999 (by decide) ?_
        refine o_istore hx hb dL_law_1000 hl (by decide) rfl (fun ls hl => ?_)
        refine lv_iconst (v := 0) hx hb dL_law_1002 (by decide) ?_
        refine o_istore hx hb dL_law_1003 hl (by decide) rfl (fun ls hl => ?_)
        exact loop3 5 0 rfl ls hl
    refine lv_iconst (v := (-1)) hx hb dL_law_986 (by decide) ?_
    refine o_istore hx hb dL_law_987 hl (by decide) rfl (fun ls hl => ?_)
    refine o_iload_n hx hb dL_law_989 hl rfl ?_
    refine lv_iconst (v := 1) hx hb dL_law_990 (by decide) ?_
    refine lv_isub hx hb dL_law_991 ?_
    refine bi_0 (x := pm K) (pm_sub K).symm ?_
    refine o_istore hx hb dL_law_992 hl (by decide) rfl (fun ls hl => ?_)
    exact loop2 K (Nat.le_refl K) ls (by rw [Nat.sub_self]; exact hl)
  have loop1 : ∀ (q9 x : Nat), x + q9 = 5 → ∀ (H : Heap) (locs : List Loc) (ls : Array Slot), GW D B ad (WL cy de ad S n T k th K 10 (rowL L a (fun y => L 4 a y) x)) H → va_S (AB B) s.heap H locs → lo ls 29 (LW b ad K yv mo (nI nn) (some (.int (nI a))) none none none (some (.int 0)) (some (.int 1)) (some (.int bf)) (some (.int (cif (hidB L a x) 1 0))) (some (.int (nI x))) none none none) → W p l e room_1 s m args below meth c H locs cells slots Q (F0 m 896 ls []) := by
    intro q9
    induction q9 with
    | zero =>
      intro x hx5 H locs ls hG hS hl
      obtain rfl : x = 5 := by omega
      refine o_iload hx hb dL_law_896 hl rfl ?_
      refine lv_iconst (v := 5) hx hb dL_law_898 (by decide) ?_
      refine n_icmp_ge (tgt := 986) hx hb 5 5 rfl rfl (by omega) (by omega) dL_law_899 (by decide) (fun _ => ?_) (fun h => absurd h (by omega))
      exact tail _ _ ls hG hS (lo_none (i := 25) hl)
    | succ q9 ih =>
      intro x hx5 H locs ls hG hS hl
      refine o_iload hx hb dL_law_896 hl rfl ?_
      refine lv_iconst (v := 5) hx hb dL_law_898 (by decide) ?_
      refine n_icmp_ge (tgt := 986) hx hb x 5 rfl rfl (by omega) (by omega) dL_law_899 (by decide) (fun h => absurd h (by omega)) (fun _ => ?_)
      refine o_iload hx hb dL_law_902 hl rfl ?_
      refine lv_if_eq (tgt := 929) hx hb dL_law_904 (by decide) (fun _ => ?_) (fun h => absurd rfl h)
      refine o_aload hx hb dL_law_929 hl rfl ?_
      refine o_iload hx hb dL_law_931 hl rfl ?_
      refine g_aald hC hG 7 rfl rfl (V_o (i := 4) (by decide) (by decide) (by decide)) (a) rfl (by omega) (by decide) dL_law_933 ?_
      refine o_iload hx hb dL_law_934 hl rfl ?_
      refine g_iald hC hG (V_r (i := 4) (a := a) (by decide) (by decide) (by decide) (by omega)) (x) rfl (by omega) (by decide) dL_law_936 ?_
      refine bi_0 (x := L 4 a x) (by rw [rowL_c (by decide)]) ?_
      refine o_istore hx hb dL_law_937 hl (by decide) rfl (fun ls hl => ?_)
      refine o_iload hx hb dL_law_939 hl rfl ?_
      refine o_iload hx hb dL_law_941 hl rfl ?_
      refine lv_if_ne (tgt := 966) hx hb dL_law_943 (by decide) (fun h => absurd rfl h) (fun _ => ?_)
      refine o_iload hx hb dL_law_946 hl rfl ?_
      refine o_aload hx hb dL_law_948 hl rfl ?_
      refine o_iload hx hb dL_law_950 hl rfl ?_
      refine g_aald hC hG 7 rfl rfl (V_o (i := 6) (by decide) (by decide) (by decide)) (a) rfl (by omega) (by decide) dL_law_952 ?_
      refine o_iload hx hb dL_law_953 hl rfl ?_
      refine g_iald hC hG (V_r (i := 6) (a := a) (by decide) (by decide) (by decide) (by omega)) (x) rfl (by omega) (by decide) dL_law_955 ?_
      refine bi_0 (x := L 6 a x) (rowL_ge x (Nat.le_refl x)).symm ?_
      refine lv_bipush (v := 20) hx hb dL_law_956 (by decide) ?_
      refine lv_iadd hx hb dL_law_958 ?_
      refine lv_icmp_le (tgt := 966) hx hb dL_law_959 (by decide) (fun h => ?_) (fun h => ?_)
      · skip
        refine lv_iconst (v := 0) hx hb dL_law_966 (by decide) ?_
        refine lv_ior hx hb dL_law_967 ?_
        refine bi_0 (x := cif (hidB L a (x + 1)) 1 0) (hid_s0 (Int32.not_lt.mpr h)) ?_
        refine o_istore hx hb dL_law_968 hl (by decide) rfl (fun ls hl => ?_)
        refine o_aload hx hb dL_law_970 hl rfl ?_
        refine o_iload hx hb dL_law_972 hl rfl ?_
        refine g_aald hC hG 7 rfl rfl (V_o (i := 6) (by decide) (by decide) (by decide)) (a) rfl (by omega) (by decide) dL_law_974 ?_
        refine o_iload hx hb dL_law_975 hl rfl ?_
        refine o_iload hx hb dL_law_977 hl rfl ?_
        refine g_iast hC hG hS (V_r (i := 6) (a := a) (by decide) (by decide) (by decide) (by omega)) (x) rfl (by omega) (by decide) (P_r (by decide) (by decide) (by decide) (by omega)) dL_law_979 (fun H locs hG hS => ?_)
        refine o_iinc1 hx hb dL_law_980 hl rfl (by decide) rfl (fun ls hl => ?_)
        refine lv_goto (tgt := 896) hx hb dL_law_983 (by decide) ?_
        exact ih (x + 1) (by omega) _ _ _ hG hS (lo_none (i := 26) hl)
      · skip
        refine lv_iconst (v := 1) hx hb dL_law_962 (by decide) ?_
        refine lv_goto (tgt := 967) hx hb dL_law_963 (by decide) ?_
        refine lv_ior hx hb dL_law_967 ?_
        refine bi_0 (x := cif (hidB L a (x + 1)) 1 0) (hid_s1 (Int32.not_le.mp h)) ?_
        refine o_istore hx hb dL_law_968 hl (by decide) rfl (fun ls hl => ?_)
        refine o_aload hx hb dL_law_970 hl rfl ?_
        refine o_iload hx hb dL_law_972 hl rfl ?_
        refine g_aald hC hG 7 rfl rfl (V_o (i := 6) (by decide) (by decide) (by decide)) (a) rfl (by omega) (by decide) dL_law_974 ?_
        refine o_iload hx hb dL_law_975 hl rfl ?_
        refine o_iload hx hb dL_law_977 hl rfl ?_
        refine g_iast hC hG hS (V_r (i := 6) (a := a) (by decide) (by decide) (by decide) (by omega)) (x) rfl (by omega) (by decide) (P_r (by decide) (by decide) (by decide) (by omega)) dL_law_979 (fun H locs hG hS => ?_)
        refine o_iinc1 hx hb dL_law_980 hl rfl (by decide) rfl (fun ls hl => ?_)
        refine lv_goto (tgt := 896) hx hb dL_law_983 (by decide) ?_
        exact ih (x + 1) (by omega) _ _ _ hG hS (lo_none (i := 26) hl)
  refine lv_iconst (v := 0) hx hb dL_law_893 (by decide) ?_
  refine o_istore hx hb dL_law_894 hl (by decide) rfl (fun ls hl => ?_)
  exact loop1 5 0 rfl _ _ _ hG hS (by rw [show cif (hidB L a 0) (1 : Int32) 0 = 0 from cif_f (fun ⟨y, hy, _⟩ => absurd hy (Nat.not_lt_zero y))]; exact hl)
