/-! A PANEL TESTS, A PROTEST IS HEARD: pc 808 to 1286. -/
set_option maxHeartbeats 4000000 in
set_option maxRecDepth 100000 in
theorem act_test {p : Program} {l : Launch} {e : Env} {s : State} {m : MethodId} {args : Array Value} {below : List Frame} {meth : Method} {c : Code} {H : Heap} {locs : List Loc} {cells slots : Nat} {Q : State → Prop} {ls : Array Slot} {D : va_G} {cy : Nat → ClassId} {sa : Nat → Nat} {de B : Nat} {ad : Ad} {S : St} {n : Nat → Nat} {T : St} {k : Nat → Nat} {th : Int32} {L : St} {b K yr nn : Nat} {a ac : Nat} (hfl : l.stackTraces = false) (hC : Cx p m c cL_law 29 s args RL D cy sa de B) (hS : va_S (AB B) s.heap H locs) (hG : GW D B ad (WL cy de ad S n T k th K 10 L) H) (hI : Inv S n) (hR : RR S n L K yr) (ha : a < 3) (hac : 3 ≤ ac) (hac5 : ac < 5) (hl : lo ls 29 (LW b ad K (S 23 0 0) (S 15 5 0) (nI nn) (some (.int (nI a))) (some (.int (nI ac))) none none none none none none none none none none)) (hroom : cells + 20 ≤ 847444 ∧ slots + 160 ≤ 6559293) (k0 : ∀ (S2 L2 : St) (yr2 : Nat) (H1 : Heap) (locs1 : List Loc) (ls1 : Array Slot), Inv S2 n → RR S2 n L2 K yr2 → yr2 ≤ yr + 1 → GW D B ad (WL cy de ad S2 n T k th K 10 L2) H1 → va_S (AB B) s.heap H1 locs1 → lo ls1 29 (LW b ad K (S2 23 0 0) (S2 15 5 0) (nI nn) (some (.int (nI a))) none none none none none none none none none none none) → W p l e room_1 s m args below meth c H1 locs1 (cells + 20) (slots + 160) Q (F0 m 1286 ls1 [])) : W p l e room_1 s m args below meth c H locs cells slots Q (F0 m 808 ls []) := by
  have hx := hC.x
  have hb := hC.b
  have e0 : n 0 = 3 := hR.1.1
  have e1 : n 1 = 4 := hR.1.2.1
  have e2 : n 2 = K := hR.1.2.2.1
  have hK8 : n 2 ≤ 8 := hI.1.1.2.2.1
  have za : ci (nI a) = a := nI_clamp (by omega)
  have hK : K ≤ 8 := by omega
  have hkey : ∀ q, q < K → ∃ z, z < 5 ∧ L 0 q 0 = nI z := fun q hq => by
    rw [(hR.2.2.2.1 q hq).1]; exact KY_of hI.1.1 q (by omega)
  obtain ⟨r7, r8, r9, r10⟩ := hR.2.2.1 a ha
  refine o_iload hx hb dL_law_808 hl rfl ?_
  refine lv_iconst (v := 5) hx hb dL_law_810 (by decide) ?_
  refine n_icmp_ge (tgt := 818) hx hb ac 5 rfl rfl (by omega) (by omega) dL_law_811 (by decide) (fun h => absurd h (by omega)) (fun _ => ?_)
  refine lv_iconst (v := 1) hx hb dL_law_814 (by decide) ?_
  refine lv_goto (tgt := 819) hx hb dL_law_815 (by decide) ?_
  refine o_istore hx hb dL_law_819 hl (by decide) rfl (fun ls hl => ?_)
  refine o_iload hx hb dL_law_821 hl rfl ?_
  refine lv_if_eq (tgt := 844) hx hb dL_law_823 (by decide) (fun h => absurd h (by decide)) (fun _ => ?_)
  refine o_aload hx hb dL_law_826 hl rfl ?_
  refine o_iload hx hb dL_law_828 hl rfl ?_
  refine g_iald hC hG (V_c (i := 8) (by decide) (by decide) (by decide)) (a) rfl (by omega) (by decide) dL_law_830 ?_
  refine lv_bipush (v := 120) hx hb dL_law_831 (by decide) ?_
  refine lv_icmp_eq (tgt := 840) hx hb dL_law_833 (by decide) (fun h => ?_) (fun h => ?_)
  · have hb9 : S 9 a 0 = 120 := r8.symm.trans h
    refine lv_iconst (v := 0) hx hb dL_law_840 (by decide) ?_
    refine lv_goto (tgt := 876) hx hb dL_law_841 (by decide) ?_
    refine o_istore hx hb dL_law_876 hl (by decide) rfl (fun ls hl => ?_)
    refine o_aload hx hb dL_law_878 hl rfl ?_
    refine o_iload hx hb dL_law_880 hl rfl ?_
    refine g_iald hC hG (V_c (i := 7) (by decide) (by decide) (by decide)) (a) rfl (by omega) (by decide) dL_law_882 ?_
    refine o_istore hx hb dL_law_883 hl (by decide) rfl (fun ls hl => ?_)
    refine lv_iconst (v := 0) hx hb dL_law_885 (by decide) ?_
    refine o_istore hx hb dL_law_886 hl (by decide) rfl (fun ls hl => ?_)
    refine o_iload hx hb dL_law_888 hl rfl ?_
    refine lv_if_eq (tgt := 1152) hx hb dL_law_890 (by decide) (fun _ => ?_) (fun h => absurd rfl h)
    refine o_iload hx hb dL_law_1152 hl rfl ?_
    refine lv_if_eq (tgt := 1168) hx hb dL_law_1154 (by decide) (fun h => absurd h (by decide)) (fun _ => ?_)
    refine o_aload_n hx hb dL_law_1157 hl rfl ?_
    refine o_iload hx hb dL_law_1158 hl rfl ?_
    refine lv_iconst (v := 0) hx hb dL_law_1160 (by decide) ?_
    refine lv_iconst (v := 1) hx hb dL_law_1161 (by decide) ?_
    refine kx_L_test (t0 := 3) hfl hC hS hG ⟨hI, XL_19⟩ ml_L_110 ⟨(Nat.le_of_ble_eq_true rfl), (Nat.le_of_ble_eq_true rfl)⟩ hl.1 (Nat.le_of_ble_eq_true rfl) dL_law_1162 ⟨show cells + 4 ≤ 847444 by omega, show slots + 24 ≤ 6559293 by omega⟩ (by decide) (cd_test3 hR ha hb9) (fun H locs hG hS => ?_)
    refine lv_goto (tgt := 1175) hx hb dL_law_1165 (by decide) ?_
    refine o_istore hx hb dL_law_1175 hl (by decide) rfl (fun ls hl => ?_)
    refine o_aload hx hb dL_law_1177 hl rfl ?_
    refine o_iload hx hb dL_law_1179 hl rfl ?_
    refine g_iald hC hG (V_c (i := 7) (by decide) (by decide) (by decide)) (a) rfl (by omega) (by decide) dL_law_1181 ?_
    refine o_iload hx hb dL_law_1182 hl rfl ?_
    refine lv_icmp_eq (tgt := 1191) hx hb dL_law_1184 (by decide) (fun _ => ?_) (fun h => absurd (rfl) h)
    refine lv_iconst (v := 0) hx hb dL_law_1191 (by decide) ?_
    refine o_istore hx hb dL_law_1192 hl (by decide) rfl (fun ls hl => ?_)
    refine o_iload hx hb dL_law_1194 hl rfl ?_
    refine o_iload hx hb dL_law_1196 hl rfl ?_
    refine lv_if_ne (tgt := 1216) hx hb dL_law_1198 (by decide) (fun _ => ?_) (fun h => absurd h (by decide))
    refine lv_iconst (v := 0) hx hb dL_law_1216 (by decide) ?_
    refine lv_isub hx hb dL_law_1217 ?_
    refine bi_0 (x := S 15 5 0) (Int32.sub_zero _).symm ?_
    refine o_istore hx hb dL_law_1218 hl (by decide) rfl (fun ls hl => ?_)
    refine o_iload_n hx hb dL_law_1220 hl rfl ?_
    refine o_iload hx hb dL_law_1221 hl rfl ?_
    refine o_iload hx hb dL_law_1223 hl rfl ?_
    refine lv_if_ne (tgt := 1243) hx hb dL_law_1225 (by decide) (fun h => absurd rfl h) (fun _ => ?_)
    refine o_iload hx hb dL_law_1228 hl rfl ?_
    refine lv_if_eq (tgt := 1238) hx hb dL_law_1230 (by decide) (fun h => absurd h (by decide)) (fun _ => ?_)
    refine lv_ldc hx hb hC.o (hC.t _ ct_L_36) dL_law_1233 ?_
    refine lv_goto (tgt := 1266) hx hb dL_law_1235 (by decide) ?_
    refine lv_icmp_ne (tgt := 1283) hx hb dL_law_1266 (by decide) (fun h => absurd (rfl) h) (fun _ => ?_)
    have hI2 := hI
    refine o_aload_n hx hb dL_law_1269 hl rfl ?_
    refine lv_iconst (v := 5) hx hb dL_law_1270 (by decide) ?_
    refine kv_L_money hfl hC hS hG ⟨hI2, XL_19⟩ ml_L_127 ⟨(Nat.le_of_ble_eq_true rfl), (Nat.le_of_ble_eq_true rfl)⟩ hl.1 (Nat.le_of_ble_eq_true rfl) dL_law_1271 ⟨show cells + 4 + 1 ≤ 847444 by omega, show slots + 24 + 6 ≤ 6559293 by omega⟩ cd_money5 (fun H locs hG hS => ?_)
    refine o_iload hx hb dL_law_1274 hl rfl ?_
    refine lv_icmp_ne (tgt := 1283) hx hb dL_law_1276 (by decide) (fun h => absurd (rfl) h) (fun _ => ?_)
    refine lv_iconst (v := 1) hx hb dL_law_1279 (by decide) ?_
    refine lv_goto (tgt := 1284) hx hb dL_law_1280 (by decide) ?_
    refine lv_iand hx hb dL_law_1284 ?_
    refine bi_0 (x := 1) (by decide) ?_
    refine o_istore_n hx hb dL_law_1285 hl (by decide) rfl (fun ls hl => ?_)
    refine W.widen (k := cells + 20) (n := slots + 160) (by omega) (by omega) ?_
    exact k0 S L yr _ _ _ hI hR (by omega) hG hS (lo_none (i := 18) (lo_none (i := 21) (lo_none (i := 22) (lo_none (i := 23) (lo_none (i := 24) (lo_none (i := 25) (lo_none (i := 26) hl)))))))
  · have hb9 : ¬ S 9 a 0 = 120 := fun z => h (r8.trans z)
    refine lv_iconst (v := 1) hx hb dL_law_836 (by decide) ?_
    refine lv_goto (tgt := 876) hx hb dL_law_837 (by decide) ?_
    refine o_istore hx hb dL_law_876 hl (by decide) rfl (fun ls hl => ?_)
    refine o_aload hx hb dL_law_878 hl rfl ?_
    refine o_iload hx hb dL_law_880 hl rfl ?_
    refine g_iald hC hG (V_c (i := 7) (by decide) (by decide) (by decide)) (a) rfl (by omega) (by decide) dL_law_882 ?_
    refine o_istore hx hb dL_law_883 hl (by decide) rfl (fun ls hl => ?_)
    refine lv_iconst (v := 0) hx hb dL_law_885 (by decide) ?_
    refine o_istore hx hb dL_law_886 hl (by decide) rfl (fun ls hl => ?_)
    refine o_iload hx hb dL_law_888 hl rfl ?_
    refine lv_if_eq (tgt := 1152) hx hb dL_law_890 (by decide) (fun h => absurd h (by decide)) (fun _ => ?_)
    have m5 : ∀ y, y < 5 → -1 ≤ S 7 a y ∧ S 7 a y ≤ 100 := fun y hy => (hI.2.2.2.2.2.2.2.2.2.2.2.2.2.2.1 a y (by omega) hy).2.1
    have hg : ∀ y, y < 5 → (0 ≤ L 5 a y → L 5 a y = shv S a y) ∧ (¬ 0 ≤ L 5 a y → L 4 a y = shv S a y) := fun y hy => by
      obtain ⟨q4, q5, -⟩ := hR.2.1 a y ha hy
      rw [q4, q5]
      refine ⟨fun h => ?_, fun h => ?_⟩
      · unfold shv; rw [if_neg (fun z => by rw [z] at h; exact absurd h (by decide))]
      · unfold shv; rw [if_pos ((m1_iff.mp (m5 y hy)).resolve_right (fun z => h z.1))]
    obtain ⟨hRR, t9, t15, t23⟩ := te_all hR hI ha
    refine blk_test (yr := yr) (bf := L 7 a 0) hC hS hG ha hK hkey hg (lo_none (i := 18) hl) (fun H locs ls hG hS hl => ?_)
    refine o_iload hx hb dL_law_1152 hl rfl ?_
    refine lv_if_eq (tgt := 1168) hx hb dL_law_1154 (by decide) (fun h => absurd h (by decide)) (fun _ => ?_)
    refine o_aload_n hx hb dL_law_1157 hl rfl ?_
    refine o_iload hx hb dL_law_1158 hl rfl ?_
    refine lv_iconst (v := 0) hx hb dL_law_1160 (by decide) ?_
    refine lv_iconst (v := 1) hx hb dL_law_1161 (by decide) ?_
    refine kv_L_test hfl hC hS hG ⟨hI, XL_19⟩ ml_L_110 ⟨(Nat.le_of_ble_eq_true rfl), (Nat.le_of_ble_eq_true rfl)⟩ hl.1 (Nat.le_of_ble_eq_true rfl) dL_law_1162 ⟨show cells + 4 ≤ 847444 by omega, show slots + 24 ≤ 6559293 by omega⟩ (cd_test0 hR ha hb9) (fun H locs hG hS => ?_)
    rw [za] at hG
    have hI2 : Inv (teS S n a) n := by have z := inv_test hI (cd_test0 hR ha hb9); rw [za] at z; exact z
    refine bi_0 (x := stL (fK (condL L (shv S a)) 0 K) 110) (by rw [za]; exact t9.symm) ?_
    have tl : ∀ (z : Int32) (ls : Array Slot), lo ls 29 (LW b ad K (S 23 0 0) (S 15 5 0) (nI nn) (some (.int (nI a))) none none none (some (.int 1)) (some (.int 1)) (some (.int (L 7 a 0))) none (some (.int (stL (fK (condL L (shv S a)) 0 K) 110))) none none none) → W p l e room_1 s m args below meth c H locs (cells + 4) (slots + 24) Q (F0 m 1192 ls [.int z]) := by
      intro z ls hl
      refine o_istore hx hb dL_law_1192 hl (by decide) rfl (fun ls hl => ?_)
      refine o_iload hx hb dL_law_1194 hl rfl ?_
      refine o_iload hx hb dL_law_1196 hl rfl ?_
      refine lv_if_ne (tgt := 1216) hx hb dL_law_1198 (by decide) (fun _ => ?_) (fun h => absurd h (by decide))
      refine lv_iconst (v := 0) hx hb dL_law_1216 (by decide) ?_
      refine lv_isub hx hb dL_law_1217 ?_
      refine bi_0 (x := S 15 5 0) (Int32.sub_zero _).symm ?_
      refine o_istore hx hb dL_law_1218 hl (by decide) rfl (fun ls hl => ?_)
      refine o_iload_n hx hb dL_law_1220 hl rfl ?_
      refine o_iload hx hb dL_law_1221 hl rfl ?_
      refine o_iload hx hb dL_law_1223 hl rfl ?_
      refine lv_if_ne (tgt := 1243) hx hb dL_law_1225 (by decide) (fun _ => ?_) (fun h => absurd h (by decide))
      refine o_iload hx hb dL_law_1243 hl rfl ?_
      refine lv_if_eq (tgt := 1256) hx hb dL_law_1245 (by decide) (fun h => absurd h (by decide)) (fun _ => ?_)
      refine o_aload hx hb dL_law_1248 hl rfl ?_
      refine o_iload hx hb dL_law_1250 hl rfl ?_
      refine g_iald hC hG (V_c (i := 8) (by decide) (by decide) (by decide)) (a) rfl (by omega) (by decide) dL_law_1252 ?_
      refine lv_goto (tgt := 1266) hx hb dL_law_1253 (by decide) ?_
      refine bi_0 (x := stL (fK (condL L (shv S a)) 0 K) 110) setL_8.symm ?_
      refine lv_icmp_ne (tgt := 1283) hx hb dL_law_1266 (by decide) (fun h => absurd (rfl) h) (fun _ => ?_)
      refine o_aload_n hx hb dL_law_1269 hl rfl ?_
      refine lv_iconst (v := 5) hx hb dL_law_1270 (by decide) ?_
      refine kv_L_money hfl hC hS hG ⟨hI2, XL_19⟩ ml_L_127 ⟨(Nat.le_of_ble_eq_true rfl), (Nat.le_of_ble_eq_true rfl)⟩ hl.1 (Nat.le_of_ble_eq_true rfl) dL_law_1271 ⟨show cells + 4 + 1 ≤ 847444 by omega, show slots + 24 + 6 ≤ 6559293 by omega⟩ cd_money5 (fun H locs hG hS => ?_)
      refine bi_0 (x := S 15 5 0) (by rw [t15]; rfl) ?_
      refine o_iload hx hb dL_law_1274 hl rfl ?_
      refine lv_icmp_ne (tgt := 1283) hx hb dL_law_1276 (by decide) (fun h => absurd (rfl) h) (fun _ => ?_)
      refine lv_iconst (v := 1) hx hb dL_law_1279 (by decide) ?_
      refine lv_goto (tgt := 1284) hx hb dL_law_1280 (by decide) ?_
      refine lv_iand hx hb dL_law_1284 ?_
      refine bi_0 (x := 1) (by decide) ?_
      refine o_istore_n hx hb dL_law_1285 hl (by decide) rfl (fun ls hl => ?_)
      refine W.widen (k := cells + 20) (n := slots + 160) (by omega) (by omega) ?_
      exact k0 (teS S n a) _ yr _ _ _ hI2 hRR (by omega) hG hS (by rw [t15, t23]; exact (lo_none (i := 21) (lo_none (i := 22) (lo_none (i := 23) (lo_none (i := 25) (lo_none (i := 26) hl))))))
    refine lv_goto (tgt := 1175) hx hb dL_law_1165 (by decide) ?_
    refine o_istore hx hb dL_law_1175 hl (by decide) rfl (fun ls hl => ?_)
    refine o_aload hx hb dL_law_1177 hl rfl ?_
    refine o_iload hx hb dL_law_1179 hl rfl ?_
    refine g_iald hC hG (V_c (i := 7) (by decide) (by decide) (by decide)) (a) rfl (by omega) (by decide) dL_law_1181 ?_
    refine o_iload hx hb dL_law_1182 hl rfl ?_
    refine lv_icmp_eq (tgt := 1191) hx hb dL_law_1184 (by decide) (fun h2 => ?_) (fun h2 => ?_)
    · skip
      refine lv_iconst (v := 0) hx hb dL_law_1191 (by decide) ?_
      exact tl _ ls hl
    · skip
      refine lv_iconst (v := 1) hx hb dL_law_1187 (by decide) ?_
      refine lv_goto (tgt := 1192) hx hb dL_law_1188 (by decide) ?_
      exact tl _ ls hl
set_option maxHeartbeats 4000000 in
set_option maxRecDepth 100000 in
theorem act_prot {p : Program} {l : Launch} {e : Env} {s : State} {m : MethodId} {args : Array Value} {below : List Frame} {meth : Method} {c : Code} {H : Heap} {locs : List Loc} {cells slots : Nat} {Q : State → Prop} {ls : Array Slot} {D : va_G} {cy : Nat → ClassId} {sa : Nat → Nat} {de B : Nat} {ad : Ad} {S : St} {n : Nat → Nat} {T : St} {k : Nat → Nat} {th : Int32} {L : St} {b K yr nn : Nat} {a ac : Nat} (hfl : l.stackTraces = false) (hC : Cx p m c cL_law 29 s args RL D cy sa de B) (hS : va_S (AB B) s.heap H locs) (hG : GW D B ad (WL cy de ad S n T k th K 10 L) H) (hI : Inv S n) (hR : RR S n L K yr) (ha : a < 3) (hac : ac = 5) (hl : lo ls 29 (LW b ad K (S 23 0 0) (S 15 5 0) (nI nn) (some (.int (nI a))) (some (.int (nI ac))) none none none none none none none none none none)) (hroom : cells + 20 ≤ 847444 ∧ slots + 160 ≤ 6559293) (k0 : ∀ (S2 L2 : St) (yr2 : Nat) (H1 : Heap) (locs1 : List Loc) (ls1 : Array Slot), Inv S2 n → RR S2 n L2 K yr2 → yr2 ≤ yr + 1 → GW D B ad (WL cy de ad S2 n T k th K 10 L2) H1 → va_S (AB B) s.heap H1 locs1 → lo ls1 29 (LW b ad K (S2 23 0 0) (S2 15 5 0) (nI nn) (some (.int (nI a))) none none none none none none none none none none none) → W p l e room_1 s m args below meth c H1 locs1 (cells + 20) (slots + 160) Q (F0 m 1286 ls1 [])) : W p l e room_1 s m args below meth c H locs cells slots Q (F0 m 808 ls []) := by
  have hx := hC.x
  have hb := hC.b
  have e0 : n 0 = 3 := hR.1.1
  have e1 : n 1 = 4 := hR.1.2.1
  have e2 : n 2 = K := hR.1.2.2.1
  have hK8 : n 2 ≤ 8 := hI.1.1.2.2.1
  have za : ci (nI a) = a := nI_clamp (by omega)
  have hK : K ≤ 8 := by omega
  have hkey : ∀ q, q < K → ∃ z, z < 5 ∧ L 0 q 0 = nI z := fun q hq => by
    rw [(hR.2.2.2.1 q hq).1]; exact KY_of hI.1.1 q (by omega)
  obtain ⟨r7, r8, r9, r10⟩ := hR.2.2.1 a ha
  subst hac
  have tno : ∀ ls : Array Slot, ¬ (mayP S a ∧ 100 ≤ S 15 5 0) → lo ls 29 (LW b ad K (S 23 0 0) (S 15 5 0) (nI nn) (some (.int (nI a))) (some (.int (nI 5))) none none (some (.int 0)) none none none none none none none) → W p l e room_1 s m args below meth c H locs cells slots Q (F0 m 876 ls [.int 0]) := by
    intro ls hno hl
    refine o_istore hx hb dL_law_876 hl (by decide) rfl (fun ls hl => ?_)
    refine o_aload hx hb dL_law_878 hl rfl ?_
    refine o_iload hx hb dL_law_880 hl rfl ?_
    refine g_iald hC hG (V_c (i := 7) (by decide) (by decide) (by decide)) (a) rfl (by omega) (by decide) dL_law_882 ?_
    refine o_istore hx hb dL_law_883 hl (by decide) rfl (fun ls hl => ?_)
    refine lv_iconst (v := 0) hx hb dL_law_885 (by decide) ?_
    refine o_istore hx hb dL_law_886 hl (by decide) rfl (fun ls hl => ?_)
    refine o_iload hx hb dL_law_888 hl rfl ?_
    refine lv_if_eq (tgt := 1152) hx hb dL_law_890 (by decide) (fun _ => ?_) (fun h => absurd rfl h)
    refine o_iload hx hb dL_law_1152 hl rfl ?_
    refine lv_if_eq (tgt := 1168) hx hb dL_law_1154 (by decide) (fun _ => ?_) (fun h => absurd rfl h)
    refine o_aload_n hx hb dL_law_1168 hl rfl ?_
    refine lv_iconst (v := 5) hx hb dL_law_1169 (by decide) ?_
    refine o_iload hx hb dL_law_1170 hl rfl ?_
    refine kx_L_protest (t0 := 2) hfl hC hS hG ⟨hI, XL_19⟩ ml_L_113 ⟨(Nat.le_of_ble_eq_true rfl), (Nat.le_of_ble_eq_true rfl)⟩ hl.1 (Nat.le_of_ble_eq_true rfl) dL_law_1172 ⟨show cells + 3 ≤ 847444 by omega, show slots + 18 ≤ 6559293 by omega⟩ (by decide) (cd_prot2 hR ha hno) (fun H locs hG hS => ?_)
    refine o_istore hx hb dL_law_1175 hl (by decide) rfl (fun ls hl => ?_)
    refine o_aload hx hb dL_law_1177 hl rfl ?_
    refine o_iload hx hb dL_law_1179 hl rfl ?_
    refine g_iald hC hG (V_c (i := 7) (by decide) (by decide) (by decide)) (a) rfl (by omega) (by decide) dL_law_1181 ?_
    refine o_iload hx hb dL_law_1182 hl rfl ?_
    refine lv_icmp_eq (tgt := 1191) hx hb dL_law_1184 (by decide) (fun _ => ?_) (fun h => absurd (rfl) h)
    refine lv_iconst (v := 0) hx hb dL_law_1191 (by decide) ?_
    refine o_istore hx hb dL_law_1192 hl (by decide) rfl (fun ls hl => ?_)
    refine o_iload hx hb dL_law_1194 hl rfl ?_
    refine o_iload hx hb dL_law_1196 hl rfl ?_
    refine lv_if_ne (tgt := 1216) hx hb dL_law_1198 (by decide) (fun h => absurd rfl h) (fun _ => ?_)
    refine o_iload hx hb dL_law_1201 hl rfl ?_
    refine lv_if_eq (tgt := 1216) hx hb dL_law_1203 (by decide) (fun _ => ?_) (fun h => absurd rfl h)
    refine lv_iconst (v := 0) hx hb dL_law_1216 (by decide) ?_
    refine lv_isub hx hb dL_law_1217 ?_
    refine bi_0 (x := S 15 5 0) (Int32.sub_zero _).symm ?_
    refine o_istore hx hb dL_law_1218 hl (by decide) rfl (fun ls hl => ?_)
    refine o_iload_n hx hb dL_law_1220 hl rfl ?_
    refine o_iload hx hb dL_law_1221 hl rfl ?_
    refine o_iload hx hb dL_law_1223 hl rfl ?_
    refine lv_if_ne (tgt := 1243) hx hb dL_law_1225 (by decide) (fun h => absurd rfl h) (fun _ => ?_)
    refine o_iload hx hb dL_law_1228 hl rfl ?_
    refine lv_if_eq (tgt := 1238) hx hb dL_law_1230 (by decide) (fun _ => ?_) (fun h => absurd rfl h)
    refine lv_ldc hx hb hC.o (hC.t _ ct_L_20) dL_law_1238 ?_
    refine lv_goto (tgt := 1266) hx hb dL_law_1240 (by decide) ?_
    refine lv_icmp_ne (tgt := 1283) hx hb dL_law_1266 (by decide) (fun h => absurd (rfl) h) (fun _ => ?_)
    have hI2 := hI
    refine o_aload_n hx hb dL_law_1269 hl rfl ?_
    refine lv_iconst (v := 5) hx hb dL_law_1270 (by decide) ?_
    refine kv_L_money hfl hC hS hG ⟨hI2, XL_19⟩ ml_L_127 ⟨(Nat.le_of_ble_eq_true rfl), (Nat.le_of_ble_eq_true rfl)⟩ hl.1 (Nat.le_of_ble_eq_true rfl) dL_law_1271 ⟨show cells + 3 + 1 ≤ 847444 by omega, show slots + 18 + 6 ≤ 6559293 by omega⟩ cd_money5 (fun H locs hG hS => ?_)
    refine o_iload hx hb dL_law_1274 hl rfl ?_
    refine lv_icmp_ne (tgt := 1283) hx hb dL_law_1276 (by decide) (fun h => absurd (rfl) h) (fun _ => ?_)
    refine lv_iconst (v := 1) hx hb dL_law_1279 (by decide) ?_
    refine lv_goto (tgt := 1284) hx hb dL_law_1280 (by decide) ?_
    refine lv_iand hx hb dL_law_1284 ?_
    refine bi_0 (x := 1) (by decide) ?_
    refine o_istore_n hx hb dL_law_1285 hl (by decide) rfl (fun ls hl => ?_)
    refine W.widen (k := cells + 20) (n := slots + 160) (by omega) (by omega) ?_
    exact k0 S L yr _ _ _ hI hR (by omega) hG hS (lo_none (i := 18) (lo_none (i := 21) (lo_none (i := 22) (lo_none (i := 23) (lo_none (i := 24) (lo_none (i := 25) (lo_none (i := 26) hl)))))))
  have tyes : ∀ ls : Array Slot, mayP S a → 100 ≤ S 15 5 0 → lo ls 29 (LW b ad K (S 23 0 0) (S 15 5 0) (nI nn) (some (.int (nI a))) (some (.int (nI 5))) none none (some (.int 0)) none none none none none none none) → W p l e room_1 s m args below meth c H locs cells slots Q (F0 m 876 ls [.int 1]) := by
    intro ls hm h100 hl
    refine o_istore hx hb dL_law_876 hl (by decide) rfl (fun ls hl => ?_)
    refine o_aload hx hb dL_law_878 hl rfl ?_
    refine o_iload hx hb dL_law_880 hl rfl ?_
    refine g_iald hC hG (V_c (i := 7) (by decide) (by decide) (by decide)) (a) rfl (by omega) (by decide) dL_law_882 ?_
    refine o_istore hx hb dL_law_883 hl (by decide) rfl (fun ls hl => ?_)
    refine lv_iconst (v := 0) hx hb dL_law_885 (by decide) ?_
    refine o_istore hx hb dL_law_886 hl (by decide) rfl (fun ls hl => ?_)
    refine o_iload hx hb dL_law_888 hl rfl ?_
    refine lv_if_eq (tgt := 1152) hx hb dL_law_890 (by decide) (fun h => absurd h (by decide)) (fun _ => ?_)
    obtain ⟨hRR, x10, x15, x23⟩ := pr_all hR hI ha hm
    refine blk_prot (yr := yr) (bf := L 7 a 0) hC hS hG ha hK hkey (lo_none (i := 18) hl) (fun H locs ls hG hS hl => ?_)
    refine o_iload hx hb dL_law_1152 hl rfl ?_
    refine lv_if_eq (tgt := 1168) hx hb dL_law_1154 (by decide) (fun _ => ?_) (fun h => absurd rfl h)
    refine o_aload_n hx hb dL_law_1168 hl rfl ?_
    refine lv_iconst (v := 5) hx hb dL_law_1169 (by decide) ?_
    refine o_iload hx hb dL_law_1170 hl rfl ?_
    refine kv_L_protest hfl hC hS hG ⟨hI, XL_19⟩ ml_L_113 ⟨(Nat.le_of_ble_eq_true rfl), (Nat.le_of_ble_eq_true rfl)⟩ hl.1 (Nat.le_of_ble_eq_true rfl) dL_law_1172 ⟨show cells + 3 ≤ 847444 by omega, show slots + 18 ≤ 6559293 by omega⟩ (cd_prot0 hR ha hm h100) (fun H locs hG hS => ?_)
    rw [za] at hG
    have hI2 : Inv (prS S n 5 a) n := by have z := inv_protest hI (cd_prot0 hR ha hm h100); rw [za] at z; exact z
    refine bi_0 (x := cif (kkP L a K = L 7 a 0) 0 1) (by rw [za]; unfold vl_protest; rw [x10, r7]) ?_
    refine o_istore hx hb dL_law_1175 hl (by decide) rfl (fun ls hl => ?_)
    refine o_aload hx hb dL_law_1177 hl rfl ?_
    refine o_iload hx hb dL_law_1179 hl rfl ?_
    refine g_iald hC hG (V_c (i := 7) (by decide) (by decide) (by decide)) (a) rfl (by omega) (by decide) dL_law_1181 ?_
    refine bi_0 (x := kkP L a K) setL_7.symm ?_
    refine o_iload hx hb dL_law_1182 hl rfl ?_
    refine lv_icmp_eq (tgt := 1191) hx hb dL_law_1184 (by decide) (fun h2 => ?_) (fun h2 => ?_)
    · rw [cif_t h2] at x15 hl
      refine lv_iconst (v := 0) hx hb dL_law_1191 (by decide) ?_
      refine o_istore hx hb dL_law_1192 hl (by decide) rfl (fun ls hl => ?_)
      refine o_iload hx hb dL_law_1194 hl rfl ?_
      refine o_iload hx hb dL_law_1196 hl rfl ?_
      refine lv_if_ne (tgt := 1216) hx hb dL_law_1198 (by decide) (fun h => absurd rfl h) (fun _ => ?_)
      refine o_iload hx hb dL_law_1201 hl rfl ?_
      refine lv_if_eq (tgt := 1216) hx hb dL_law_1203 (by decide) (fun h => absurd h (by decide)) (fun _ => ?_)
      refine o_iload hx hb dL_law_1206 hl rfl ?_
      refine lv_if_ne (tgt := 1216) hx hb dL_law_1208 (by decide) (fun h => absurd rfl h) (fun _ => ?_)
      refine lv_bipush (v := 100) hx hb dL_law_1211 (by decide) ?_
      refine lv_goto (tgt := 1217) hx hb dL_law_1213 (by decide) ?_
      refine lv_isub hx hb dL_law_1217 ?_
      refine o_istore hx hb dL_law_1218 hl (by decide) rfl (fun ls hl => ?_)
      refine o_iload_n hx hb dL_law_1220 hl rfl ?_
      refine o_iload hx hb dL_law_1221 hl rfl ?_
      refine o_iload hx hb dL_law_1223 hl rfl ?_
      refine lv_if_ne (tgt := 1243) hx hb dL_law_1225 (by decide) (fun _ => ?_) (fun h => absurd h (by decide))
      refine o_iload hx hb dL_law_1243 hl rfl ?_
      refine lv_if_eq (tgt := 1256) hx hb dL_law_1245 (by decide) (fun _ => ?_) (fun h => absurd rfl h)
      refine o_iload hx hb dL_law_1256 hl rfl ?_
      refine lv_if_eq (tgt := 1265) hx hb dL_law_1258 (by decide) (fun _ => ?_) (fun h => absurd rfl h)
      refine lv_iconst (v := 0) hx hb dL_law_1265 (by decide) ?_
      refine lv_icmp_ne (tgt := 1283) hx hb dL_law_1266 (by decide) (fun h => absurd (rfl) h) (fun _ => ?_)
      refine o_aload_n hx hb dL_law_1269 hl rfl ?_
      refine lv_iconst (v := 5) hx hb dL_law_1270 (by decide) ?_
      refine kv_L_money hfl hC hS hG ⟨hI2, XL_19⟩ ml_L_127 ⟨(Nat.le_of_ble_eq_true rfl), (Nat.le_of_ble_eq_true rfl)⟩ hl.1 (Nat.le_of_ble_eq_true rfl) dL_law_1271 ⟨show cells + 3 + 1 ≤ 847444 by omega, show slots + 18 + 6 ≤ 6559293 by omega⟩ cd_money5 (fun H locs hG hS => ?_)
      refine bi_0 (x := S 15 5 0 - 100) x15.symm ?_
      refine o_iload hx hb dL_law_1274 hl rfl ?_
      refine lv_icmp_ne (tgt := 1283) hx hb dL_law_1276 (by decide) (fun h => absurd (rfl) h) (fun _ => ?_)
      refine lv_iconst (v := 1) hx hb dL_law_1279 (by decide) ?_
      refine lv_goto (tgt := 1284) hx hb dL_law_1280 (by decide) ?_
      refine lv_iand hx hb dL_law_1284 ?_
      refine bi_0 (x := 1) (by decide) ?_
      refine o_istore_n hx hb dL_law_1285 hl (by decide) rfl (fun ls hl => ?_)
      refine W.widen (k := cells + 20) (n := slots + 160) (by omega) (by omega) ?_
      exact k0 (prS S n 5 a) _ yr _ _ _ hI2 hRR (by omega) hG hS (by rw [x15, x23]; exact (lo_none (i := 21) (lo_none (i := 22) (lo_none (i := 23) (lo_none (i := 25) (lo_none (i := 26) hl))))))
    · rw [cif_f h2] at x15 hl
      refine lv_iconst (v := 1) hx hb dL_law_1187 (by decide) ?_
      refine lv_goto (tgt := 1192) hx hb dL_law_1188 (by decide) ?_
      refine o_istore hx hb dL_law_1192 hl (by decide) rfl (fun ls hl => ?_)
      refine o_iload hx hb dL_law_1194 hl rfl ?_
      refine o_iload hx hb dL_law_1196 hl rfl ?_
      refine lv_if_ne (tgt := 1216) hx hb dL_law_1198 (by decide) (fun h => absurd rfl h) (fun _ => ?_)
      refine o_iload hx hb dL_law_1201 hl rfl ?_
      refine lv_if_eq (tgt := 1216) hx hb dL_law_1203 (by decide) (fun h => absurd h (by decide)) (fun _ => ?_)
      refine o_iload hx hb dL_law_1206 hl rfl ?_
      refine lv_if_ne (tgt := 1216) hx hb dL_law_1208 (by decide) (fun _ => ?_) (fun h => absurd h (by decide))
      refine lv_iconst (v := 0) hx hb dL_law_1216 (by decide) ?_
      refine lv_isub hx hb dL_law_1217 ?_
      refine bi_0 (x := S 15 5 0) (Int32.sub_zero _).symm ?_
      refine o_istore hx hb dL_law_1218 hl (by decide) rfl (fun ls hl => ?_)
      refine o_iload_n hx hb dL_law_1220 hl rfl ?_
      refine o_iload hx hb dL_law_1221 hl rfl ?_
      refine o_iload hx hb dL_law_1223 hl rfl ?_
      refine lv_if_ne (tgt := 1243) hx hb dL_law_1225 (by decide) (fun _ => ?_) (fun h => absurd h (by decide))
      refine o_iload hx hb dL_law_1243 hl rfl ?_
      refine lv_if_eq (tgt := 1256) hx hb dL_law_1245 (by decide) (fun _ => ?_) (fun h => absurd rfl h)
      refine o_iload hx hb dL_law_1256 hl rfl ?_
      refine lv_if_eq (tgt := 1265) hx hb dL_law_1258 (by decide) (fun h => absurd h (by decide)) (fun _ => ?_)
      refine lv_iconst (v := 1) hx hb dL_law_1261 (by decide) ?_
      refine lv_goto (tgt := 1266) hx hb dL_law_1262 (by decide) ?_
      refine lv_icmp_ne (tgt := 1283) hx hb dL_law_1266 (by decide) (fun h => absurd (rfl) h) (fun _ => ?_)
      refine o_aload_n hx hb dL_law_1269 hl rfl ?_
      refine lv_iconst (v := 5) hx hb dL_law_1270 (by decide) ?_
      refine kv_L_money hfl hC hS hG ⟨hI2, XL_19⟩ ml_L_127 ⟨(Nat.le_of_ble_eq_true rfl), (Nat.le_of_ble_eq_true rfl)⟩ hl.1 (Nat.le_of_ble_eq_true rfl) dL_law_1271 ⟨show cells + 3 + 1 ≤ 847444 by omega, show slots + 18 + 6 ≤ 6559293 by omega⟩ cd_money5 (fun H locs hG hS => ?_)
      refine bi_0 (x := S 15 5 0) x15.symm ?_
      refine o_iload hx hb dL_law_1274 hl rfl ?_
      refine lv_icmp_ne (tgt := 1283) hx hb dL_law_1276 (by decide) (fun h => absurd (rfl) h) (fun _ => ?_)
      refine lv_iconst (v := 1) hx hb dL_law_1279 (by decide) ?_
      refine lv_goto (tgt := 1284) hx hb dL_law_1280 (by decide) ?_
      refine lv_iand hx hb dL_law_1284 ?_
      refine bi_0 (x := 1) (by decide) ?_
      refine o_istore_n hx hb dL_law_1285 hl (by decide) rfl (fun ls hl => ?_)
      refine W.widen (k := cells + 20) (n := slots + 160) (by omega) (by omega) ?_
      exact k0 (prS S n 5 a) _ yr _ _ _ hI2 hRR (by omega) hG hS (by rw [x15, x23]; exact (lo_none (i := 21) (lo_none (i := 22) (lo_none (i := 23) (lo_none (i := 25) (lo_none (i := 26) hl))))))
  have tmon : ∀ ls : Array Slot, mayP S a → lo ls 29 (LW b ad K (S 23 0 0) (S 15 5 0) (nI nn) (some (.int (nI a))) (some (.int (nI 5))) none none (some (.int 0)) none none none none none none none) → W p l e room_1 s m args below meth c H locs cells slots Q (F0 m 864 ls []) := by
    intro ls hm hl
    refine o_iload hx hb dL_law_864 hl rfl ?_
    refine lv_bipush (v := 100) hx hb dL_law_866 (by decide) ?_
    refine lv_icmp_lt (tgt := 875) hx hb dL_law_868 (by decide) (fun h => ?_) (fun h => ?_)
    · skip
      refine lv_iconst (v := 0) hx hb dL_law_875 (by decide) ?_
      exact tno ls (fun z => absurd h (Int32.not_lt.mpr z.2)) hl
    · skip
      refine lv_iconst (v := 1) hx hb dL_law_871 (by decide) ?_
      refine lv_goto (tgt := 876) hx hb dL_law_872 (by decide) ?_
      exact tyes ls hm (Int32.not_lt.mp h) hl
  refine o_iload hx hb dL_law_808 hl rfl ?_
  refine lv_iconst (v := 5) hx hb dL_law_810 (by decide) ?_
  refine n_icmp_ge (tgt := 818) hx hb 5 5 rfl rfl (by omega) (by omega) dL_law_811 (by decide) (fun _ => ?_) (fun h => absurd h (by omega))
  refine lv_iconst (v := 0) hx hb dL_law_818 (by decide) ?_
  refine o_istore hx hb dL_law_819 hl (by decide) rfl (fun ls hl => ?_)
  refine o_iload hx hb dL_law_821 hl rfl ?_
  refine lv_if_eq (tgt := 844) hx hb dL_law_823 (by decide) (fun _ => ?_) (fun h => absurd rfl h)
  refine o_aload hx hb dL_law_844 hl rfl ?_
  refine o_iload hx hb dL_law_846 hl rfl ?_
  refine g_iald hC hG (V_c (i := 8) (by decide) (by decide) (by decide)) (a) rfl (by omega) (by decide) dL_law_848 ?_
  refine lv_bipush (v := 110) hx hb dL_law_849 (by decide) ?_
  refine lv_icmp_eq (tgt := 864) hx hb dL_law_851 (by decide) (fun h => ?_) (fun h => ?_)
  · exact tmon ls (Or.inl (r8.symm.trans h)) hl
  · skip
    refine o_aload hx hb dL_law_854 hl rfl ?_
    refine o_iload hx hb dL_law_856 hl rfl ?_
    refine g_iald hC hG (V_c (i := 8) (by decide) (by decide) (by decide)) (a) rfl (by omega) (by decide) dL_law_858 ?_
    refine lv_bipush (v := 99) hx hb dL_law_859 (by decide) ?_
    refine lv_icmp_ne (tgt := 875) hx hb dL_law_861 (by decide) (fun h2 => ?_) (fun h2 => ?_)
    · skip
      refine lv_iconst (v := 0) hx hb dL_law_875 (by decide) ?_
      exact tno ls (fun z => by
        rcases z.1 with w | w | w
        · exact h (r8.trans w)
        · exact h2 (r8.trans w)
        · rcases r10 with v | v | v | v | v <;> rw [v] at w <;> exact absurd w (by decide)) hl
    · exact tmon ls (Or.inr (Or.inl (r8.symm.trans h2))) hl
