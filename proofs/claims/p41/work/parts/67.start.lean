/-! THE START: what the Statement gives of it. -/
theorem ar_prim {s : State} {args : Array Value} {ty : FieldType} (h : (Cond.arrayClass ty).before args s = true) : ∃ cA : ClassId, ArrOfT s cA ty ∧ s.vm.findClass ("[" ++ ty.toString) = some cA := by
  obtain ⟨c, k, comp, h1, h2, h3⟩ := Cond.arrayClass_spec h
  exact ⟨c, fun n z => ⟨(fun k h => by cases h), k, h2, comp, h3⟩, h1⟩
theorem ar_obj {s : State} {args : Array Value} {C : String} (h : (Cond.arrayOver (.object C)).before args s = true) : ∃ cA : ClassId, ArrOfT s cA (.object C) ∧ va_RA s cA (.object C) := by
  obtain ⟨comp, c, k, h1, h2, h3, h4, h5⟩ := Cond.arrayOver_spec h
  exact ⟨c, fun n z => ⟨(fun k h => by cases h), k, h3, comp, h4⟩, k, comp, h3, h4, h1, h5⟩
theorem ar_arr {s : State} {args : Array Value} {ty : FieldType} (h : (Cond.arrayOver (.array ty)).before args s = true) : ∃ cA : ClassId, ArrOfT s cA (.array ty) ∧ s.vm.findClass ("[" ++ (FieldType.array ty).toString) = some cA := by
  obtain ⟨comp, c, k, h1, h2, h3, h4, h5⟩ := arrayOverA_spec h
  exact ⟨c, fun n z => ⟨(fun k h => by cases h), k, h3, comp, h4⟩, h5⟩
theorem cast_tb : ∀ q ∈ castL, Cond.castable q.1 q.2 ∈ tables_1 := by decide +kernel
theorem decl_tb : ∀ q ∈ declL, Cond.declares q ∈ tables_1 := by decide +kernel
theorem str_tb : ∀ q ∈ strL, Cond.stringRef RX6 q.1 q.2 ∈ tables_1 := by decide +kernel
theorem nc_nw : ∀ q ∈ ncL, Cond.not (.castable q.1 q.2) ∈ flatC (Jvm.Cond.and given_1 narrow_1) := by decide +kernel
theorem str_nw : ∀ q ∈ strL, Cond.exactly (.string RX6 q.1) "java/lang/String" ∈ flatC (Jvm.Cond.and given_1 narrow_1) := by decide +kernel
abbrev deT : Term := .static "java/util/ArrayList" "DEFAULTCAPACITY_EMPTY_ELEMENTDATA" "[Ljava/lang/Object;"
theorem nw_1 : Cond.isRef (.static Bundle.tN "UNASSIGNED_STACK" Bundle.steD) ∈ flatC (Jvm.Cond.and given_1 narrow_1) := by decide +kernel
theorem nw_2 : Cond.isRef (.static Bundle.tN "SUPPRESSED_SENTINEL" Bundle.listD) ∈ flatC (Jvm.Cond.and given_1 narrow_1) := by decide +kernel
theorem nw_3 : Cond.arrayOf deT (.object "java/lang/Object") ∈ flatC (Jvm.Cond.and given_1 narrow_1) := by decide +kernel
theorem nw_4 : Cond.eq (.length deT) (.int 0) ∈ flatC (Jvm.Cond.and given_1 narrow_1) := by decide +kernel
theorem nw_5 : Cond.isRef (.mirror "[Ljava/lang/Object;") ∈ flatC (Jvm.Cond.and given_1 narrow_1) := by decide +kernel
theorem KS_start {s : State} {args : Array Value} (hts : ∀ w ∈ lw_tbl, w.before args s = true) (hn : (Jvm.Cond.and given_1 narrow_1).before args s = true) :
    ∃ (D : va_G) (cy : Nat → ClassId) (sa : Nat → Nat) (de : Nat), KS D cy sa s ∧ SF s.heap.size de s s.heap ∧ va_AR .int s := by
  have hT : ∀ w ∈ tables_1, w.before args s = true := fun w h => hts w (List.mem_append_right _ h)
  have hg : ∀ w ∈ G0, w.before args s = true := fun w h => hts w (G0_tbl w h)
  have hs := flat_of_before _ hn
  have hA : ∀ a : Nat, a < s.heap.size → ¬ AB s.heap.size a := fun a h => Nat.not_le.mpr h
  obtain ⟨c0, i0, k0⟩ := u_known (C := RJx4a65c) (T := TJx4a65c) (N := 3) (n := 3) hg us_Jx4a65c (hg _ is_Jx4a65c)
  obtain ⟨c1, i1, k1⟩ := u_known (C := RX0) (T := TX0) (N := 10) (n := 10) hg us_X0 (hg _ is_X0)
  obtain ⟨c2, i2, k2⟩ := u_known (C := RX1) (T := TX1) (N := 1) (n := 1) hg us_X1 (hg _ is_X1)
  obtain ⟨c3, i3, k3⟩ := u_known (C := RX1) (T := TX1) (N := 1) (n := 1) hg us_X1 (hg _ is_X1)
  obtain ⟨c4, i4, k4⟩ := u_known (C := RX1) (T := TX1) (N := 1) (n := 1) hg us_X1 (hg _ is_X1)
  obtain ⟨c5, i5, k5⟩ := u_known (C := RX4) (T := TX4) (N := 6) (n := 6) hg us_X4 (hg _ is_X4)
  obtain ⟨c6, i6, k6⟩ := u_known (C := RX5) (T := TX5) (N := 1) (n := 1) hg us_X5 (hg _ is_X5)
  obtain ⟨c7, i7, k7⟩ := u_known (C := RX6) (T := TX6) (N := 6) (n := 6) hg us_X6 (hg _ is_X6)
  obtain ⟨a0, a0A, a0R⟩ := ar_prim (hT (.arrayClass .int) (List.mem_of_getElem? (i := 76) (by decide +kernel)))
  have o6 := hT (.arrayOver (.object "java/lang/Object")) (List.mem_of_getElem? (i := 346) (by decide +kernel))
  have o7 := hT (.arrayOver (.array .int)) (List.mem_of_getElem? (i := 656) (by decide +kernel))
  obtain ⟨a6, a6A, a6R⟩ := ar_obj o6
  obtain ⟨a7, a7A, a7R⟩ := ar_arr o7
  obtain ⟨de, hde, hdT⟩ := va_Tof (N := 0) (f := fun _ => .null) (by decide) (hs _ nw_3) (va_eqt (z := 0) (hs _ nw_4)) (fun j h => absurd h (Nat.not_lt_zero j)) hA
  obtain ⟨mi, hmi⟩ := va_Mi.of (hs _ nw_5)
  have hst : ∀ i : Nat, ∃ a : Nat, ∀ q : Nat × String, strL[i]? = some q → vk_R RX6 q.1 q.2 a s := by
    intro i
    cases hq : strL[i]? with
    | none => exact ⟨0, fun q h => by cases h⟩
    | some q =>
      have hm := List.mem_of_getElem? hq
      obtain ⟨a, c, cA, kA, q1, -⟩ := Cond.exactly_spec (args := args) (first := s) (o := none) (s := s) (idx := []) (hs _ (str_nw q hm))
      exact ⟨a, fun q2 h => by cases h; exact vk_R.of (hT _ (str_tb q hm)) q1⟩
  obtain ⟨sb, hsb⟩ := Classical.axiomOfChoice hst
  have hlen : strL.length ≤ 1000 := by decide
  refine ⟨(fun k => match k with | 0 => c0 | 1 => c1 | 2 => c2 | 3 => c3 | 4 => c4 | 5 => c5 | 6 => c6 | _ => c7, fun k => match k with | 0 => i0 | 1 => i1 | 2 => i2 | 3 => i3 | 4 => i4 | 5 => i5 | 6 => i6 | _ => i7),
    fun k => match k with | 6 => a6 | 7 => a7 | _ => a0, fun k => if k = 1000 then mi else sb k, de, ⟨⟨?_, ?_⟩, ?_, ?_, ?_, ?_, ?_, o6, o6, ?_, ?_⟩, ⟨?_, ?_, ?_, hdT⟩, o7⟩
  · intro k q h
    match k, h with
    | 0, h => cases h; exact k0
    | 1, h => cases h; exact k1
    | 2, h => cases h; exact k2
    | 3, h => cases h; exact k3
    | 4, h => cases h; exact k4
    | 5, h => cases h; exact k5
    | 6, h => cases h; exact k6
    | 7, h => cases h; exact k7
    | _ + 8, h => cases h
  · intro k q h
    match k, h with
    | 0, h => cases h; exact ⟨a0A, a0R⟩
    | 1, h => cases h; exact ⟨a0A, a0R⟩
    | 2, h => cases h; exact ⟨a0A, a0R⟩
    | 3, h => cases h; exact ⟨a0A, a0R⟩
    | 4, h => cases h; exact ⟨a0A, a0R⟩
    | 5, h => cases h; exact ⟨a0A, a0R⟩
    | 6, h => cases h; exact ⟨a6A, a6R⟩
    | 7, h => cases h; exact ⟨a7A, a7R⟩
    | _ + 8, h => cases h
  · exact va_Nw.of rfl (hT _ (cast_tb ("EvenstartGames", "java/lang/Object") (by decide)))
  · exact fun q hq => va_Nw.of rfl (hT _ (cast_tb q hq))
  · exact fun q hq => va_Nw.of rfl (hT _ (decl_tb q hq))
  · exact fun q hq => va_Nc.of (hs _ (nc_nw q hq))
  · intro i q hq
    have hi : i < strL.length := (List.getElem?_eq_some_iff.mp hq).1
    show vk_R RX6 q.1 q.2 (if i = 1000 then mi else sb i) s
    rw [if_neg (by omega)]
    exact hsb i q hq
  · show va_Mi "[Ljava/lang/Object;" (if 1000 = 1000 then mi else sb 1000) s
    rw [if_pos rfl]; exact hmi
  · exact va_Dc.of (hT _ (List.mem_of_getElem? (i := 674) (by decide +kernel)))
  · exact vx_Zqof (hT (.laysStatic Bundle.tN "UNASSIGNED_STACK" Bundle.steD) (List.mem_of_getElem? (i := 120) (by decide +kernel))) (hg _ in_java_lang_Throwable) (hs _ nw_1) hA
  · exact vx_Zqof (hT (.laysStatic Bundle.tN "SUPPRESSED_SENTINEL" Bundle.listD) (List.mem_of_getElem? (i := 122) (by decide +kernel))) (hg _ in_java_lang_Throwable) (hs _ nw_2) hA
  · exact va_Zref (hT (.laysStatic "java/util/ArrayList" "DEFAULTCAPACITY_EMPTY_ELEMENTDATA" "[Ljava/lang/Object;") (List.mem_of_getElem? (i := 44) (by decide +kernel))) (hg _ in_Jx4a65c) hde hA
