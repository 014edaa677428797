def kdsp {α : Type} (x0 x1 x2 x3 x4 x5 x6 x7 : α) : Nat → α
  | 0 => x0
  | 1 => x1
  | 2 => x2
  | 3 => x3
  | 4 => x4
  | 5 => x5
  | 6 => x6
  | _ => x7
theorem kcas_in : ∀ q ∈ kCas, Cond.castable q.1 q.2 ∈ lw_tbl := by decide +kernel
theorem knst_in : ∀ q ∈ kNst, Cond.methodLinkNest q.1 q.2.1 q.2.2.1 q.2.2.2 ∈ lw_tbl := by decide +kernel
theorem kdcl_in : ∀ q ∈ kDcl, Cond.declares (Bundle.initS q) ∈ lw_tbl := by decide +kernel
theorem kstr_in : ∀ q ∈ kStr, Cond.stringRef RX5 q.1 q.2 ∈ lw_tbl := by decide +kernel
theorem kncs_in : ∀ q ∈ kNcs, Cond.not (Cond.castable q.1 q.2) ∈ flatC (Jvm.Cond.and given_1 narrow_1) := by decide +kernel
theorem kAcls {args : Array Value} {s : State} {ty : FieldType} (h : (Cond.arrayClass ty).before args s = true) : ∃ c, ArrOfT s c ty ∧ s.vm.findClass ("[" ++ ty.toString) = some c := by
  obtain ⟨c, k, comp, h1, h2, h3⟩ := Cond.arrayClass_spec h
  exact ⟨c, fun n z => ⟨fun k h => (by cases h), k, h2, comp, h3⟩, h1⟩
theorem kAobj {args : Array Value} {s : State} {nm : String} (h : (Cond.arrayOver (.object nm)).before args s = true) : ∃ c, ArrOfT s c (.object nm) ∧ va_RA s c (.object nm) := by
  obtain ⟨comp, c, k, h1, _, h2, h3, h4⟩ := Cond.arrayOver_spec h
  exact ⟨c, fun n z => ⟨fun k h => (by cases h), k, h2, comp, h3⟩, k, comp, h2, h3, h1, h4⟩
set_option maxRecDepth 100000 in
/-- what surrounds the law, at its entry -/
theorem law_am {s : State} {b : Nat} (hts : ∀ w ∈ lw_tbl, w.before #[Value.ref b] s = true) (hgv : (Jvm.Cond.and given_1 narrow_1).before #[Value.ref b] s = true) : ∃ E : kE, kAm E (fun q : Nat => s.heap.size ≤ q) s := by
  have hs := flat_of_before _ hgv
  have ht2 : ∀ w ∈ wsL_law, w.before #[Value.ref b] s = true := fun w hw => hts w (wsL_law_in w hw)
  have hA : ∀ a : Nat, a < s.heap.size → ¬ (fun q : Nat => s.heap.size ≤ q) a := fun a h => Nat.not_le.mpr h
  obtain ⟨d0, i0, k0⟩ := u_known (C := RJx4a65c) (T := TJx4a65c) (N := 3) (n := 3) ht2 inlJx4a65c (ht2 _ kb_11)
  obtain ⟨d1, i1, k1⟩ := u_known (C := RX0) (T := TX0) (N := 5) (n := 5) ht2 inlX0 (ht2 _ kb_286)
  obtain ⟨d2, i2, k2⟩ := u_known (C := RX1) (T := TX1) (N := 9) (n := 9) ht2 inlX1 (ht2 _ kb_17)
  obtain ⟨d3, i3, k3⟩ := u_known (C := RX2) (T := TX2) (N := 4) (n := 4) ht2 inlX2 (ht2 _ kb_94)
  obtain ⟨d4, i4, k4⟩ := u_known (C := RX3) (T := TX3) (N := 3) (n := 3) ht2 inlX3 (ht2 _ kb_82)
  obtain ⟨d5, i5, k5⟩ := u_known (C := RX4) (T := TX4) (N := 2) (n := 2) ht2 inlX4 (ht2 _ kb_316)
  obtain ⟨d6, i6, k6⟩ := u_known (C := RX5) (T := TX5) (N := 3) (n := 3) ht2 inlX5 (ht2 _ kb_1)
  obtain ⟨y0, z0, w0⟩ := kAcls (ty := .int) (ht2 _ kb_3)
  obtain ⟨y1, z1, w1⟩ := kAcls (ty := .boolean) (ht2 _ kb_40)
  obtain ⟨y3, z3, w3⟩ := kAobj (nm := "java/lang/Object") (hts (.arrayOver (.object "java/lang/Object")) (by decide +kernel))
  obtain ⟨y4, z4, w4⟩ := kAobj (nm := RX2) (hts (.arrayOver (.object RX2)) (by decide +kernel))
  obtain ⟨y5, z5, w5⟩ := kAobj (nm := RX1) (hts (.arrayOver (.object RX1)) (by decide +kernel))
  obtain ⟨dE, hd1, hd2⟩ := va_Tof (tm := .static "java/util/ArrayList" "DEFAULTCAPACITY_EMPTY_ELEMENTDATA" "[Ljava/lang/Object;") (ty := .object "java/lang/Object") (N := 0) (f := fun _ => .null) (A := fun q : Nat => s.heap.size ≤ q) (by decide) (hs (.arrayOf (.static "java/util/ArrayList" "DEFAULTCAPACITY_EMPTY_ELEMENTDATA" "[Ljava/lang/Object;") (.object "java/lang/Object")) (by decide +kernel)) (va_eqt (z := 0) (hs (.eq (.length (.static "java/util/ArrayList" "DEFAULTCAPACITY_EMPTY_ELEMENTDATA" "[Ljava/lang/Object;")) (.int 0)) (by decide +kernel))) (fun j hj => absurd hj (Nat.not_lt_zero j)) hA
  obtain ⟨mi, hmi⟩ := va_Mi.of (C := "[Ljava/lang/Object;") (hs (.isRef (.mirror "[Ljava/lang/Object;")) (by decide +kernel))
  have hthr := hts (.initialized "java/lang/Throwable") (by decide +kernel)
  refine ⟨((kdsp d0 d1 d2 d3 d4 d5 d6 d6, kdsp i0 i1 i2 i3 i4 i5 i6 i6), kdsp y0 y1 y0 y3 y4 y5 y5 y5, dE, mi), ⟨fun k q hq => ?_, fun k q hq => ?_⟩, fun q h => h, ⟨?_, ?_⟩, ⟨?_, hd2, hmi, ?_⟩, fun q hq => ?_, ⟨?_, ?_, ?_⟩, fun q hq => ?_, fun q hq => ?_, fun q hq => ?_, fun q hq => ?_⟩
  · match k, hq with
    | 0, hq => cases hq; exact k0
    | 1, hq => cases hq; exact k1
    | 2, hq => cases hq; exact k2
    | 3, hq => cases hq; exact k3
    | 4, hq => cases hq; exact k4
    | 5, hq => cases hq; exact k5
    | 6, hq => cases hq; exact k6
    | k + 7, hq => simp at hq
  · match k, hq with
    | 0, hq => cases hq; exact ⟨z0, w0⟩
    | 1, hq => cases hq; exact ⟨z1, w1⟩
    | 2, hq => cases hq; exact ⟨z0, w0⟩
    | 3, hq => cases hq; exact ⟨z3, w3⟩
    | 4, hq => cases hq; exact ⟨z4, w4⟩
    | 5, hq => cases hq; exact ⟨z5, w5⟩
    | k + 6, hq => simp at hq
  · exact vx_Zqof (hts (.laysStatic "java/lang/Throwable" "UNASSIGNED_STACK" "[Ljava/lang/StackTraceElement;") (by decide +kernel)) hthr (hs (.isRef (.static "java/lang/Throwable" "UNASSIGNED_STACK" "[Ljava/lang/StackTraceElement;")) (by decide +kernel)) hA
  · exact vx_Zqof (hts (.laysStatic "java/lang/Throwable" "SUPPRESSED_SENTINEL" "Ljava/util/List;") (by decide +kernel)) hthr (hs (.isRef (.static "java/lang/Throwable" "SUPPRESSED_SENTINEL" "Ljava/util/List;")) (by decide +kernel)) hA
  · exact va_Zref (hts (.laysStatic "java/util/ArrayList" "DEFAULTCAPACITY_EMPTY_ELEMENTDATA" "[Ljava/lang/Object;") (by decide +kernel)) (hts (.initialized "java/util/ArrayList") (by decide +kernel)) hd1 hA
  · exact va_Dc.of (hts (.declares ⟨"java/lang/Object", "getClass", "()Ljava/lang/Class;"⟩) (by decide +kernel))
  · have h := hts _ (kstr_in q hq)
    obtain ⟨_, _, _, a, _, _, _, _, _, he⟩ := Cond.stringRef_spec k6.2.1 h
    exact ⟨a, vk_R.of h he⟩
  · exact va_AO.of (hts (.arrayOver (.object "java/lang/Object")) (by decide +kernel))
  · exact va_AO.of (hts (.arrayOver (.object RX2)) (by decide +kernel))
  · exact va_AO.of (hts (.arrayOver (.object RX1)) (by decide +kernel))
  · exact va_Nw.of rfl (hts _ (kcas_in q hq))
  · exact va_Nw.of rfl (hts _ (knst_in q hq))
  · exact va_Nc.of (hs _ (kncs_in q hq))
  · exact va_Nw.of rfl (hts _ (kdcl_in q hq))
