theorem Met.imp {l : Launch} {y : MethodName} {cc : ByteArray} {n : Nat} {ret : Option FieldType} {fr lw mc ms : Nat} {E : kE} {A : Nat → Prop} {C : kC} {L : kL} {av : List Value} {P P' : Option Value → kC → kL → Prop} (h : kM l y cc n ret fr lw mc ms E A C L av P) (hP : ∀ v C' L', P v C' L' → P' v C' L') : kM l y cc n ret fr lw mc ms E A C L av P' := by
  intro p e ha hc hk s m args below hf happ hpre hK
  obtain ⟨k, o, h1, h2, h3, ⟨⟨v, C', L', a1, a2, a3⟩, a4⟩, a5⟩ := h p e ha hc hk s m args below hf happ hpre hK
  exact ⟨k, o, h1, h2, h3, ⟨⟨v, C', L', a1, hP v C' L' a2, a3⟩, a4⟩, a5⟩

theorem c_Ls_size {l : Launch} (htr : l.stackTraces = false) {E : kE} {A : Nat → Prop} {C : kC} {L : kL} {fh fa d n : Nat} {g : Nat → Nat} (h : kLs E C L fh fa d n g) : kM l yJx4a65c_size_8abf5 cJx4a65c_size_8abf5 1 (some .int) 0 0 0 0 E A C L [.ref (L (fh, d, 0))] (fun v C' L' => v = some (.int (nI n)) ∧ L = L' ∧ C = C') := by
  obtain ⟨cap, arr, h1, h2⟩ := h
  exact c_AL_size htr h1
theorem c_Ls_get {l : Launch} (htr : l.stackTraces = false) {E : kE} {A : Nat → Prop} {C : kC} {L : kL} {fh fa d n : Nat} {g : Nat → Nat} (h : kLs E C L fh fa d n g) (i : Nat) (hi : i < n) (hn : n ≤ 1000) : kM l yJx4a65c_get_915e3 cJx4a65c_get_915e3 2 (some (.object "java/lang/Object")) 2 43 0 0 E A C L [.ref (L (fh, d, 0)), .int (nI i)] (fun v C' L' => v = some (.ref (g i)) ∧ L = L' ∧ C = C') := by
  obtain ⟨cap, arr, h1, h2⟩ := h
  rcases h2 with ⟨a1, a2, a3, a4⟩ | ⟨rfl, a2, a3, a4, a5⟩
  · omega
  · exact c_AL_get htr h1 a5 (by omega) (by omega) (kfst_in hi) hi (by omega)
theorem kLs.hd {E : kE} {C : kC} {L : kL} {fh fa d n : Nat} {g : Nat → Nat} (h : kLs E C L fh fa d n g) : ∃ vs, C (fh, d, 0) = some (.inr (0, vs)) := by
  obtain ⟨cap, arr, h1, h2⟩ := h
  exact ⟨_, h1⟩
theorem c_Ls_add {l : Launch} (htr : l.stackTraces = false) {E : kE} {A : Nat → Prop} {C : kC} {L : kL} {fh fa d n ft dt kt ci : Nat} {g : Nat → Nat} {r : vw_C} {vsb : List Value} (h : kLs E C L fh fa d n g) (hn : n ≤ 1000) (h60 : C (60, 0, 0) = none) (hc : vwCl[ci]? = some r) (hcas : (r.1, "java/lang/Object") ∈ kCas) (hb : C (ft, dt, kt) = some (.inr (ci, vsb))) (hf1 : fh ≠ fa) (hf2 : fh ≠ 60) (hf3 : fa ≠ 60) (ht1 : ft ≠ 60) (ht2 : ft ≠ fh) (ht3 : ft ≠ fa)
    (hel : ∀ i, i < n → ∃ (fz dz kz : Nat) (vs : List Value), fz ≠ 60 ∧ fz ≠ fh ∧ L (fz, dz, kz) = g i ∧ C (fz, dz, kz) = some (.inr (ci, vs))) :
    kM l yJx4a65c_add_9ea2d cJx4a65c_add_9ea2d 2 (some .boolean) 6 150 1 (10 + n + n / 2) E A C L [.ref (L (fh, d, 0)), .ref (L (ft, dt, kt))] (fun v C' L' => v = some (.int (nI 1)) ∧ (∀ t, t ≠ (fh, d, 0) → t ≠ (fa, d, 0) → C' t = C t) ∧ (∀ t, t ≠ (fa, d, 0) → L' t = L t) ∧ ∀ g' : Nat → Nat, (∀ j, j < n → g' j = g j) → g' n = L (ft, dt, kt) → kLs E C' L' fh fa d (n + 1) g') := by
  obtain ⟨cap, arr, h1, h2⟩ := h
  refine Met.imp (c_AL_add htr (u := (60, 0, 0)) (ta := (fa, d, 0)) (f := kfst n g) (cap := cap) (arr := arr) (kne1 hf1) (kne1 hf2) (kne1 hf3) (kne1 ht1) (kne1 ht2) (kne1 ht3) h60 hc hcas hb kfst_out hn h1 h2 (fun i hi y hy => ?_)) ?_
  · rw [kfst_in hi] at hy
    obtain ⟨fz, dz, kz, vs, z1, z2, z3, z4⟩ := hel i hi
    exact ⟨(fz, dz, kz), vs, kne1 z1, kne1 z2, z3.trans (Option.some.inj hy), z4⟩
  · rintro v C' L' ⟨q, cap', rfl, rfl, e1, e2, e3, rfl⟩
    refine ⟨rfl, fun t t1 t2 => by rw [kup_n t1, kup_n t2], fun t t2 => kup_n t2, fun g' hg hb' => ?_⟩
    refine ⟨cap', q, kup_s, Or.inr ⟨by rw [kup_s], e1, e2, e3, ?_⟩⟩
    rw [kup_n (kne1 hf1.symm), kup_s, kfst_up hg hb']

abbrev eIO : String := "java/lang/IndexOutOfBoundsException"
abbrev eIA : String := "java/lang/IllegalArgumentException"
abbrev eIS : String := "java/lang/IllegalStateException"
def kin (x lo hi : Int32) : Prop := ¬ x < lo ∧ x ≤ hi
def kix (x : Int32) (n : Nat) : Prop := ¬ x < 0 ∧ x < nI n
theorem kix.ex {x : Int32} {n : Nat} (h : kix x n) (hn : n < 2 ^ 31) : ∃ i : Nat, i < n ∧ x = nI i := by
  rcases pk_ix x hn with q | q | ⟨j, h1, h2⟩
  · exact absurd q h.1
  · exact absurd h.2 (fun z => Int32.lt_irrefl (Int32.lt_of_lt_of_le z q))
  · exact ⟨j, h1, h2⟩
theorem kix.of {i n : Nat} (h : i < n) (hn : n < 2 ^ 31) : kix (nI i) n := ⟨nI_pos (by omega), nI_lt h hn⟩

theorem kth_B1 : ∀ w ∈ (vx_atS RX5 208 "java/lang/IndexOutOfBoundsException" ["java/lang/RuntimeException", "java/lang/Exception"]).filter goodWord, w ∈ wsL_law := fun w h => List.mem_append_right _ h
theorem kth_B2 : ∀ w ∈ (vx_atS RX5 208 "java/lang/IndexOutOfBoundsException" ["java/lang/RuntimeException", "java/lang/Exception"]).filter (fun w => !goodWord w), w ∈ [Cond.castable "java/lang/IndexOutOfBoundsException" "java/lang/IndexOutOfBoundsException", .declares (Bundle.initS "java/lang/RuntimeException"), .declares (Bundle.initS "java/lang/Exception"), .declares (Bundle.initS "java/lang/Throwable")] := by decide +kernel
theorem kth_B3 : ∀ w ∈ Cond.classLink RX5 204 "java/lang/IndexOutOfBoundsException" :: Cond.initialized "java/lang/IndexOutOfBoundsException" :: vx_atS RX5 208 "java/lang/IndexOutOfBoundsException" ["java/lang/RuntimeException", "java/lang/Exception"], vx_ot w = true := by decide +kernel
theorem k_thrB {Γ : kG} {E : kE} {A : Nat → Prop} {cc : ByteArray} {C : kC} {L : kL} {cells slots pc : Nat} {lo : List (Nat × Value)} {rest : List Value} {PX : String → Prop} {mc ms : Nat} (X : kX Γ E A cc RX5) (hT : kThr Γ E A PX C L mc ms) (hPX : PX eIO) {text : String} {is : Nat} (hstr : (is, text) ∈ kStr)
    (d0 : decode cc pc = .ok (.new 204, 3)) (d3 : decode cc (pc + 3) = .ok (.dup, 1)) (d4 : decode cc (pc + 4) = .ok (.ldc is, 2)) (d6 : decode cc (pc + 6) = .ok (.invokespecial 208, 3)) (d9 : decode cc (pc + 9) = .ok (.athrow, 1))
    (hRf : 5 < (kRm Γ).frames) (hRl : (rest.map fun v => v.category).sum + 82 ≤ (kRm Γ).locals) (hRc : cells + 1 ≤ (kRm Γ).cells) (hRs : slots + 6 ≤ (kRm Γ).slots) (hc : cells + 1 ≤ mc) (hs : slots + 6 ≤ ms) : kW Γ E A C L cells slots pc lo rest :=
  k_throw X hT (cls := "java/lang/IndexOutOfBoundsException") (by decide +kernel) kb_172 kb_173 hstr kth_B1 kth_B2 (by simp [kCas]) kth_B3 hPX d0 d3 d4 d6 d9 hRf hRl hRc hRs hc hs

theorem kth_A1 : ∀ w ∈ (vx_atS RX5 131 "java/lang/IllegalArgumentException" ["java/lang/RuntimeException", "java/lang/Exception"]).filter goodWord, w ∈ wsL_law := fun w h => List.mem_append_left _ (List.mem_append_right _ h)
theorem kth_A2 : ∀ w ∈ (vx_atS RX5 131 "java/lang/IllegalArgumentException" ["java/lang/RuntimeException", "java/lang/Exception"]).filter (fun w => !goodWord w), w ∈ [Cond.castable "java/lang/IllegalArgumentException" "java/lang/IllegalArgumentException", .declares (Bundle.initS "java/lang/RuntimeException"), .declares (Bundle.initS "java/lang/Exception"), .declares (Bundle.initS "java/lang/Throwable")] := by decide +kernel
theorem kth_A3 : ∀ w ∈ Cond.classLink RX5 127 "java/lang/IllegalArgumentException" :: Cond.initialized "java/lang/IllegalArgumentException" :: vx_atS RX5 131 "java/lang/IllegalArgumentException" ["java/lang/RuntimeException", "java/lang/Exception"], vx_ot w = true := by decide +kernel
theorem k_thrA {Γ : kG} {E : kE} {A : Nat → Prop} {cc : ByteArray} {C : kC} {L : kL} {cells slots pc : Nat} {lo : List (Nat × Value)} {rest : List Value} {PX : String → Prop} {mc ms : Nat} (X : kX Γ E A cc RX5) (hT : kThr Γ E A PX C L mc ms) (hPX : PX eIA) {text : String} {is : Nat} (hstr : (is, text) ∈ kStr)
    (d0 : decode cc pc = .ok (.new 127, 3)) (d3 : decode cc (pc + 3) = .ok (.dup, 1)) (d4 : decode cc (pc + 4) = .ok (.ldc is, 2)) (d6 : decode cc (pc + 6) = .ok (.invokespecial 131, 3)) (d9 : decode cc (pc + 9) = .ok (.athrow, 1))
    (hRf : 5 < (kRm Γ).frames) (hRl : (rest.map fun v => v.category).sum + 82 ≤ (kRm Γ).locals) (hRc : cells + 1 ≤ (kRm Γ).cells) (hRs : slots + 6 ≤ (kRm Γ).slots) (hc : cells + 1 ≤ mc) (hs : slots + 6 ≤ ms) : kW Γ E A C L cells slots pc lo rest :=
  k_throw X hT (cls := "java/lang/IllegalArgumentException") (by decide +kernel) kb_87 kb_88 hstr kth_A1 kth_A2 (by simp [kCas]) kth_A3 hPX d0 d3 d4 d6 d9 hRf hRl hRc hRs hc hs

theorem kth_S1 : ∀ w ∈ (vx_atS RX5 39 "java/lang/IllegalStateException" ["java/lang/RuntimeException", "java/lang/Exception"]).filter goodWord, w ∈ wsL_law := fun w h => List.mem_append_left _ (List.mem_append_left _ (List.mem_append_right _ h))
theorem kth_S2 : ∀ w ∈ (vx_atS RX5 39 "java/lang/IllegalStateException" ["java/lang/RuntimeException", "java/lang/Exception"]).filter (fun w => !goodWord w), w ∈ [Cond.castable "java/lang/IllegalStateException" "java/lang/IllegalStateException", .declares (Bundle.initS "java/lang/RuntimeException"), .declares (Bundle.initS "java/lang/Exception"), .declares (Bundle.initS "java/lang/Throwable")] := by decide +kernel
theorem kth_S3 : ∀ w ∈ Cond.classLink RX5 35 "java/lang/IllegalStateException" :: Cond.initialized "java/lang/IllegalStateException" :: vx_atS RX5 39 "java/lang/IllegalStateException" ["java/lang/RuntimeException", "java/lang/Exception"], vx_ot w = true := by decide +kernel
theorem k_thrS {Γ : kG} {E : kE} {A : Nat → Prop} {cc : ByteArray} {C : kC} {L : kL} {cells slots pc : Nat} {lo : List (Nat × Value)} {rest : List Value} {PX : String → Prop} {mc ms : Nat} (X : kX Γ E A cc RX5) (hT : kThr Γ E A PX C L mc ms) (hPX : PX eIS) {text : String} {is : Nat} (hstr : (is, text) ∈ kStr)
    (d0 : decode cc pc = .ok (.new 35, 3)) (d3 : decode cc (pc + 3) = .ok (.dup, 1)) (d4 : decode cc (pc + 4) = .ok (.ldc is, 2)) (d6 : decode cc (pc + 6) = .ok (.invokespecial 39, 3)) (d9 : decode cc (pc + 9) = .ok (.athrow, 1))
    (hRf : 5 < (kRm Γ).frames) (hRl : (rest.map fun v => v.category).sum + 82 ≤ (kRm Γ).locals) (hRc : cells + 1 ≤ (kRm Γ).cells) (hRs : slots + 6 ≤ (kRm Γ).slots) (hc : cells + 1 ≤ mc) (hs : slots + 6 ≤ ms) : kW Γ E A C L cells slots pc lo rest :=
  k_throw X hT (cls := "java/lang/IllegalStateException") (by decide +kernel) kb_79 kb_80 hstr kth_S1 kth_S2 (by simp [kCas]) kth_S3 hPX d0 d3 d4 d6 d9 hRf hRl hRc hRs hc hs

set_option maxHeartbeats 4000000 in
set_option maxRecDepth 100000 in
theorem c_checkRange {l : Launch} (htr : l.stackTraces = false) {E : kE} {A : Nat → Prop} {C : kC} {L : kL} (x lo9 hi9 : Int32) : kMX l yX5_checkRange cX5_checkRange 3 none 6 82 1 6 E A C L [.int x, .int lo9, .int hi9] (fun v C' L' => kin x lo9 hi9 ∧ v = none ∧ L = L' ∧ C = C') (fun X9 => X9 = eIA ∧ ¬ kin x lo9 hi9) := by
  refine kMX.of htr (by decide) (Nat.le_of_ble_eq_true rfl) (fun Γ hl hR hN X hE hT => ?_)
  refine k_lo (lo' := [(0, .int x), (1, .int lo9), (2, .int hi9)]) ⟨rfl, rfl, rfl, trivial⟩ ?_
  refine k_iload_n X dX5_checkRange_0 rfl rfl ?_
  refine k_iload_n X dX5_checkRange_1 rfl rfl ?_
  refine k_icmp_lt (tgt := 10) X dX5_checkRange_2 (by decide) (fun c2 => ?_) (fun c2 => ?_)
  ·
    exact k_thrA X hT ⟨rfl, by first | exact fun z => z.1 c2 | exact fun z => c7 z.2⟩ (is := 215) (text := "an argument is out of range") (by simp [kStr]) dX5_checkRange_10 dX5_checkRange_13 dX5_checkRange_14 dX5_checkRange_16 dX5_checkRange_19 (by rw [hR]; exact Nat.lt_of_lt_of_le (by decide : 5 < 6) (Nat.le_of_ble_eq_true rfl)) (by rw [hR]; exact Nat.le_of_ble_eq_true rfl) (by rw [hR]; exact Nat.le_of_ble_eq_true rfl) (by rw [hR]; exact Nat.le_of_ble_eq_true rfl) (by omega) (by omega)
  ·
    refine k_iload_n X dX5_checkRange_5 rfl rfl ?_
    refine k_iload_n X dX5_checkRange_6 rfl rfl ?_
    refine k_icmp_le (tgt := 20) X dX5_checkRange_7 (by decide) (fun c7 => ?_) (fun c7 => ?_)
    ·
      exact k_vret X hE dX5_checkRange_20 (by omega) (by omega) ⟨⟨by assumption, by assumption⟩, rfl, rfl, rfl⟩
    ·
      exact k_thrA X hT ⟨rfl, by first | exact fun z => z.1 c2 | exact fun z => c7 z.2⟩ (is := 215) (text := "an argument is out of range") (by simp [kStr]) dX5_checkRange_10 dX5_checkRange_13 dX5_checkRange_14 dX5_checkRange_16 dX5_checkRange_19 (by rw [hR]; exact Nat.lt_of_lt_of_le (by decide : 5 < 6) (Nat.le_of_ble_eq_true rfl)) (by rw [hR]; exact Nat.le_of_ble_eq_true rfl) (by rw [hR]; exact Nat.le_of_ble_eq_true rfl) (by rw [hR]; exact Nat.le_of_ble_eq_true rfl) (by omega) (by omega)

set_option maxHeartbeats 4000000 in
set_option maxRecDepth 100000 in
theorem c_checkField {l : Launch} (htr : l.stackTraces = false) {E : kE} {A : Nat → Prop} {C : kC} {L : kL} (f : Int32) : kMX l yX5_checkField cX5_checkField 1 none 7 104 1 6 E A C L [.int f] (fun v C' L' => kin f (nI 0) (nI 1) ∧ v = none ∧ L = L' ∧ C = C') (fun X9 => X9 = eIA ∧ ¬ kin f (nI 0) (nI 1)) := by
  refine kMX.of htr (by decide) (Nat.le_of_ble_eq_true rfl) (fun Γ hl hR hN X hE hT => ?_)
  refine k_lo (lo' := [(0, .int f)]) ⟨rfl, trivial⟩ ?_
  refine k_iload_n X dX5_checkField_0 rfl rfl ?_
  refine k_iconst (v := (nI 0)) X dX5_checkField_1 (by decide) ?_
  refine k_iconst (v := (nI 1)) X dX5_checkField_2 (by decide) ?_
  refine k_callSX (rest := []) X hT ks_X5_checkRange kb_84 (c_checkRange X.tr f (nI 0) (nI 1)) (fun _ h => ⟨h, rfl, rfl⟩) rfl rfl (Nat.le_of_ble_eq_true rfl) ⟨by rw [hR]; exact Nat.le_of_ble_eq_true rfl, by rw [hR]; exact Nat.le_of_ble_eq_true rfl⟩ ⟨by rw [hR]; exact Nat.le_of_ble_eq_true rfl, by rw [hR]; exact Nat.le_of_ble_eq_true rfl⟩ ⟨by omega, by omega⟩ dX5_checkField_3 (fun v3 C9 L9 h9 => ?_)
  obtain ⟨hp, rfl, rfl, rfl⟩ := h9
  exact k_vret X hE dX5_checkField_6 (by omega) (by omega) ⟨hp, rfl, rfl, rfl⟩

set_option maxHeartbeats 4000000 in
set_option maxRecDepth 100000 in
theorem c_checkValue {l : Launch} (htr : l.stackTraces = false) {E : kE} {A : Nat → Prop} {C : kC} {L : kL} (f x : Int32) : kMX l yX5_checkValue cX5_checkValue 2 none 8 124 2 12 E A C L [.int f, .int x] (fun v C' L' => (kin f (nI 0) (nI 1) ∧ kin x (nI 0) (if f = nI 0 then nI 2 else nI 10000)) ∧ v = none ∧ L = L' ∧ C = C') (fun X9 => X9 = eIA ∧ ¬ (kin f (nI 0) (nI 1) ∧ kin x (nI 0) (if f = nI 0 then nI 2 else nI 10000))) := by
  refine kMX.of htr (by decide) (Nat.le_of_ble_eq_true rfl) (fun Γ hl hR hN X hE hT => ?_)
  refine k_lo (lo' := [(0, .int f), (1, .int x)]) ⟨rfl, rfl, trivial⟩ ?_
  refine k_iload_n X dX5_checkValue_0 rfl rfl ?_
  refine k_callSX (rest := []) X hT ks_X5_checkField kb_202 (c_checkField X.tr f) (fun _ h => ⟨⟨h.1, fun z => h.2 z.1⟩, rfl, rfl⟩) rfl rfl (Nat.le_of_ble_eq_true rfl) ⟨by rw [hR]; exact Nat.le_of_ble_eq_true rfl, by rw [hR]; exact Nat.le_of_ble_eq_true rfl⟩ ⟨by rw [hR]; exact Nat.le_of_ble_eq_true rfl, by rw [hR]; exact Nat.le_of_ble_eq_true rfl⟩ ⟨by omega, by omega⟩ dX5_checkValue_1 (fun v1 C9 L9 h9 => ?_)
  obtain ⟨hp, rfl, rfl, rfl⟩ := h9
  refine k_iload_n X dX5_checkValue_4 rfl rfl ?_
  refine k_iconst (v := (nI 0)) X dX5_checkValue_5 (by decide) ?_
  refine k_iload_n X dX5_checkValue_6 rfl rfl ?_
  refine k_if_ne (tgt := 14) X dX5_checkValue_7 (by decide) (fun c7 => ?_) (fun c7 => ?_)
  ·
    refine k_sipush (v := (nI 10000)) X dX5_checkValue_14 (by decide) ?_
    refine k_callSX (rest := []) X hT ks_X5_checkRange kb_84 (c_checkRange X.tr x (nI 0) (nI 10000)) (fun _ h => ⟨⟨h.1, fun z => h.2 (by have := z.2; simp_all [nI_0])⟩, rfl, rfl⟩) rfl rfl (Nat.le_of_ble_eq_true rfl) ⟨by rw [hR]; exact Nat.le_of_ble_eq_true rfl, by rw [hR]; exact Nat.le_of_ble_eq_true rfl⟩ ⟨by rw [hR]; exact Nat.le_of_ble_eq_true rfl, by rw [hR]; exact Nat.le_of_ble_eq_true rfl⟩ ⟨by omega, by omega⟩ dX5_checkValue_17 (fun v17 C9 L9 h9 => ?_)
    obtain ⟨hq, rfl, rfl, rfl⟩ := h9
    exact k_vret X hE dX5_checkValue_20 (by omega) (by omega) ⟨⟨hp, by simp_all [nI_0]⟩, rfl, rfl, rfl⟩
  ·
    refine k_iconst (v := (nI 2)) X dX5_checkValue_10 (by decide) ?_
    refine k_goto (tgt := 17) X dX5_checkValue_11 (by decide) ?_
    refine k_callSX (rest := []) X hT ks_X5_checkRange kb_84 (c_checkRange X.tr x (nI 0) (nI 2)) (fun _ h => ⟨⟨h.1, fun z => h.2 (by have := z.2; simp_all [nI_0])⟩, rfl, rfl⟩) rfl rfl (Nat.le_of_ble_eq_true rfl) ⟨by rw [hR]; exact Nat.le_of_ble_eq_true rfl, by rw [hR]; exact Nat.le_of_ble_eq_true rfl⟩ ⟨by rw [hR]; exact Nat.le_of_ble_eq_true rfl, by rw [hR]; exact Nat.le_of_ble_eq_true rfl⟩ ⟨by omega, by omega⟩ dX5_checkValue_17 (fun v17 C9 L9 h9 => ?_)
    obtain ⟨hq, rfl, rfl, rfl⟩ := h9
    exact k_vret X hE dX5_checkValue_20 (by omega) (by omega) ⟨⟨hp, by simp_all [nI_0]⟩, rfl, rfl, rfl⟩

set_option maxHeartbeats 4000000 in
set_option maxRecDepth 100000 in
theorem c_isStep {l : Launch} (htr : l.stackTraces = false) {E : kE} {A : Nat → Prop} {C : kC} {L : kL} (x y : Int32) : kM l yX5_isStep cX5_isStep 2 (some .boolean) 0 0 0 0 E A C L [.int x, .int y] (fun v C' L' => v = some (.int (if (x = nI 0 ∧ y = nI 1) ∨ (x = nI 1 ∧ y = nI 2) then nI 1 else nI 0)) ∧ L = L' ∧ C = C') := by
  refine kM.of htr (by decide) (Nat.le_of_ble_eq_true rfl) (fun Γ hl hR hN hnm X hE => ?_)
  refine k_lo (lo' := [(0, .int x), (1, .int y)]) ⟨rfl, rfl, trivial⟩ ?_
  refine k_iload_n X dX5_isStep_0 rfl rfl ?_
  refine k_if_ne (tgt := 9) X dX5_isStep_1 (by decide) (fun c1 => ?_) (fun c1 => ?_)
  ·
    refine k_iload_n X dX5_isStep_9 rfl rfl ?_
    refine k_iconst (v := (nI 1)) X dX5_isStep_10 (by decide) ?_
    refine k_icmp_ne (tgt := 23) X dX5_isStep_11 (by decide) (fun c11 => ?_) (fun c11 => ?_)
    ·
      refine k_iconst (v := (nI 0)) X dX5_isStep_23 (by decide) ?_
      exact k_zret X hE kz0 dX5_isStep_24 (by omega) (by omega) ⟨by simp_all [nI_0], rfl, rfl⟩
    ·
      refine k_iload_n X dX5_isStep_14 rfl rfl ?_
      refine k_iconst (v := (nI 2)) X dX5_isStep_15 (by decide) ?_
      refine k_icmp_ne (tgt := 23) X dX5_isStep_16 (by decide) (fun c16 => ?_) (fun c16 => ?_)
      ·
        refine k_iconst (v := (nI 0)) X dX5_isStep_23 (by decide) ?_
        exact k_zret X hE kz0 dX5_isStep_24 (by omega) (by omega) ⟨by simp_all [nI_0], rfl, rfl⟩
      ·
        refine k_iconst (v := (nI 1)) X dX5_isStep_19 (by decide) ?_
        refine k_goto (tgt := 24) X dX5_isStep_20 (by decide) ?_
        exact k_zret X hE kz1 dX5_isStep_24 (by omega) (by omega) ⟨by simp_all [nI_0], rfl, rfl⟩
  ·
    refine k_iload_n X dX5_isStep_4 rfl rfl ?_
    refine k_iconst (v := (nI 1)) X dX5_isStep_5 (by decide) ?_
    refine k_icmp_eq (tgt := 19) X dX5_isStep_6 (by decide) (fun c6 => ?_) (fun c6 => ?_)
    ·
      refine k_iconst (v := (nI 1)) X dX5_isStep_19 (by decide) ?_
      refine k_goto (tgt := 24) X dX5_isStep_20 (by decide) ?_
      exact k_zret X hE kz1 dX5_isStep_24 (by omega) (by omega) ⟨by simp_all [nI_0], rfl, rfl⟩
    ·
      refine k_iload_n X dX5_isStep_9 rfl rfl ?_
      refine k_iconst (v := (nI 1)) X dX5_isStep_10 (by decide) ?_
      refine k_icmp_ne (tgt := 23) X dX5_isStep_11 (by decide) (fun c11 => ?_) (fun c11 => ?_)
      ·
        refine k_iconst (v := (nI 0)) X dX5_isStep_23 (by decide) ?_
        exact k_zret X hE kz0 dX5_isStep_24 (by omega) (by omega) ⟨by simp_all [nI_0], rfl, rfl⟩
      ·
        refine k_iload_n X dX5_isStep_14 rfl rfl ?_
        refine k_iconst (v := (nI 2)) X dX5_isStep_15 (by decide) ?_
        refine k_icmp_ne (tgt := 23) X dX5_isStep_16 (by decide) (fun c16 => ?_) (fun c16 => ?_)
        ·
          refine k_iconst (v := (nI 0)) X dX5_isStep_23 (by decide) ?_
          exact k_zret X hE kz0 dX5_isStep_24 (by omega) (by omega) ⟨by simp_all [nI_0], rfl, rfl⟩
        ·
          refine k_iconst (v := (nI 1)) X dX5_isStep_19 (by decide) ?_
          refine k_goto (tgt := 24) X dX5_isStep_20 (by decide) ?_
          exact k_zret X hE kz1 dX5_isStep_24 (by omega) (by omega) ⟨by simp_all [nI_0], rfl, rfl⟩

set_option maxHeartbeats 4000000 in
set_option maxRecDepth 100000 in
theorem c_jobAt {l : Launch} (htr : l.stackTraces = false) {E : kE} {A : Nat → Prop} {C : kC} {L : kL} {S : kI4} {N : kN3} (hX : isX E C L S N) (hO : okX S N) (job : Int32) : kMX l yX5_jobAt cX5_jobAt 2 (some (.object "FieldStore$Job")) 6 82 1 6 E A C L [.ref (L (1, 0, 0)), .int job] (fun v C' L' => (∃ i, i < N 1 0 0 ∧ job = nI i ∧ v = some (.ref (L (14, i, 0)))) ∧ L = L' ∧ C = C') (fun X9 => X9 = eIO ∧ ¬ kix job (N 1 0 0)) := by
  obtain ⟨vl2, hl2⟩ := hX.1.2.1.hd
  refine kMX.of htr (by decide) (Nat.le_of_ble_eq_true rfl) (fun Γ hl hR hN X hE hT => ?_)
  refine k_lo (lo' := [(0, .ref (L (1, 0, 0))), (1, .int job)]) ⟨rfl, rfl, trivial⟩ ?_
  refine k_iload_n X dX5_jobAt_0 rfl rfl ?_
  refine k_if_lt (tgt := 15) X dX5_jobAt_1 (by decide) (fun c1 => ?_) (fun c1 => ?_)
  ·
    exact k_thrB X hT ⟨rfl, by first | exact fun z => z.1 c1 | exact fun z => c12 z.2⟩ (is := 206) (text := "no such job") (by simp [kStr]) dX5_jobAt_15 dX5_jobAt_18 dX5_jobAt_19 dX5_jobAt_21 dX5_jobAt_24 (by rw [hR]; exact Nat.lt_of_lt_of_le (by decide : 5 < 6) (Nat.le_of_ble_eq_true rfl)) (by rw [hR]; exact Nat.le_of_ble_eq_true rfl) (by rw [hR]; exact Nat.le_of_ble_eq_true rfl) (by rw [hR]; exact Nat.le_of_ble_eq_true rfl) (by omega) (by omega)
  ·
    refine k_iload_n X dX5_jobAt_4 rfl rfl ?_
    refine k_aload_n X dX5_jobAt_5 rfl rfl ?_
    refine k_get0 X hX.1.1.1 (q := (RX5, TX5, 3)) rfl inlX5 0 (by decide) kb_13 (Or.inl rfl) rfl rfl dX5_jobAt_6 ?_
    refine k_callV (rest := [.int job]) X kv_Jx4a65c_size_8abf5 kb_63 (c_Ls_size X.tr hX.1.2.1) hl2 rfl rfl rfl rfl rfl (Nat.le_of_ble_eq_true rfl) ⟨by rw [hR]; exact Nat.le_of_ble_eq_true rfl, by rw [hR]; exact Nat.le_of_ble_eq_true rfl⟩ ⟨by rw [hR]; exact Nat.le_of_ble_eq_true rfl, by rw [hR]; exact Nat.le_of_ble_eq_true rfl⟩ dX5_jobAt_9 (fun v9 C9 L9 h9 => ?_)
    obtain ⟨rfl, rfl, rfl⟩ := h9
    refine k_icmp_lt (tgt := 25) X dX5_jobAt_12 (by decide) (fun c12 => ?_) (fun c12 => ?_)
    ·
      refine k_aload_n X dX5_jobAt_25 rfl rfl ?_
      refine k_get0 X hX.1.1.1 (q := (RX5, TX5, 3)) rfl inlX5 0 (by decide) kb_13 (Or.inl rfl) rfl rfl dX5_jobAt_26 ?_
      refine k_iload_n X dX5_jobAt_29 rfl rfl ?_
      obtain ⟨i, hi, rfl⟩ := kix.ex (x := job) (n := N 1 0 0) ⟨c1, c12⟩ (by have := hO.1; omega)
      refine k_callV (rest := []) X kv_Jx4a65c_get_915e3 kb_175 (c_Ls_get X.tr hX.1.2.1 i hi (by have := hO.1; omega)) hl2 rfl rfl rfl rfl rfl (Nat.le_of_ble_eq_true rfl) ⟨by rw [hR]; exact Nat.le_of_ble_eq_true rfl, by rw [hR]; exact Nat.le_of_ble_eq_true rfl⟩ ⟨by rw [hR]; exact Nat.le_of_ble_eq_true rfl, by rw [hR]; exact Nat.le_of_ble_eq_true rfl⟩ dX5_jobAt_30 (fun v30 C9 L9 h9 => ?_)
      obtain ⟨rfl, rfl, rfl⟩ := h9
      refine k_cast X (hX.1.2.2.2 i hi).1 (r := (RX3, TX3, 3)) rfl rfl kb_81 dX5_jobAt_33 ?_
      exact k_aret X hE (Or.inl ⟨_, rfl⟩) (Or.inr ⟨_, rfl⟩) dX5_jobAt_36 (by omega) (by omega) ⟨⟨i, hi, rfl, rfl⟩, rfl, rfl⟩
    ·
      exact k_thrB X hT ⟨rfl, by first | exact fun z => z.1 c1 | exact fun z => c12 z.2⟩ (is := 206) (text := "no such job") (by simp [kStr]) dX5_jobAt_15 dX5_jobAt_18 dX5_jobAt_19 dX5_jobAt_21 dX5_jobAt_24 (by rw [hR]; exact Nat.lt_of_lt_of_le (by decide : 5 < 6) (Nat.le_of_ble_eq_true rfl)) (by rw [hR]; exact Nat.le_of_ble_eq_true rfl) (by rw [hR]; exact Nat.le_of_ble_eq_true rfl) (by rw [hR]; exact Nat.le_of_ble_eq_true rfl) (by omega) (by omega)

set_option maxHeartbeats 4000000 in
set_option maxRecDepth 100000 in
theorem c_deviceAt {l : Launch} (htr : l.stackTraces = false) {E : kE} {A : Nat → Prop} {C : kC} {L : kL} {S : kI4} {N : kN3} (hX : isX E C L S N) (hO : okX S N) (dv : Int32) : kMX l yX5_deviceAt cX5_deviceAt 2 (some (.object "FieldStore$Device")) 6 82 1 6 E A C L [.ref (L (1, 0, 0)), .int dv] (fun v C' L' => (∃ d, d < 4 ∧ dv = nI d ∧ v = some (.ref (L (5, d, 0)))) ∧ L = L' ∧ C = C') (fun X9 => X9 = eIO ∧ ¬ kix dv 4) := by
  refine kMX.of htr (by decide) (Nat.le_of_ble_eq_true rfl) (fun Γ hl hR hN X hE hT => ?_)
  refine k_lo (lo' := [(0, .ref (L (1, 0, 0))), (1, .int dv)]) ⟨rfl, rfl, trivial⟩ ?_
  refine k_iload_n X dX5_deviceAt_0 rfl rfl ?_
  refine k_if_lt (tgt := 9) X dX5_deviceAt_1 (by decide) (fun c1 => ?_) (fun c1 => ?_)
  ·
    exact k_thrB X hT ⟨rfl, by first | exact fun z => z.1 c1 | exact fun z => c6 z.2⟩ (is := 209) (text := "no such device") (by simp [kStr]) dX5_deviceAt_9 dX5_deviceAt_12 dX5_deviceAt_13 dX5_deviceAt_15 dX5_deviceAt_18 (by rw [hR]; exact Nat.lt_of_lt_of_le (by decide : 5 < 6) (Nat.le_of_ble_eq_true rfl)) (by rw [hR]; exact Nat.le_of_ble_eq_true rfl) (by rw [hR]; exact Nat.le_of_ble_eq_true rfl) (by rw [hR]; exact Nat.le_of_ble_eq_true rfl) (by omega) (by omega)
  ·
    refine k_iload_n X dX5_deviceAt_4 rfl rfl ?_
    refine k_iconst (v := (nI 4)) X dX5_deviceAt_5 (by decide) ?_
    refine k_icmp_lt (tgt := 19) X dX5_deviceAt_6 (by decide) (fun c6 => ?_) (fun c6 => ?_)
    ·
      refine k_aload_n X dX5_deviceAt_19 rfl rfl ?_
      refine k_get0 X hX.1.1.1 (q := (RX5, TX5, 3)) rfl inlX5 1 (by decide) kb_15 (Or.inl rfl) rfl rfl dX5_deviceAt_20 ?_
      refine k_iload_n X dX5_deviceAt_23 rfl rfl ?_
      obtain ⟨d, hd, rfl⟩ := kix.ex (x := dv) (n := 4) ⟨c1, c6⟩ (by decide)
      refine k_aald X hX.1.2.2.1 (nm := RX1) rfl rfl (vp_in_nI hd (by decide)) dX5_deviceAt_24 (v := .ref (L (5, d, 0))) (by rw [nI_clamp (by omega), kfst_in hd]; rfl) ?_
      exact k_aret X hE (Or.inl ⟨_, rfl⟩) (Or.inr ⟨_, rfl⟩) dX5_deviceAt_25 (by omega) (by omega) ⟨⟨d, hd, rfl, rfl⟩, rfl, rfl⟩
    ·
      exact k_thrB X hT ⟨rfl, by first | exact fun z => z.1 c1 | exact fun z => c6 z.2⟩ (is := 209) (text := "no such device") (by simp [kStr]) dX5_deviceAt_9 dX5_deviceAt_12 dX5_deviceAt_13 dX5_deviceAt_15 dX5_deviceAt_18 (by rw [hR]; exact Nat.lt_of_lt_of_le (by decide : 5 < 6) (Nat.le_of_ble_eq_true rfl)) (by rw [hR]; exact Nat.le_of_ble_eq_true rfl) (by rw [hR]; exact Nat.le_of_ble_eq_true rfl) (by rw [hR]; exact Nat.le_of_ble_eq_true rfl) (by omega) (by omega)
