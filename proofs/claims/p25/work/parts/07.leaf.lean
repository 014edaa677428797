set_option maxHeartbeats 4000000 in
set_option maxRecDepth 100000 in
theorem c_X2_init {l : Launch} (htr : l.stackTraces = false) {E : kE} {A : Nat → Prop} {C : kC} {L : kL} {t : kT} {a b c d : Int32} (h : C t = some (.inr (3, [.int a, .int b, .int c, .int d]))) : kM l yX2_init cX2_init 1 none 1 12 0 0 E A C L [.ref (L t)] (fun v C' L' => v = none ∧ L = L' ∧ C' = kup C t (some (.inr (3, [.int (nI 0), .int (nI 0), .int (nI 0), .int (nI 0)])))) := by
  refine kM.of htr (by decide) (Nat.le_of_ble_eq_true rfl) (fun Γ hl hR hN hnm X hE => ?_)
  refine k_lo (lo' := [(0, .ref (L t))]) ⟨rfl, trivial⟩ ?_
  refine k_aload_n X dX2_init_0 rfl rfl ?_
  refine k_objInit X kb_101 kb_8 kb_9 (by rw [hR]; exact Nat.le_of_ble_eq_true rfl) (by rw [hR]; exact Nat.le_of_ble_eq_true rfl) dX2_init_1 ?_
  refine k_aload_n X dX2_init_4 rfl rfl ?_
  refine k_iconst (v := (nI 0)) X dX2_init_5 (by decide) ?_
  refine k_put1 X h (fs9 := [.int (nI 0), .int b, .int c, .int d]) (q := (RX2, TX2, 4)) rfl inlX2 tyX2 tyX2_ok nmX2 0 (by decide) kb_102 (Or.inl rfl) (Or.inl rfl) rfl rfl rfl (Nat.le_of_ble_eq_true rfl) rfl dX2_init_6 ?_
  refine k_aload_n X dX2_init_9 rfl rfl ?_
  refine k_iconst (v := (nI 0)) X dX2_init_10 (by decide) ?_
  refine k_putS X (fs9 := [.int (nI 0), .int (nI 0), .int c, .int d]) (q := (RX2, TX2, 4)) rfl inlX2 tyX2 tyX2_ok nmX2 1 (by decide) kb_103 (Or.inl rfl) (Or.inl rfl) rfl rfl rfl (Nat.le_of_ble_eq_true rfl) rfl dX2_init_11 ?_
  refine k_aload_n X dX2_init_14 rfl rfl ?_
  refine k_iconst (v := (nI 0)) X dX2_init_15 (by decide) ?_
  refine k_putS X (fs9 := [.int (nI 0), .int (nI 0), .int (nI 0), .int d]) (q := (RX2, TX2, 4)) rfl inlX2 tyX2 tyX2_ok nmX2 2 (by decide) kb_104 (Or.inl rfl) (Or.inl rfl) rfl rfl rfl (Nat.le_of_ble_eq_true rfl) rfl dX2_init_16 ?_
  refine k_aload_n X dX2_init_19 rfl rfl ?_
  refine k_iconst (v := (nI 0)) X dX2_init_20 (by decide) ?_
  refine k_putS X (fs9 := [.int (nI 0), .int (nI 0), .int (nI 0), .int (nI 0)]) (q := (RX2, TX2, 4)) rfl inlX2 tyX2 tyX2_ok nmX2 3 (by decide) kb_105 (Or.inl rfl) (Or.inl rfl) rfl rfl rfl (Nat.le_of_ble_eq_true rfl) rfl dX2_init_21 ?_
  exact k_vret X hE dX2_init_24 (by omega) (by omega) ⟨rfl, rfl, rfl⟩

set_option maxHeartbeats 4000000 in
set_option maxRecDepth 100000 in
theorem c_X2_valueOf {l : Launch} (htr : l.stackTraces = false) {E : kE} {A : Nat → Prop} {C : kC} {L : kL} {t : kT} {a b c d : Int32} (f : Int32) (h : C t = some (.inr (3, [.int a, .int b, .int c, .int d]))) : kM l yX2_valueOf cX2_valueOf 2 (some .int) 0 0 0 0 E A C L [.ref (L t), .int f] (fun v C' L' => v = some (.int (if f = nI 0 then a else b)) ∧ L = L' ∧ C = C') := by
  refine kM.of htr (by decide) (Nat.le_of_ble_eq_true rfl) (fun Γ hl hR hN hnm X hE => ?_)
  refine k_lo (lo' := [(0, .ref (L t)), (1, .int f)]) ⟨rfl, rfl, trivial⟩ ?_
  refine k_iload_n X dX2_valueOf_0 rfl rfl ?_
  refine k_if_ne (tgt := 11) X dX2_valueOf_1 (by decide) (fun c1 => ?_) (fun c1 => ?_)
  ·
    refine k_aload_n X dX2_valueOf_11 rfl rfl ?_
    refine k_get0 X h (q := (RX2, TX2, 4)) rfl inlX2 1 (by decide) kb_103 (Or.inl rfl) rfl rfl dX2_valueOf_12 ?_
    exact k_iret X hE dX2_valueOf_15 (by omega) (by omega) ⟨by simp [*, nI_0], rfl, rfl⟩
  ·
    refine k_aload_n X dX2_valueOf_4 rfl rfl ?_
    refine k_get0 X h (q := (RX2, TX2, 4)) rfl inlX2 0 (by decide) kb_102 (Or.inl rfl) rfl rfl dX2_valueOf_5 ?_
    refine k_goto (tgt := 15) X dX2_valueOf_8 (by decide) ?_
    exact k_iret X hE dX2_valueOf_15 (by omega) (by omega) ⟨by simp [*, nI_0], rfl, rfl⟩

set_option maxHeartbeats 4000000 in
set_option maxRecDepth 100000 in
theorem c_X2_versionOf {l : Launch} (htr : l.stackTraces = false) {E : kE} {A : Nat → Prop} {C : kC} {L : kL} {t : kT} {a b c d : Int32} (f : Int32) (h : C t = some (.inr (3, [.int a, .int b, .int c, .int d]))) : kM l yX2_versionOf cX2_versionOf 2 (some .int) 0 0 0 0 E A C L [.ref (L t), .int f] (fun v C' L' => v = some (.int (if f = nI 0 then c else d)) ∧ L = L' ∧ C = C') := by
  refine kM.of htr (by decide) (Nat.le_of_ble_eq_true rfl) (fun Γ hl hR hN hnm X hE => ?_)
  refine k_lo (lo' := [(0, .ref (L t)), (1, .int f)]) ⟨rfl, rfl, trivial⟩ ?_
  refine k_iload_n X dX2_versionOf_0 rfl rfl ?_
  refine k_if_ne (tgt := 11) X dX2_versionOf_1 (by decide) (fun c1 => ?_) (fun c1 => ?_)
  ·
    refine k_aload_n X dX2_versionOf_11 rfl rfl ?_
    refine k_get0 X h (q := (RX2, TX2, 4)) rfl inlX2 3 (by decide) kb_105 (Or.inl rfl) rfl rfl dX2_versionOf_12 ?_
    exact k_iret X hE dX2_versionOf_15 (by omega) (by omega) ⟨by simp [*, nI_0], rfl, rfl⟩
  ·
    refine k_aload_n X dX2_versionOf_4 rfl rfl ?_
    refine k_get0 X h (q := (RX2, TX2, 4)) rfl inlX2 2 (by decide) kb_104 (Or.inl rfl) rfl rfl dX2_versionOf_5 ?_
    refine k_goto (tgt := 15) X dX2_versionOf_8 (by decide) ?_
    exact k_iret X hE dX2_versionOf_15 (by omega) (by omega) ⟨by simp [*, nI_0], rfl, rfl⟩

set_option maxHeartbeats 4000000 in
set_option maxRecDepth 100000 in
theorem c_X2_put {l : Launch} (htr : l.stackTraces = false) {E : kE} {A : Nat → Prop} {C : kC} {L : kL} {t : kT} {a b c d : Int32} (f x : Int32) (h : C t = some (.inr (3, [.int a, .int b, .int c, .int d]))) : kM l yX2_put cX2_put 3 none 0 0 0 0 E A C L [.ref (L t), .int f, .int x] (fun v C' L' => v = none ∧ L = L' ∧ C' = kup C t (some (.inr (3, if f = nI 0 then [.int x, .int b, .int (c + 1), .int d] else [.int a, .int x, .int c, .int (d + 1)])))) := by
  refine kM.of htr (by decide) (Nat.le_of_ble_eq_true rfl) (fun Γ hl hR hN hnm X hE => ?_)
  refine k_lo (lo' := [(0, .ref (L t)), (1, .int f), (2, .int x)]) ⟨rfl, rfl, rfl, trivial⟩ ?_
  refine k_iload_n X dX2_put_0 rfl rfl ?_
  refine k_if_ne (tgt := 22) X dX2_put_1 (by decide) (fun c1 => ?_) (fun c1 => ?_)
  ·
    refine k_aload_n X dX2_put_22 rfl rfl ?_
    refine k_iload_n X dX2_put_23 rfl rfl ?_
    refine k_put1 X h (fs9 := [.int a, .int x, .int c, .int d]) (q := (RX2, TX2, 4)) rfl inlX2 tyX2 tyX2_ok nmX2 1 (by decide) kb_103 (Or.inl rfl) (Or.inl rfl) rfl rfl rfl (Nat.le_of_ble_eq_true rfl) rfl dX2_put_24 ?_
    refine k_aload_n X dX2_put_27 rfl rfl ?_
    refine k_dup X dX2_put_28 rfl ?_
    refine k_get0 X kup_s (q := (RX2, TX2, 4)) rfl inlX2 3 (by decide) kb_105 (Or.inl rfl) rfl rfl dX2_put_29 ?_
    refine k_iconst (v := (nI 1)) X dX2_put_32 (by decide) ?_
    refine k_iadd X dX2_put_33 ?_
    refine k_putS X (fs9 := [.int a, .int x, .int c, .int (d + (nI 1))]) (q := (RX2, TX2, 4)) rfl inlX2 tyX2 tyX2_ok nmX2 3 (by decide) kb_105 (Or.inl rfl) (Or.inl rfl) rfl rfl rfl (Nat.le_of_ble_eq_true rfl) rfl dX2_put_34 ?_
    exact k_vret X hE dX2_put_37 (by omega) (by omega) ⟨rfl, rfl, by simp [*, nI_0]; try rfl⟩
  ·
    refine k_aload_n X dX2_put_4 rfl rfl ?_
    refine k_iload_n X dX2_put_5 rfl rfl ?_
    refine k_put1 X h (fs9 := [.int x, .int b, .int c, .int d]) (q := (RX2, TX2, 4)) rfl inlX2 tyX2 tyX2_ok nmX2 0 (by decide) kb_102 (Or.inl rfl) (Or.inl rfl) rfl rfl rfl (Nat.le_of_ble_eq_true rfl) rfl dX2_put_6 ?_
    refine k_aload_n X dX2_put_9 rfl rfl ?_
    refine k_dup X dX2_put_10 rfl ?_
    refine k_get0 X kup_s (q := (RX2, TX2, 4)) rfl inlX2 2 (by decide) kb_104 (Or.inl rfl) rfl rfl dX2_put_11 ?_
    refine k_iconst (v := (nI 1)) X dX2_put_14 (by decide) ?_
    refine k_iadd X dX2_put_15 ?_
    refine k_putS X (fs9 := [.int x, .int b, .int (c + (nI 1)), .int d]) (q := (RX2, TX2, 4)) rfl inlX2 tyX2 tyX2_ok nmX2 2 (by decide) kb_104 (Or.inl rfl) (Or.inl rfl) rfl rfl rfl (Nat.le_of_ble_eq_true rfl) rfl dX2_put_16 ?_
    refine k_goto (tgt := 37) X dX2_put_19 (by decide) ?_
    exact k_vret X hE dX2_put_37 (by omega) (by omega) ⟨rfl, rfl, by simp [*, nI_0]; try rfl⟩

set_option maxHeartbeats 4000000 in
set_option maxRecDepth 100000 in
theorem c_X2_copyFrom {l : Launch} (htr : l.stackTraces = false) {E : kE} {A : Nat → Prop} {C : kC} {L : kL} {t u : kT} {a b c d a1 b1 c1 d1 : Int32} (hne : t ≠ u) (h : C t = some (.inr (3, [.int a, .int b, .int c, .int d]))) (g : C u = some (.inr (3, [.int a1, .int b1, .int c1, .int d1]))) : kM l yX2_copyFrom cX2_copyFrom 2 none 0 0 0 0 E A C L [.ref (L t), .ref (L u)] (fun v C' L' => v = none ∧ L = L' ∧ C' = kup C t (some (.inr (3, [.int a1, .int b1, .int c1, .int d1])))) := by
  refine kM.of htr (by decide) (Nat.le_of_ble_eq_true rfl) (fun Γ hl hR hN hnm X hE => ?_)
  refine k_lo (lo' := [(0, .ref (L t)), (1, .ref (L u))]) ⟨rfl, rfl, trivial⟩ ?_
  refine k_aload_n X dX2_copyFrom_0 rfl rfl ?_
  refine k_aload_n X dX2_copyFrom_1 rfl rfl ?_
  refine k_get0 X g (q := (RX2, TX2, 4)) rfl inlX2 0 (by decide) kb_102 (Or.inl rfl) rfl rfl dX2_copyFrom_2 ?_
  refine k_put1 X h (fs9 := [.int a1, .int b, .int c, .int d]) (q := (RX2, TX2, 4)) rfl inlX2 tyX2 tyX2_ok nmX2 0 (by decide) kb_102 (Or.inl rfl) (Or.inl rfl) rfl rfl rfl (Nat.le_of_ble_eq_true rfl) rfl dX2_copyFrom_5 ?_
  refine k_aload_n X dX2_copyFrom_8 rfl rfl ?_
  refine k_aload_n X dX2_copyFrom_9 rfl rfl ?_
  refine k_get0 X ((kup_n hne.symm).trans g) (q := (RX2, TX2, 4)) rfl inlX2 1 (by decide) kb_103 (Or.inl rfl) rfl rfl dX2_copyFrom_10 ?_
  refine k_putS X (fs9 := [.int a1, .int b1, .int c, .int d]) (q := (RX2, TX2, 4)) rfl inlX2 tyX2 tyX2_ok nmX2 1 (by decide) kb_103 (Or.inl rfl) (Or.inl rfl) rfl rfl rfl (Nat.le_of_ble_eq_true rfl) rfl dX2_copyFrom_13 ?_
  refine k_aload_n X dX2_copyFrom_16 rfl rfl ?_
  refine k_aload_n X dX2_copyFrom_17 rfl rfl ?_
  refine k_get0 X ((kup_n hne.symm).trans g) (q := (RX2, TX2, 4)) rfl inlX2 2 (by decide) kb_104 (Or.inl rfl) rfl rfl dX2_copyFrom_18 ?_
  refine k_putS X (fs9 := [.int a1, .int b1, .int c1, .int d]) (q := (RX2, TX2, 4)) rfl inlX2 tyX2 tyX2_ok nmX2 2 (by decide) kb_104 (Or.inl rfl) (Or.inl rfl) rfl rfl rfl (Nat.le_of_ble_eq_true rfl) rfl dX2_copyFrom_21 ?_
  refine k_aload_n X dX2_copyFrom_24 rfl rfl ?_
  refine k_aload_n X dX2_copyFrom_25 rfl rfl ?_
  refine k_get0 X ((kup_n hne.symm).trans g) (q := (RX2, TX2, 4)) rfl inlX2 3 (by decide) kb_105 (Or.inl rfl) rfl rfl dX2_copyFrom_26 ?_
  refine k_putS X (fs9 := [.int a1, .int b1, .int c1, .int d1]) (q := (RX2, TX2, 4)) rfl inlX2 tyX2 tyX2_ok nmX2 3 (by decide) kb_105 (Or.inl rfl) (Or.inl rfl) rfl rfl rfl (Nat.le_of_ble_eq_true rfl) rfl dX2_copyFrom_29 ?_
  exact k_vret X hE dX2_copyFrom_32 (by omega) (by omega) ⟨rfl, rfl, rfl⟩

set_option maxHeartbeats 4000000 in
set_option maxRecDepth 100000 in
theorem c_X0_init {l : Launch} (htr : l.stackTraces = false) {E : kE} {A : Nat → Prop} {C : kC} {L : kL} {t : kT} {a b c d e : Int32} (j f x y : Int32) (h : C t = some (.inr (1, [.int a, .int b, .int c, .int d, .int e]))) : kM l yX0_init cX0_init 5 none 1 12 0 0 E A C L [.ref (L t), .int j, .int f, .int x, .int y] (fun v C' L' => v = none ∧ L = L' ∧ C' = kup C t (some (.inr (1, [.int j, .int f, .int x, .int y, .int (-1)])))) := by
  refine kM.of htr (by decide) (Nat.le_of_ble_eq_true rfl) (fun Γ hl hR hN hnm X hE => ?_)
  refine k_lo (lo' := [(0, .ref (L t)), (1, .int j), (2, .int f), (3, .int x), (4, .int y)]) ⟨rfl, rfl, rfl, rfl, rfl, trivial⟩ ?_
  refine k_aload_n X dX0_init_0 rfl rfl ?_
  refine k_objInit X kb_292 kb_8 kb_9 (by rw [hR]; exact Nat.le_of_ble_eq_true rfl) (by rw [hR]; exact Nat.le_of_ble_eq_true rfl) dX0_init_1 ?_
  refine k_aload_n X dX0_init_4 rfl rfl ?_
  refine k_iconst (v := (-1)) X dX0_init_5 (by decide) ?_
  refine k_put1 X h (fs9 := [.int a, .int b, .int c, .int d, .int (-1)]) (q := (RX0, TX0, 5)) rfl inlX0 tyX0 tyX0_ok nmX0 4 (by decide) kb_293 (Or.inl rfl) (Or.inl rfl) rfl rfl rfl (Nat.le_of_ble_eq_true rfl) rfl dX0_init_6 ?_
  refine k_aload_n X dX0_init_9 rfl rfl ?_
  refine k_iload_n X dX0_init_10 rfl rfl ?_
  refine k_putS X (fs9 := [.int j, .int b, .int c, .int d, .int (-1)]) (q := (RX0, TX0, 5)) rfl inlX0 tyX0 tyX0_ok nmX0 0 (by decide) kb_294 (Or.inl rfl) (Or.inr ⟨hnm, rfl⟩) rfl rfl rfl (Nat.le_of_ble_eq_true rfl) rfl dX0_init_11 ?_
  refine k_aload_n X dX0_init_14 rfl rfl ?_
  refine k_iload_n X dX0_init_15 rfl rfl ?_
  refine k_putS X (fs9 := [.int j, .int f, .int c, .int d, .int (-1)]) (q := (RX0, TX0, 5)) rfl inlX0 tyX0 tyX0_ok nmX0 1 (by decide) kb_295 (Or.inl rfl) (Or.inr ⟨hnm, rfl⟩) rfl rfl rfl (Nat.le_of_ble_eq_true rfl) rfl dX0_init_16 ?_
  refine k_aload_n X dX0_init_19 rfl rfl ?_
  refine k_iload_n X dX0_init_20 rfl rfl ?_
  refine k_putS X (fs9 := [.int j, .int f, .int x, .int d, .int (-1)]) (q := (RX0, TX0, 5)) rfl inlX0 tyX0 tyX0_ok nmX0 2 (by decide) kb_296 (Or.inl rfl) (Or.inr ⟨hnm, rfl⟩) rfl rfl rfl (Nat.le_of_ble_eq_true rfl) rfl dX0_init_21 ?_
  refine k_aload_n X dX0_init_24 rfl rfl ?_
  refine k_iload X dX0_init_25 rfl ?_
  refine k_putS X (fs9 := [.int j, .int f, .int x, .int y, .int (-1)]) (q := (RX0, TX0, 5)) rfl inlX0 tyX0 tyX0_ok nmX0 3 (by decide) kb_297 (Or.inl rfl) (Or.inr ⟨hnm, rfl⟩) rfl rfl rfl (Nat.le_of_ble_eq_true rfl) rfl dX0_init_27 ?_
  exact k_vret X hE dX0_init_30 (by omega) (by omega) ⟨rfl, rfl, rfl⟩
