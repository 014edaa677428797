set_option maxHeartbeats 4000000 in
set_option maxRecDepth 100000 in
theorem m_thrown {l : Launch} (htr : l.stackTraces = false) {E : kE} {A : Nat → Prop} {C : kC} {L : kL} {R : Int32} {M : kM2} {Q : kQ2} (h : isM E C L R M Q)  : kM l yX6_thrown cX6_thrown 1 (some .int) 0 0 0 0 E A C L [.ref (L (30, 0, 0))] (fun v C' L' => v = some (.int R) ∧ L = L' ∧ C = C') := by
  refine kM.of htr (by decide) (Nat.le_of_ble_eq_true rfl) (fun Γ hl hR hN hnm X hE => ?_)
  refine k_lo (lo' := [(0, .ref (L (30, 0, 0)))]) ⟨rfl, trivial⟩ ?_
  refine k_aload_n X dX6_thrown_0 rfl rfl ?_
  refine k_get0 X h.1 (q := (RX6, TX6, 25)) rfl inlX6 0 (by decide) kb_187 (Or.inl rfl) rfl rfl dX6_thrown_1 ?_
  exact k_iret X hE dX6_thrown_4 (by first | omega | exact Nat.le_of_ble_eq_true rfl | (dsimp only; omega)) (by first | omega | exact Nat.le_of_ble_eq_true rfl | (dsimp only; omega)) ⟨rfl, rfl, rfl⟩

set_option maxHeartbeats 4000000 in
set_option maxRecDepth 100000 in
theorem m_refused {l : Launch} (htr : l.stackTraces = false) {E : kE} {A : Nat → Prop} {C : kC} {L : kL} {R : Int32} {M : kM2} {Q : kQ2} (h : isM E C L R M Q) (w b : Int32) (hb : b = if w = 0 then nI 0 else nI 1) : kM l yX6_refused cX6_refused 2 (some .boolean) 0 0 0 0 E A C L [.ref (L (30, 0, 0)), .int w] (fun v C' L' => v = some (.int b) ∧ L = L' ∧ kFm C C' ∧ isM E C' L w M Q) := by
  refine kM.of htr (by decide) (Nat.le_of_ble_eq_true rfl) (fun Γ hl hR hN hnm X hE => ?_)
  refine k_lo (lo' := [(0, .ref (L (30, 0, 0))), (1, .int w)]) ⟨rfl, rfl, trivial⟩ ?_
  refine k_aload_n X dX6_refused_0 rfl rfl ?_
  refine k_iload_n X dX6_refused_1 rfl rfl ?_
  refine k_put1 X h.1 (fs9 := [.int w, .int (nI (Q 1 0)), .ref (L (32, 0, 0)), .ref (L (33, 0, 0)), .ref (L (34, 0, 0)), .ref (L (35, 0, 0)), .ref (L (36, 0, 0)), .ref (L (37, 0, 0)), .ref (L (38, 0, 0)), .ref (L (39, 0, 0)), .ref (L (40, 0, 0)), .ref (L (41, 0, 0)), .ref (L (42, 0, 0)), .ref (L (43, 0, 0)), .int (nI (Q 14 0)), .ref (L (45, 0, 0)), .ref (L (46, 0, 0)), .ref (L (47, 0, 0)), .ref (L (48, 0, 0)), .ref (L (49, 0, 0)), .ref (L (50, 0, 0)), .int (nI (Q 21 0)), .ref (L (52, 0, 0)), .ref (L (53, 0, 0)), .int (M 24 0)]) (q := (RX6, TX6, 25)) rfl inlX6 tyX6 tyX6_ok nmX6 0 (by decide) kb_187 (Or.inl rfl) (Or.inl rfl) rfl rfl rfl (Nat.le_of_ble_eq_true rfl) rfl dX6_refused_2 ?_
  refine k_abs (fun C' => isM E C' L w M Q ∧ kFm C C') ⟨isM.obj (R' := w) (M' := M) (Q' := Q) h (fun _ _ => rfl) (fun _ _ _ _ => rfl), kFm.up kFm.rf (by decide)⟩ (fun C1 g1 => ?_)
  obtain ⟨h1, f1⟩ := g1
  refine k_iload_n X dX6_refused_5 rfl rfl ?_
  refine k_if_eq (tgt := 13) X dX6_refused_6 (by decide) (fun c6 => ?_) (fun c6 => ?_)
  ·
    refine k_iconst (v := (nI 0)) X dX6_refused_13 (by decide) ?_
    exact k_zret X hE kz0 dX6_refused_14 (by first | omega | exact Nat.le_of_ble_eq_true rfl | (dsimp only; omega)) (by first | omega | exact Nat.le_of_ble_eq_true rfl | (dsimp only; omega)) ⟨by rw [hb, if_pos c6], rfl, f1, h1⟩
  ·
    refine k_iconst (v := (nI 1)) X dX6_refused_9 (by decide) ?_
    refine k_goto (tgt := 14) X dX6_refused_10 (by decide) ?_
    exact k_zret X hE kz1 dX6_refused_14 (by first | omega | exact Nat.le_of_ble_eq_true rfl | (dsimp only; omega)) (by first | omega | exact Nat.le_of_ble_eq_true rfl | (dsimp only; omega)) ⟨by rw [hb, if_neg c6], rfl, f1, h1⟩

set_option maxHeartbeats 4000000 in
set_option maxRecDepth 100000 in
theorem m_fine {l : Launch} (htr : l.stackTraces = false) {E : kE} {A : Nat → Prop} {C : kC} {L : kL} {R : Int32} {M : kM2} {Q : kQ2} (h : isM E C L R M Q) (w : Int32) : kM l yX6_fine cX6_fine 2 (some .int) 0 0 0 0 E A C L [.ref (L (30, 0, 0)), .int w] (fun v C' L' => v = some (.int w) ∧ L = L' ∧ kFm C C' ∧ isM E C' L (nI 0) M Q) := by
  refine kM.of htr (by decide) (Nat.le_of_ble_eq_true rfl) (fun Γ hl hR hN hnm X hE => ?_)
  refine k_lo (lo' := [(0, .ref (L (30, 0, 0))), (1, .int w)]) ⟨rfl, rfl, trivial⟩ ?_
  refine k_aload_n X dX6_fine_0 rfl rfl ?_
  refine k_iconst (v := (nI 0)) X dX6_fine_1 (by decide) ?_
  refine k_put1 X h.1 (fs9 := [.int (nI 0), .int (nI (Q 1 0)), .ref (L (32, 0, 0)), .ref (L (33, 0, 0)), .ref (L (34, 0, 0)), .ref (L (35, 0, 0)), .ref (L (36, 0, 0)), .ref (L (37, 0, 0)), .ref (L (38, 0, 0)), .ref (L (39, 0, 0)), .ref (L (40, 0, 0)), .ref (L (41, 0, 0)), .ref (L (42, 0, 0)), .ref (L (43, 0, 0)), .int (nI (Q 14 0)), .ref (L (45, 0, 0)), .ref (L (46, 0, 0)), .ref (L (47, 0, 0)), .ref (L (48, 0, 0)), .ref (L (49, 0, 0)), .ref (L (50, 0, 0)), .int (nI (Q 21 0)), .ref (L (52, 0, 0)), .ref (L (53, 0, 0)), .int (M 24 0)]) (q := (RX6, TX6, 25)) rfl inlX6 tyX6 tyX6_ok nmX6 0 (by decide) kb_187 (Or.inl rfl) (Or.inl rfl) rfl rfl rfl (Nat.le_of_ble_eq_true rfl) rfl dX6_fine_2 ?_
  refine k_abs (fun C' => isM E C' L (nI 0) M Q ∧ kFm C C') ⟨isM.obj (R' := (nI 0)) (M' := M) (Q' := Q) h (fun _ _ => rfl) (fun _ _ _ _ => rfl), kFm.up kFm.rf (by decide)⟩ (fun C1 g1 => ?_)
  obtain ⟨h1, f1⟩ := g1
  refine k_iload_n X dX6_fine_5 rfl rfl ?_
  exact k_iret X hE dX6_fine_6 (by first | omega | exact Nat.le_of_ble_eq_true rfl | (dsimp only; omega)) (by first | omega | exact Nat.le_of_ble_eq_true rfl | (dsimp only; omega)) ⟨rfl, rfl, f1, h1⟩

set_option maxHeartbeats 4000000 in
set_option maxRecDepth 100000 in
theorem m_in {l : Launch} (htr : l.stackTraces = false) {E : kE} {A : Nat → Prop} {C : kC} {L : kL} (x l9 h9 : Int32) : kM l yX6_in cX6_in 3 (some .boolean) 0 0 0 0 E A C L [.int x, .int l9, .int h9] (fun v C' L' => (((kin x l9 h9) ∧ v = some (.int (nI 1))) ∨ (¬ (kin x l9 h9) ∧ v = some (.int (nI 0)))) ∧ L = L' ∧ C = C') := by
  refine kM.of htr (by decide) (Nat.le_of_ble_eq_true rfl) (fun Γ hl hR hN hnm X hE => ?_)
  refine k_lo (lo' := [(0, .int x), (1, .int l9), (2, .int h9)]) ⟨rfl, rfl, rfl, trivial⟩ ?_
  refine k_iload_n X dX6_in_0 rfl rfl ?_
  refine k_iload_n X dX6_in_1 rfl rfl ?_
  refine k_icmp_lt (tgt := 14) X dX6_in_2 (by decide) (fun c2 => ?_) (fun c2 => ?_)
  ·
    refine k_iconst (v := (nI 0)) X dX6_in_14 (by decide) ?_
    exact k_zret X hE kz0 dX6_in_15 (by first | omega | exact Nat.le_of_ble_eq_true rfl | (dsimp only; omega)) (by first | omega | exact Nat.le_of_ble_eq_true rfl | (dsimp only; omega)) ⟨Or.inr ⟨by first | exact fun z => z.1 c2 | exact fun z => absurd c7 (Int32.not_lt.mpr z.2), rfl⟩, rfl, rfl⟩
  ·
    refine k_iload_n X dX6_in_5 rfl rfl ?_
    refine k_iload_n X dX6_in_6 rfl rfl ?_
    refine k_icmp_gt (tgt := 14) X dX6_in_7 (by decide) (fun c7 => ?_) (fun c7 => ?_)
    ·
      refine k_iconst (v := (nI 0)) X dX6_in_14 (by decide) ?_
      exact k_zret X hE kz0 dX6_in_15 (by first | omega | exact Nat.le_of_ble_eq_true rfl | (dsimp only; omega)) (by first | omega | exact Nat.le_of_ble_eq_true rfl | (dsimp only; omega)) ⟨Or.inr ⟨by first | exact fun z => z.1 c2 | exact fun z => absurd c7 (Int32.not_lt.mpr z.2), rfl⟩, rfl, rfl⟩
    ·
      refine k_iconst (v := (nI 1)) X dX6_in_10 (by decide) ?_
      refine k_goto (tgt := 15) X dX6_in_11 (by decide) ?_
      exact k_zret X hE kz1 dX6_in_15 (by first | omega | exact Nat.le_of_ble_eq_true rfl | (dsimp only; omega)) (by first | omega | exact Nat.le_of_ble_eq_true rfl | (dsimp only; omega)) ⟨Or.inl ⟨⟨c2, Int32.not_lt.mp c7⟩, rfl⟩, rfl, rfl⟩

theorem kin4 {x : Int32} : kin x (nI 0) (nI 3) ↔ kix x 4 := by
  refine ⟨fun h => ?_, fun h => ?_⟩
  · obtain ⟨j, h1, h2, rfl⟩ := h.ex (by decide) (by decide)
    exact kix.of (by omega) (by decide)
  · obtain ⟨j, h1, rfl⟩ := h.ex (by decide)
    exact ⟨nI_pos (by omega), nI_le (by omega) (by decide)⟩
theorem kinN {x : Int32} {n : Nat} (hn : n ≤ 1000) : kin x (nI 0) (nI n - nI 1) ↔ kix x n := by
  cases n with
  | zero =>
    refine ⟨fun h => absurd (Int32.le_trans (Int32.not_lt.mp h.1) h.2) (by decide), fun h => absurd h.2 (fun z => h.1 (by exact z))⟩
  | succ n =>
    rw [pk_sub (by omega), Nat.add_sub_cancel]
    refine ⟨fun h => ?_, fun h => ?_⟩
    · obtain ⟨j, h1, h2, rfl⟩ := h.ex (by decide) (by omega)
      exact kix.of (by omega) (by omega)
    · obtain ⟨j, h1, rfl⟩ := h.ex (by omega)
      exact ⟨nI_pos (by omega), nI_le (by omega) (by omega)⟩
theorem kinF {x : Int32} : kin x (nI 0) (nI 1) ↔ x = nI 0 ∨ x = nI 1 := by
  refine ⟨fun h => ?_, fun h => ?_⟩
  · obtain ⟨j, h1, h2, rfl⟩ := h.ex (by decide) (by decide)
    rcases (show j = 0 ∨ j = 1 by omega) with rfl | rfl
    · exact Or.inl rfl
    · exact Or.inr rfl
  · rcases h with rfl | rfl <;> exact ⟨by decide, by decide⟩

set_option maxHeartbeats 4000000 in
set_option maxRecDepth 100000 in
theorem m_isDevice {l : Launch} (htr : l.stackTraces = false) {E : kE} {A : Nat → Prop} {C : kC} {L : kL} (x : Int32) : kM l yX6_isDevice cX6_isDevice 1 (some .boolean) 1 22 0 0 E A C L [.int x] (fun v C' L' => (((kix x 4) ∧ v = some (.int (nI 1))) ∨ (¬ (kix x 4) ∧ v = some (.int (nI 0)))) ∧ L = L' ∧ C = C') := by
  refine kM.of htr (by decide) (Nat.le_of_ble_eq_true rfl) (fun Γ hl hR hN hnm X hE => ?_)
  refine k_lo (lo' := [(0, .int x)]) ⟨rfl, trivial⟩ ?_
  refine k_iload_n X dX6_isDevice_0 rfl rfl ?_
  refine k_iconst (v := (nI 0)) X dX6_isDevice_1 (by decide) ?_
  refine k_iconst (v := (nI 3)) X dX6_isDevice_2 (by decide) ?_
  refine k_callS (rest := []) X ks_X6_in kb_180 (m_in X.tr x (nI 0) (nI 3)) rfl rfl (Nat.le_of_ble_eq_true rfl) ⟨by rw [hR]; exact Nat.le_of_ble_eq_true rfl, by rw [hR]; exact Nat.le_of_ble_eq_true rfl⟩ ⟨by rw [hR]; exact Nat.le_of_ble_eq_true rfl, by rw [hR]; exact Nat.le_of_ble_eq_true rfl⟩ dX6_isDevice_3 (fun v3 C9 L9 h9 => ?_)
  obtain ⟨(⟨p1, rfl⟩ | ⟨p1, rfl⟩), rfl, rfl⟩ := h9
  ·
    exact k_zret X hE kz1 dX6_isDevice_6 (by first | omega | exact Nat.le_of_ble_eq_true rfl | (dsimp only; omega)) (by first | omega | exact Nat.le_of_ble_eq_true rfl | (dsimp only; omega)) ⟨Or.inl ⟨kin4.mp p1, rfl⟩, rfl, rfl⟩
  ·
    exact k_zret X hE kz0 dX6_isDevice_6 (by first | omega | exact Nat.le_of_ble_eq_true rfl | (dsimp only; omega)) (by first | omega | exact Nat.le_of_ble_eq_true rfl | (dsimp only; omega)) ⟨Or.inr ⟨fun z => p1 (kin4.mpr z), rfl⟩, rfl, rfl⟩

set_option maxHeartbeats 4000000 in
set_option maxRecDepth 100000 in
theorem m_isJob {l : Launch} (htr : l.stackTraces = false) {E : kE} {A : Nat → Prop} {C : kC} {L : kL} {R : Int32} {M : kM2} {Q : kQ2} (h : isM E C L R M Q) (hq : Q 1 0 ≤ 40) (x : Int32) : kM l yX6_isJob cX6_isJob 2 (some .boolean) 1 22 0 0 E A C L [.ref (L (30, 0, 0)), .int x] (fun v C' L' => (((kix x (Q 1 0)) ∧ v = some (.int (nI 1))) ∨ (¬ (kix x (Q 1 0)) ∧ v = some (.int (nI 0)))) ∧ L = L' ∧ C = C') := by
  refine kM.of htr (by decide) (Nat.le_of_ble_eq_true rfl) (fun Γ hl hR hN hnm X hE => ?_)
  refine k_lo (lo' := [(0, .ref (L (30, 0, 0))), (1, .int x)]) ⟨rfl, rfl, trivial⟩ ?_
  refine k_iload_n X dX6_isJob_0 rfl rfl ?_
  refine k_iconst (v := (nI 0)) X dX6_isJob_1 (by decide) ?_
  refine k_aload_n X dX6_isJob_2 rfl rfl ?_
  refine k_get0 X h.1 (q := (RX6, TX6, 25)) rfl inlX6 1 (by decide) kb_176 (Or.inl rfl) rfl rfl dX6_isJob_3 ?_
  refine k_iconst (v := (nI 1)) X dX6_isJob_6 (by decide) ?_
  refine k_isub X dX6_isJob_7 ?_
  refine k_callS (rest := []) X ks_X6_in kb_180 (m_in X.tr x (nI 0) (nI (Q 1 0) - nI 1)) rfl rfl (Nat.le_of_ble_eq_true rfl) ⟨by rw [hR]; exact Nat.le_of_ble_eq_true rfl, by rw [hR]; exact Nat.le_of_ble_eq_true rfl⟩ ⟨by rw [hR]; exact Nat.le_of_ble_eq_true rfl, by rw [hR]; exact Nat.le_of_ble_eq_true rfl⟩ dX6_isJob_8 (fun v8 C9 L9 h9 => ?_)
  obtain ⟨(⟨p1, rfl⟩ | ⟨p1, rfl⟩), rfl, rfl⟩ := h9
  ·
    exact k_zret X hE kz1 dX6_isJob_11 (by first | omega | exact Nat.le_of_ble_eq_true rfl | (dsimp only; omega)) (by first | omega | exact Nat.le_of_ble_eq_true rfl | (dsimp only; omega)) ⟨Or.inl ⟨(kinN (by omega)).mp p1, rfl⟩, rfl, rfl⟩
  ·
    exact k_zret X hE kz0 dX6_isJob_11 (by first | omega | exact Nat.le_of_ble_eq_true rfl | (dsimp only; omega)) (by first | omega | exact Nat.le_of_ble_eq_true rfl | (dsimp only; omega)) ⟨Or.inr ⟨fun z => p1 ((kinN (by omega)).mpr z), rfl⟩, rfl, rfl⟩

set_option maxHeartbeats 4000000 in
set_option maxRecDepth 100000 in
theorem m_isField {l : Launch} (htr : l.stackTraces = false) {E : kE} {A : Nat → Prop} {C : kC} {L : kL} (x : Int32) : kM l yX6_isField cX6_isField 1 (some .boolean) 0 0 0 0 E A C L [.int x] (fun v C' L' => (((kin x (nI 0) (nI 1)) ∧ v = some (.int (nI 1))) ∨ (¬ (kin x (nI 0) (nI 1)) ∧ v = some (.int (nI 0)))) ∧ L = L' ∧ C = C') := by
  refine kM.of htr (by decide) (Nat.le_of_ble_eq_true rfl) (fun Γ hl hR hN hnm X hE => ?_)
  refine k_lo (lo' := [(0, .int x)]) ⟨rfl, trivial⟩ ?_
  refine k_iload_n X dX6_isField_0 rfl rfl ?_
  refine k_if_eq (tgt := 9) X dX6_isField_1 (by decide) (fun c1 => ?_) (fun c1 => ?_)
  ·
    refine k_iconst (v := (nI 1)) X dX6_isField_9 (by decide) ?_
    refine k_goto (tgt := 14) X dX6_isField_10 (by decide) ?_
    exact k_zret X hE kz1 dX6_isField_14 (by first | omega | exact Nat.le_of_ble_eq_true rfl | (dsimp only; omega)) (by first | omega | exact Nat.le_of_ble_eq_true rfl | (dsimp only; omega)) ⟨Or.inl ⟨kinF.mpr (by first | exact Or.inl c1 | exact Or.inr c6), rfl⟩, rfl, rfl⟩
  ·
    refine k_iload_n X dX6_isField_4 rfl rfl ?_
    refine k_iconst (v := (nI 1)) X dX6_isField_5 (by decide) ?_
    refine k_icmp_ne (tgt := 13) X dX6_isField_6 (by decide) (fun c6 => ?_) (fun c6 => ?_)
    ·
      refine k_iconst (v := (nI 0)) X dX6_isField_13 (by decide) ?_
      exact k_zret X hE kz0 dX6_isField_14 (by first | omega | exact Nat.le_of_ble_eq_true rfl | (dsimp only; omega)) (by first | omega | exact Nat.le_of_ble_eq_true rfl | (dsimp only; omega)) ⟨Or.inr ⟨fun z => (kinF.mp z).elim c1 c6, rfl⟩, rfl, rfl⟩
    ·
      refine k_iconst (v := (nI 1)) X dX6_isField_9 (by decide) ?_
      refine k_goto (tgt := 14) X dX6_isField_10 (by decide) ?_
      exact k_zret X hE kz1 dX6_isField_14 (by first | omega | exact Nat.le_of_ble_eq_true rfl | (dsimp only; omega)) (by first | omega | exact Nat.le_of_ble_eq_true rfl | (dsimp only; omega)) ⟨Or.inl ⟨kinF.mpr (by first | exact Or.inl c1 | exact Or.inr c6), rfl⟩, rfl, rfl⟩

set_option maxHeartbeats 4000000 in
set_option maxRecDepth 100000 in
theorem m_isValue {l : Launch} (htr : l.stackTraces = false) {E : kE} {A : Nat → Prop} {C : kC} {L : kL} (f x : Int32) : kM l yX6_isValue cX6_isValue 2 (some .boolean) 1 22 0 0 E A C L [.int f, .int x] (fun v C' L' => (((kin f (nI 0) (nI 1) ∧ kin x (nI 0) (if f = nI 0 then nI 2 else nI 10000)) ∧ v = some (.int (nI 1))) ∨ (¬ (kin f (nI 0) (nI 1) ∧ kin x (nI 0) (if f = nI 0 then nI 2 else nI 10000)) ∧ v = some (.int (nI 0)))) ∧ L = L' ∧ C = C') := by
  refine kM.of htr (by decide) (Nat.le_of_ble_eq_true rfl) (fun Γ hl hR hN hnm X hE => ?_)
  refine k_lo (lo' := [(0, .int f), (1, .int x)]) ⟨rfl, rfl, trivial⟩ ?_
  refine k_iload_n X dX6_isValue_0 rfl rfl ?_
  refine k_callS (rest := []) X ks_X6_isField kb_265 (m_isField X.tr f) rfl rfl (Nat.le_of_ble_eq_true rfl) ⟨by rw [hR]; exact Nat.le_of_ble_eq_true rfl, by rw [hR]; exact Nat.le_of_ble_eq_true rfl⟩ ⟨by rw [hR]; exact Nat.le_of_ble_eq_true rfl, by rw [hR]; exact Nat.le_of_ble_eq_true rfl⟩ dX6_isValue_1 (fun v1 C9 L9 h9 => ?_)
  obtain ⟨(⟨p1, rfl⟩ | ⟨p1, rfl⟩), rfl, rfl⟩ := h9
  ·
    refine k_if_eq (tgt := 30) X dX6_isValue_4 (by decide) (fun c4 => absurd c4 (show ¬ ((nI 1) = 0) by decide)) (fun c4 => ?_)
    refine k_iload_n X dX6_isValue_7 rfl rfl ?_
    refine k_iconst (v := (nI 0)) X dX6_isValue_8 (by decide) ?_
    refine k_iload_n X dX6_isValue_9 rfl rfl ?_
    refine k_if_ne (tgt := 17) X dX6_isValue_10 (by decide) (fun c10 => ?_) (fun c10 => ?_)
    ·
      refine k_sipush (v := (nI 10000)) X dX6_isValue_17 (by decide) ?_
      refine k_callS (rest := []) X ks_X6_in kb_180 (m_in X.tr x (nI 0) (nI 10000)) rfl rfl (Nat.le_of_ble_eq_true rfl) ⟨by rw [hR]; exact Nat.le_of_ble_eq_true rfl, by rw [hR]; exact Nat.le_of_ble_eq_true rfl⟩ ⟨by rw [hR]; exact Nat.le_of_ble_eq_true rfl, by rw [hR]; exact Nat.le_of_ble_eq_true rfl⟩ dX6_isValue_20 (fun v20 C9 L9 h9 => ?_)
      obtain ⟨(⟨q9, rfl⟩ | ⟨q9, rfl⟩), rfl, rfl⟩ := h9
      ·
        refine k_if_eq (tgt := 30) X dX6_isValue_23 (by decide) (fun c23 => absurd c23 (show ¬ ((nI 1) = 0) by decide)) (fun c23 => ?_)
        refine k_iconst (v := (nI 1)) X dX6_isValue_26 (by decide) ?_
        refine k_goto (tgt := 31) X dX6_isValue_27 (by decide) ?_
        exact k_zret X hE kz1 dX6_isValue_31 (by first | omega | exact Nat.le_of_ble_eq_true rfl | (dsimp only; omega)) (by first | omega | exact Nat.le_of_ble_eq_true rfl | (dsimp only; omega)) ⟨Or.inl ⟨⟨p1, by first | (rw [if_pos (show f = nI 0 from c10)]; exact q9) | (rw [if_neg (show ¬ f = nI 0 from c10)]; exact q9)⟩, rfl⟩, rfl, rfl⟩
      ·
        refine k_if_eq (tgt := 30) X dX6_isValue_23 (by decide) (fun c23 => ?_) (fun c23 => absurd (show (nI 0) = 0 by decide) c23)
        refine k_iconst (v := (nI 0)) X dX6_isValue_30 (by decide) ?_
        exact k_zret X hE kz0 dX6_isValue_31 (by first | omega | exact Nat.le_of_ble_eq_true rfl | (dsimp only; omega)) (by first | omega | exact Nat.le_of_ble_eq_true rfl | (dsimp only; omega)) ⟨Or.inr ⟨by first | exact fun z => p1 z.1 | (intro z; have z2 := z.2; rw [if_pos (show f = nI 0 from c10)] at z2; exact q9 z2) | (intro z; have z2 := z.2; rw [if_neg (show ¬ f = nI 0 from c10)] at z2; exact q9 z2), rfl⟩, rfl, rfl⟩
    ·
      refine k_iconst (v := (nI 2)) X dX6_isValue_13 (by decide) ?_
      refine k_goto (tgt := 20) X dX6_isValue_14 (by decide) ?_
      refine k_callS (rest := []) X ks_X6_in kb_180 (m_in X.tr x (nI 0) (nI 2)) rfl rfl (Nat.le_of_ble_eq_true rfl) ⟨by rw [hR]; exact Nat.le_of_ble_eq_true rfl, by rw [hR]; exact Nat.le_of_ble_eq_true rfl⟩ ⟨by rw [hR]; exact Nat.le_of_ble_eq_true rfl, by rw [hR]; exact Nat.le_of_ble_eq_true rfl⟩ dX6_isValue_20 (fun v20 C9 L9 h9 => ?_)
      obtain ⟨(⟨q9, rfl⟩ | ⟨q9, rfl⟩), rfl, rfl⟩ := h9
      ·
        refine k_if_eq (tgt := 30) X dX6_isValue_23 (by decide) (fun c23 => absurd c23 (show ¬ ((nI 1) = 0) by decide)) (fun c23 => ?_)
        refine k_iconst (v := (nI 1)) X dX6_isValue_26 (by decide) ?_
        refine k_goto (tgt := 31) X dX6_isValue_27 (by decide) ?_
        exact k_zret X hE kz1 dX6_isValue_31 (by first | omega | exact Nat.le_of_ble_eq_true rfl | (dsimp only; omega)) (by first | omega | exact Nat.le_of_ble_eq_true rfl | (dsimp only; omega)) ⟨Or.inl ⟨⟨p1, by first | (rw [if_pos (show f = nI 0 from c10)]; exact q9) | (rw [if_neg (show ¬ f = nI 0 from c10)]; exact q9)⟩, rfl⟩, rfl, rfl⟩
      ·
        refine k_if_eq (tgt := 30) X dX6_isValue_23 (by decide) (fun c23 => ?_) (fun c23 => absurd (show (nI 0) = 0 by decide) c23)
        refine k_iconst (v := (nI 0)) X dX6_isValue_30 (by decide) ?_
        exact k_zret X hE kz0 dX6_isValue_31 (by first | omega | exact Nat.le_of_ble_eq_true rfl | (dsimp only; omega)) (by first | omega | exact Nat.le_of_ble_eq_true rfl | (dsimp only; omega)) ⟨Or.inr ⟨by first | exact fun z => p1 z.1 | (intro z; have z2 := z.2; rw [if_pos (show f = nI 0 from c10)] at z2; exact q9 z2) | (intro z; have z2 := z.2; rw [if_neg (show ¬ f = nI 0 from c10)] at z2; exact q9 z2), rfl⟩, rfl, rfl⟩
  ·
    refine k_if_eq (tgt := 30) X dX6_isValue_4 (by decide) (fun c4 => ?_) (fun c4 => absurd (show (nI 0) = 0 by decide) c4)
    refine k_iconst (v := (nI 0)) X dX6_isValue_30 (by decide) ?_
    exact k_zret X hE kz0 dX6_isValue_31 (by first | omega | exact Nat.le_of_ble_eq_true rfl | (dsimp only; omega)) (by first | omega | exact Nat.le_of_ble_eq_true rfl | (dsimp only; omega)) ⟨Or.inr ⟨by first | exact fun z => p1 z.1 | (intro z; have z2 := z.2; rw [if_pos (show f = nI 0 from c10)] at z2; exact q9 z2) | (intro z; have z2 := z.2; rw [if_neg (show ¬ f = nI 0 from c10)] at z2; exact q9 z2), rfl⟩, rfl, rfl⟩

set_option maxHeartbeats 4000000 in
set_option maxRecDepth 100000 in
theorem m_enter {l : Launch} (htr : l.stackTraces = false) {E : kE} {A : Nat → Prop} {C : kC} {L : kL} {R : Int32} {M : kM2} {Q : kQ2} (h : isM E C L R M Q) (hq : Q 1 0 < 40) (cr si : Int32) : kM l yX6_enter cX6_enter 3 (some .int) 0 0 0 0 E A C L [.ref (L (30, 0, 0)), .int cr, .int si] (fun v C' L' => v = some (.int (nI (Q 1 0))) ∧ L = L' ∧ kFm C C' ∧ isM E C' L R (w2 (w2 M 2 (Q 1 0) cr) 3 (Q 1 0) si) (w2 Q 1 0 (Q 1 0 + 1))) := by
  refine kM.of htr (by decide) (Nat.le_of_ble_eq_true rfl) (fun Γ hl hR hN hnm X hE => ?_)
  refine k_lo (lo' := [(0, .ref (L (30, 0, 0))), (1, .int cr), (2, .int si)]) ⟨rfl, rfl, rfl, trivial⟩ ?_
  refine k_aload_n X dX6_enter_0 rfl rfl ?_
  refine k_get0 X h.1 (q := (RX6, TX6, 25)) rfl inlX6 2 (by decide) kb_58 (Or.inl rfl) rfl rfl dX6_enter_1 ?_
  refine k_aload_n X dX6_enter_4 rfl rfl ?_
  refine k_get0 X h.1 (q := (RX6, TX6, 25)) rfl inlX6 1 (by decide) kb_176 (Or.inl rfl) rfl rfl dX6_enter_5 ?_
  refine k_iload_n X dX6_enter_8 rfl rfl ?_
  refine k_mst X h kFm.rf 2 (i := Q 1 0) rfl (by decide) (show Q 1 0 < 40 by omega) dX6_enter_9 (fun C1 h1 f1 => ?_)
  refine k_aload_n X dX6_enter_10 rfl rfl ?_
  refine k_get0 X h1.1 (q := (RX6, TX6, 25)) rfl inlX6 3 (by decide) kb_59 (Or.inl rfl) rfl rfl dX6_enter_11 ?_
  refine k_aload_n X dX6_enter_14 rfl rfl ?_
  refine k_get0 X h1.1 (q := (RX6, TX6, 25)) rfl inlX6 1 (by decide) kb_176 (Or.inl rfl) rfl rfl dX6_enter_15 ?_
  refine k_iload_n X dX6_enter_18 rfl rfl ?_
  refine k_mst X h1 f1 3 (i := Q 1 0) rfl (by decide) (show Q 1 0 < 40 by omega) dX6_enter_19 (fun C2 h2 f2 => ?_)
  refine k_aload_n X dX6_enter_20 rfl rfl ?_
  refine k_dup X dX6_enter_21 rfl ?_
  refine k_get0 X h2.1 (q := (RX6, TX6, 25)) rfl inlX6 1 (by decide) kb_176 (Or.inl rfl) rfl rfl dX6_enter_22 ?_
  refine k_iconst (v := (nI 1)) X dX6_enter_25 (by decide) ?_
  refine k_iaddN X dX6_enter_26 ?_
  refine k_put1 X h2.1 (fs9 := [.int R, .int (nI ((Q 1 0) + 1)), .ref (L (32, 0, 0)), .ref (L (33, 0, 0)), .ref (L (34, 0, 0)), .ref (L (35, 0, 0)), .ref (L (36, 0, 0)), .ref (L (37, 0, 0)), .ref (L (38, 0, 0)), .ref (L (39, 0, 0)), .ref (L (40, 0, 0)), .ref (L (41, 0, 0)), .ref (L (42, 0, 0)), .ref (L (43, 0, 0)), .int (nI (Q 14 0)), .ref (L (45, 0, 0)), .ref (L (46, 0, 0)), .ref (L (47, 0, 0)), .ref (L (48, 0, 0)), .ref (L (49, 0, 0)), .ref (L (50, 0, 0)), .int (nI (Q 21 0)), .ref (L (52, 0, 0)), .ref (L (53, 0, 0)), .int ((w2 (w2 M 2 (Q 1 0) cr) 3 (Q 1 0) si) 24 0)]) (q := (RX6, TX6, 25)) rfl inlX6 tyX6 tyX6_ok nmX6 1 (by decide) kb_176 (Or.inl rfl) (Or.inl rfl) rfl rfl rfl (Nat.le_of_ble_eq_true rfl) rfl dX6_enter_27 ?_
  refine k_abs (fun C' => isM E C' L R (w2 (w2 M 2 (Q 1 0) cr) 3 (Q 1 0) si) (w2 Q 1 0 ((Q 1 0) + 1)) ∧ kFm C C') ⟨isM.obj (R' := R) (M' := (w2 (w2 M 2 (Q 1 0) cr) 3 (Q 1 0) si)) (Q' := (w2 Q 1 0 ((Q 1 0) + 1))) h2 (fun _ _ => rfl) (fun b h1 h2 h3 => w2_row b (by omega)), kFm.up f2 (by decide)⟩ (fun C3 g3 => ?_)
  obtain ⟨h3, f3⟩ := g3
  refine k_aload_n X dX6_enter_30 rfl rfl ?_
  refine k_get0 X h3.1 (q := (RX6, TX6, 25)) rfl inlX6 1 (by decide) kb_176 (Or.inl rfl) rfl rfl dX6_enter_31 ?_
  refine k_rw (y := nI ((Q 1 0) + 1)) (congrArg nI w2_s) ?_
  refine k_iconst (v := (nI 1)) X dX6_enter_34 (by decide) ?_
  refine k_isubN (h := Nat.le_add_left 1 (Q 1 0)) X dX6_enter_35 ?_
  refine k_rw (y := nI (Q 1 0)) (by rw [Nat.add_sub_cancel]) ?_
  exact k_iret X hE dX6_enter_36 (by first | omega | exact Nat.le_of_ble_eq_true rfl | (dsimp only; omega)) (by first | omega | exact Nat.le_of_ble_eq_true rfl | (dsimp only; omega)) ⟨rfl, rfl, f3, h3⟩

set_option maxHeartbeats 4000000 in
set_option maxRecDepth 100000 in
theorem m_lay {l : Launch} (htr : l.stackTraces = false) {E : kE} {A : Nat → Prop} {C : kC} {L : kL} {R : Int32} {M : kM2} {Q : kQ2} (h : isM E C L R M Q) {i f : Nat} (hi : i < 40) (hf : f < 2) (x : Int32) : kM l yX6_lay cX6_lay 4 (some .int) 0 0 0 0 E A C L [.ref (L (30, 0, 0)), .int (nI i), .int (nI f), .int x] (fun v C' L' => v = some (.int (M 5 (2 * i + f) + nI 1)) ∧ L = L' ∧ kFm C C' ∧ isM E C' L R (w2 (w2 M 4 (2 * i + f) x) 5 (2 * i + f) (M 5 (2 * i + f) + nI 1)) Q) := by
  refine kM.of htr (by decide) (Nat.le_of_ble_eq_true rfl) (fun Γ hl hR hN hnm X hE => ?_)
  refine k_lo (lo' := [(0, .ref (L (30, 0, 0))), (1, .int (nI i)), (2, .int (nI f)), (3, .int x)]) ⟨rfl, rfl, rfl, rfl, trivial⟩ ?_
  refine k_aload_n X dX6_lay_0 rfl rfl ?_
  refine k_get0 X h.1 (q := (RX6, TX6, 25)) rfl inlX6 4 (by decide) kb_60 (Or.inl rfl) rfl rfl dX6_lay_1 ?_
  refine k_iconst (v := (nI 2)) X dX6_lay_4 (by decide) ?_
  refine k_iload_n X dX6_lay_5 rfl rfl ?_
  refine k_imulN X dX6_lay_6 ?_
  refine k_iload_n X dX6_lay_7 rfl rfl ?_
  refine k_iaddN X dX6_lay_8 ?_
  refine k_iload_n X dX6_lay_9 rfl rfl ?_
  refine k_mst X h kFm.rf 4 (i := (2 * i) + f) rfl (by decide) (show (2 * i) + f < 80 by omega) dX6_lay_10 (fun C1 h1 f1 => ?_)
  refine k_aload_n X dX6_lay_11 rfl rfl ?_
  refine k_get0 X h1.1 (q := (RX6, TX6, 25)) rfl inlX6 5 (by decide) kb_61 (Or.inl rfl) rfl rfl dX6_lay_12 ?_
  refine k_iconst (v := (nI 2)) X dX6_lay_15 (by decide) ?_
  refine k_iload_n X dX6_lay_16 rfl rfl ?_
  refine k_imulN X dX6_lay_17 ?_
  refine k_iload_n X dX6_lay_18 rfl rfl ?_
  refine k_iaddN X dX6_lay_19 ?_
  refine k_dup2 X dX6_lay_20 rfl rfl ?_
  refine k_mld X h1 5 (i := (2 * i) + f) rfl (by decide) (show (2 * i) + f < 80 by omega) dX6_lay_21 ?_
  refine k_rw (y := (M 5 ((2 * i) + f))) (w2_a (by decide)) ?_
  refine k_iconst (v := (nI 1)) X dX6_lay_22 (by decide) ?_
  refine k_iadd X dX6_lay_23 ?_
  refine k_mst X h1 f1 5 (i := (2 * i) + f) rfl (by decide) (show (2 * i) + f < 80 by omega) dX6_lay_24 (fun C2 h2 f2 => ?_)
  refine k_aload_n X dX6_lay_25 rfl rfl ?_
  refine k_get0 X h2.1 (q := (RX6, TX6, 25)) rfl inlX6 5 (by decide) kb_61 (Or.inl rfl) rfl rfl dX6_lay_26 ?_
  refine k_iconst (v := (nI 2)) X dX6_lay_29 (by decide) ?_
  refine k_iload_n X dX6_lay_30 rfl rfl ?_
  refine k_imulN X dX6_lay_31 ?_
  refine k_iload_n X dX6_lay_32 rfl rfl ?_
  refine k_iaddN X dX6_lay_33 ?_
  refine k_mld X h2 5 (i := (2 * i) + f) rfl (by decide) (show (2 * i) + f < 80 by omega) dX6_lay_34 ?_
  refine k_rw (y := ((M 5 ((2 * i) + f)) + (nI 1))) w2_s ?_
  exact k_iret X hE dX6_lay_35 (by first | omega | exact Nat.le_of_ble_eq_true rfl | (dsimp only; omega)) (by first | omega | exact Nat.le_of_ble_eq_true rfl | (dsimp only; omega)) ⟨rfl, rfl, f2, h2⟩
