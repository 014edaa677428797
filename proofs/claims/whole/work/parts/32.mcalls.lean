set_option maxHeartbeats 4000000 in
set_option maxRecDepth 100000 in
theorem m_noJob {l : Launch} (htr : l.stackTraces = false) {E : kE} {A : Nat → Prop} {C : kC} {L : kL} {R : Int32} {M : kM2} {Q : kQ2} (h : isM E C L R M Q) (hq : Q 1 0 ≤ 40) (job : Int32) : kM l yX6_noJob cX6_noJob 2 (some .boolean) 2 43 0 0 E A C L [.ref (L (30, 0, 0)), .int job] (fun v C' L' => (((kix job (Q 1 0)) ∧ v = some (.int (nI 0)) ∧ isM E C' L (nI 0) M Q) ∨ (¬ (kix job (Q 1 0)) ∧ v = some (.int (nI 1)) ∧ isM E C' L (nI 1) M Q)) ∧ L = L' ∧ kFm C C') := by
  refine kM.of htr (by decide) (Nat.le_of_ble_eq_true rfl) (fun Γ hl hR hN hnm X hE => ?_)
  refine k_lo (lo' := [(0, .ref (L (30, 0, 0))), (1, .int job)]) ⟨rfl, rfl, trivial⟩ ?_
  refine k_aload_n X dX6_noJob_0 rfl rfl ?_
  refine k_aload_n X dX6_noJob_1 rfl rfl ?_
  refine k_iload_n X dX6_noJob_2 rfl rfl ?_
  refine k_callV (rest := [.ref (L (30, 0, 0))]) X kv_X6_isJob kb_232 (m_isJob X.tr h hq job) h.1 rfl rfl rfl rfl rfl (Nat.le_of_ble_eq_true rfl) ⟨by rw [hR]; exact Nat.le_of_ble_eq_true rfl, by rw [hR]; exact Nat.le_of_ble_eq_true rfl⟩ ⟨by rw [hR]; exact Nat.le_of_ble_eq_true rfl, by rw [hR]; exact Nat.le_of_ble_eq_true rfl⟩ dX6_noJob_3 (fun v3 C9 L9 h9 => ?_)
  obtain ⟨(⟨pj, rfl⟩ | ⟨pj, rfl⟩), rfl, rfl⟩ := h9
  ·
    refine k_if_eq (tgt := 13) X dX6_noJob_6 (by decide) (fun c6 => absurd c6 (show ¬ ((nI 1) = 0) by decide)) (fun c6 => ?_)
    refine k_iconst (v := (nI 0)) X dX6_noJob_9 (by decide) ?_
    refine k_goto (tgt := 14) X dX6_noJob_10 (by decide) ?_
    refine k_callV (rest := []) X kv_X6_refused kb_183 (m_refused X.tr h (nI 0) (nI 0) (by decide)) h.1 rfl rfl rfl rfl rfl (Nat.le_of_ble_eq_true rfl) ⟨by rw [hR]; exact Nat.le_of_ble_eq_true rfl, by rw [hR]; exact Nat.le_of_ble_eq_true rfl⟩ ⟨by rw [hR]; exact Nat.le_of_ble_eq_true rfl, by rw [hR]; exact Nat.le_of_ble_eq_true rfl⟩ dX6_noJob_14 (fun v14 C9 L9 h9 => ?_)
    obtain ⟨rfl, rfl, g2, h2⟩ := h9
    have f2 := kFm.tr kFm.rf g2
    exact k_zret X hE kz0 dX6_noJob_17 (by first | omega | exact Nat.le_of_ble_eq_true rfl | (dsimp only; omega)) (by first | omega | exact Nat.le_of_ble_eq_true rfl | (dsimp only; omega)) ⟨Or.inl (⟨pj, rfl, h2⟩), rfl, f2⟩
  ·
    refine k_if_eq (tgt := 13) X dX6_noJob_6 (by decide) (fun c6 => ?_) (fun c6 => absurd (show (nI 0) = 0 by decide) c6)
    refine k_iconst (v := (nI 1)) X dX6_noJob_13 (by decide) ?_
    refine k_callV (rest := []) X kv_X6_refused kb_183 (m_refused X.tr h (nI 1) (nI 1) (by decide)) h.1 rfl rfl rfl rfl rfl (Nat.le_of_ble_eq_true rfl) ⟨by rw [hR]; exact Nat.le_of_ble_eq_true rfl, by rw [hR]; exact Nat.le_of_ble_eq_true rfl⟩ ⟨by rw [hR]; exact Nat.le_of_ble_eq_true rfl, by rw [hR]; exact Nat.le_of_ble_eq_true rfl⟩ dX6_noJob_14 (fun v14 C9 L9 h9 => ?_)
    obtain ⟨rfl, rfl, g3, h3⟩ := h9
    have f3 := kFm.tr kFm.rf g3
    exact k_zret X hE kz1 dX6_noJob_17 (by first | omega | exact Nat.le_of_ble_eq_true rfl | (dsimp only; omega)) (by first | omega | exact Nat.le_of_ble_eq_true rfl | (dsimp only; omega)) ⟨Or.inr (⟨pj, rfl, h3⟩), rfl, f3⟩

set_option maxHeartbeats 4000000 in
set_option maxRecDepth 100000 in
theorem m_noDevice {l : Launch} (htr : l.stackTraces = false) {E : kE} {A : Nat → Prop} {C : kC} {L : kL} {R : Int32} {M : kM2} {Q : kQ2} (h : isM E C L R M Q) (dv : Int32) : kM l yX6_noDevice cX6_noDevice 2 (some .boolean) 2 42 0 0 E A C L [.ref (L (30, 0, 0)), .int dv] (fun v C' L' => (((kix dv 4) ∧ v = some (.int (nI 0)) ∧ isM E C' L (nI 0) M Q) ∨ (¬ (kix dv 4) ∧ v = some (.int (nI 1)) ∧ isM E C' L (nI 1) M Q)) ∧ L = L' ∧ kFm C C') := by
  refine kM.of htr (by decide) (Nat.le_of_ble_eq_true rfl) (fun Γ hl hR hN hnm X hE => ?_)
  refine k_lo (lo' := [(0, .ref (L (30, 0, 0))), (1, .int dv)]) ⟨rfl, rfl, trivial⟩ ?_
  refine k_aload_n X dX6_noDevice_0 rfl rfl ?_
  refine k_iload_n X dX6_noDevice_1 rfl rfl ?_
  refine k_callS (rest := [.ref (L (30, 0, 0))]) X ks_X6_isDevice kb_177 (m_isDevice X.tr dv) rfl rfl (Nat.le_of_ble_eq_true rfl) ⟨by rw [hR]; exact Nat.le_of_ble_eq_true rfl, by rw [hR]; exact Nat.le_of_ble_eq_true rfl⟩ ⟨by rw [hR]; exact Nat.le_of_ble_eq_true rfl, by rw [hR]; exact Nat.le_of_ble_eq_true rfl⟩ dX6_noDevice_2 (fun v2 C9 L9 h9 => ?_)
  obtain ⟨(⟨pd, rfl⟩ | ⟨pd, rfl⟩), rfl, rfl⟩ := h9
  ·
    refine k_if_eq (tgt := 12) X dX6_noDevice_5 (by decide) (fun c5 => absurd c5 (show ¬ ((nI 1) = 0) by decide)) (fun c5 => ?_)
    refine k_iconst (v := (nI 0)) X dX6_noDevice_8 (by decide) ?_
    refine k_goto (tgt := 13) X dX6_noDevice_9 (by decide) ?_
    refine k_callV (rest := []) X kv_X6_refused kb_183 (m_refused X.tr h (nI 0) (nI 0) (by decide)) h.1 rfl rfl rfl rfl rfl (Nat.le_of_ble_eq_true rfl) ⟨by rw [hR]; exact Nat.le_of_ble_eq_true rfl, by rw [hR]; exact Nat.le_of_ble_eq_true rfl⟩ ⟨by rw [hR]; exact Nat.le_of_ble_eq_true rfl, by rw [hR]; exact Nat.le_of_ble_eq_true rfl⟩ dX6_noDevice_13 (fun v13 C9 L9 h9 => ?_)
    obtain ⟨rfl, rfl, g2, h2⟩ := h9
    have f2 := kFm.tr kFm.rf g2
    exact k_zret X hE kz0 dX6_noDevice_16 (by first | omega | exact Nat.le_of_ble_eq_true rfl | (dsimp only; omega)) (by first | omega | exact Nat.le_of_ble_eq_true rfl | (dsimp only; omega)) ⟨Or.inl (⟨pd, rfl, h2⟩), rfl, f2⟩
  ·
    refine k_if_eq (tgt := 12) X dX6_noDevice_5 (by decide) (fun c5 => ?_) (fun c5 => absurd (show (nI 0) = 0 by decide) c5)
    refine k_iconst (v := (nI 1)) X dX6_noDevice_12 (by decide) ?_
    refine k_callV (rest := []) X kv_X6_refused kb_183 (m_refused X.tr h (nI 1) (nI 1) (by decide)) h.1 rfl rfl rfl rfl rfl (Nat.le_of_ble_eq_true rfl) ⟨by rw [hR]; exact Nat.le_of_ble_eq_true rfl, by rw [hR]; exact Nat.le_of_ble_eq_true rfl⟩ ⟨by rw [hR]; exact Nat.le_of_ble_eq_true rfl, by rw [hR]; exact Nat.le_of_ble_eq_true rfl⟩ dX6_noDevice_13 (fun v13 C9 L9 h9 => ?_)
    obtain ⟨rfl, rfl, g3, h3⟩ := h9
    have f3 := kFm.tr kFm.rf g3
    exact k_zret X hE kz1 dX6_noDevice_16 (by first | omega | exact Nat.le_of_ble_eq_true rfl | (dsimp only; omega)) (by first | omega | exact Nat.le_of_ble_eq_true rfl | (dsimp only; omega)) ⟨Or.inr (⟨pd, rfl, h3⟩), rfl, f3⟩

set_option maxHeartbeats 4000000 in
set_option maxRecDepth 100000 in
theorem m_noField {l : Launch} (htr : l.stackTraces = false) {E : kE} {A : Nat → Prop} {C : kC} {L : kL} {R : Int32} {M : kM2} {Q : kQ2} (h : isM E C L R M Q) (hq : Q 1 0 ≤ 40) (job f : Int32) : kM l yX6_noField cX6_noField 3 (some .boolean) 2 43 0 0 E A C L [.ref (L (30, 0, 0)), .int job, .int f] (fun v C' L' => (((kix job (Q 1 0) ∧ kin f (nI 0) (nI 1)) ∧ v = some (.int (nI 0)) ∧ isM E C' L (nI 0) M Q) ∨ (¬ kix job (Q 1 0) ∧ v = some (.int (nI 1)) ∧ isM E C' L (nI 1) M Q) ∨ ((kix job (Q 1 0) ∧ ¬ kin f (nI 0) (nI 1)) ∧ v = some (.int (nI 1)) ∧ isM E C' L (nI 2) M Q)) ∧ L = L' ∧ kFm C C') := by
  refine kM.of htr (by decide) (Nat.le_of_ble_eq_true rfl) (fun Γ hl hR hN hnm X hE => ?_)
  refine k_lo (lo' := [(0, .ref (L (30, 0, 0))), (1, .int job), (2, .int f)]) ⟨rfl, rfl, rfl, trivial⟩ ?_
  refine k_aload_n X dX6_noField_0 rfl rfl ?_
  refine k_aload_n X dX6_noField_1 rfl rfl ?_
  refine k_iload_n X dX6_noField_2 rfl rfl ?_
  refine k_callV (rest := [.ref (L (30, 0, 0))]) X kv_X6_isJob kb_232 (m_isJob X.tr h hq job) h.1 rfl rfl rfl rfl rfl (Nat.le_of_ble_eq_true rfl) ⟨by rw [hR]; exact Nat.le_of_ble_eq_true rfl, by rw [hR]; exact Nat.le_of_ble_eq_true rfl⟩ ⟨by rw [hR]; exact Nat.le_of_ble_eq_true rfl, by rw [hR]; exact Nat.le_of_ble_eq_true rfl⟩ dX6_noField_3 (fun v3 C9 L9 h9 => ?_)
  obtain ⟨(⟨pj, rfl⟩ | ⟨pj, rfl⟩), rfl, rfl⟩ := h9
  ·
    refine k_if_ne (tgt := 13) X dX6_noField_6 (by decide) (fun c6 => ?_) (fun c6 => absurd c6 (show ¬ (nI 1) = 0 by decide))
    refine k_iload_n X dX6_noField_13 rfl rfl ?_
    refine k_callS (rest := [.ref (L (30, 0, 0))]) X ks_X6_isField kb_265 (m_isField X.tr f) rfl rfl (Nat.le_of_ble_eq_true rfl) ⟨by rw [hR]; exact Nat.le_of_ble_eq_true rfl, by rw [hR]; exact Nat.le_of_ble_eq_true rfl⟩ ⟨by rw [hR]; exact Nat.le_of_ble_eq_true rfl, by rw [hR]; exact Nat.le_of_ble_eq_true rfl⟩ dX6_noField_14 (fun v14 C9 L9 h9 => ?_)
    obtain ⟨(⟨pf, rfl⟩ | ⟨pf, rfl⟩), rfl, rfl⟩ := h9
    ·
      refine k_if_eq (tgt := 24) X dX6_noField_17 (by decide) (fun c17 => absurd c17 (show ¬ ((nI 1) = 0) by decide)) (fun c17 => ?_)
      refine k_iconst (v := (nI 0)) X dX6_noField_20 (by decide) ?_
      refine k_goto (tgt := 25) X dX6_noField_21 (by decide) ?_
      refine k_callV (rest := []) X kv_X6_refused kb_183 (m_refused X.tr h (nI 0) (nI 0) (by decide)) h.1 rfl rfl rfl rfl rfl (Nat.le_of_ble_eq_true rfl) ⟨by rw [hR]; exact Nat.le_of_ble_eq_true rfl, by rw [hR]; exact Nat.le_of_ble_eq_true rfl⟩ ⟨by rw [hR]; exact Nat.le_of_ble_eq_true rfl, by rw [hR]; exact Nat.le_of_ble_eq_true rfl⟩ dX6_noField_25 (fun v25 C9 L9 h9 => ?_)
      obtain ⟨rfl, rfl, g3, h3⟩ := h9
      have f3 := kFm.tr kFm.rf g3
      exact k_zret X hE kz0 dX6_noField_28 (by first | omega | exact Nat.le_of_ble_eq_true rfl | (dsimp only; omega)) (by first | omega | exact Nat.le_of_ble_eq_true rfl | (dsimp only; omega)) ⟨Or.inl (⟨⟨pj, pf⟩, rfl, h3⟩), rfl, f3⟩
    ·
      refine k_if_eq (tgt := 24) X dX6_noField_17 (by decide) (fun c17 => ?_) (fun c17 => absurd (show (nI 0) = 0 by decide) c17)
      refine k_iconst (v := (nI 2)) X dX6_noField_24 (by decide) ?_
      refine k_callV (rest := []) X kv_X6_refused kb_183 (m_refused X.tr h (nI 2) (nI 1) (by decide)) h.1 rfl rfl rfl rfl rfl (Nat.le_of_ble_eq_true rfl) ⟨by rw [hR]; exact Nat.le_of_ble_eq_true rfl, by rw [hR]; exact Nat.le_of_ble_eq_true rfl⟩ ⟨by rw [hR]; exact Nat.le_of_ble_eq_true rfl, by rw [hR]; exact Nat.le_of_ble_eq_true rfl⟩ dX6_noField_25 (fun v25 C9 L9 h9 => ?_)
      obtain ⟨rfl, rfl, g4, h4⟩ := h9
      have f4 := kFm.tr kFm.rf g4
      exact k_zret X hE kz1 dX6_noField_28 (by first | omega | exact Nat.le_of_ble_eq_true rfl | (dsimp only; omega)) (by first | omega | exact Nat.le_of_ble_eq_true rfl | (dsimp only; omega)) ⟨Or.inr (Or.inr (⟨⟨pj, pf⟩, rfl, h4⟩)), rfl, f4⟩
  ·
    refine k_if_ne (tgt := 13) X dX6_noField_6 (by decide) (fun c6 => absurd c6 (show ¬ (¬ (nI 0) = 0) by decide)) (fun c6 => ?_)
    refine k_iconst (v := (nI 1)) X dX6_noField_9 (by decide) ?_
    refine k_goto (tgt := 25) X dX6_noField_10 (by decide) ?_
    refine k_callV (rest := []) X kv_X6_refused kb_183 (m_refused X.tr h (nI 1) (nI 1) (by decide)) h.1 rfl rfl rfl rfl rfl (Nat.le_of_ble_eq_true rfl) ⟨by rw [hR]; exact Nat.le_of_ble_eq_true rfl, by rw [hR]; exact Nat.le_of_ble_eq_true rfl⟩ ⟨by rw [hR]; exact Nat.le_of_ble_eq_true rfl, by rw [hR]; exact Nat.le_of_ble_eq_true rfl⟩ dX6_noField_25 (fun v25 C9 L9 h9 => ?_)
    obtain ⟨rfl, rfl, g5, h5⟩ := h9
    have f5 := kFm.tr kFm.rf g5
    exact k_zret X hE kz1 dX6_noField_28 (by first | omega | exact Nat.le_of_ble_eq_true rfl | (dsimp only; omega)) (by first | omega | exact Nat.le_of_ble_eq_true rfl | (dsimp only; omega)) ⟨Or.inr (Or.inl (⟨pj, rfl, h5⟩)), rfl, f5⟩

set_option maxHeartbeats 4000000 in
set_option maxRecDepth 100000 in
theorem m_crew {l : Launch} (htr : l.stackTraces = false) {E : kE} {A : Nat → Prop} {C : kC} {L : kL} {R : Int32} {M : kM2} {Q : kQ2} (h : isM E C L R M Q) (hq : Q 1 0 ≤ 40) (job : Int32) : kM l yX6_crew cX6_crew 2 (some .int) 3 64 0 0 E A C L [.ref (L (30, 0, 0)), .int job] (fun v C' L' => ((∃ i, i < Q 1 0 ∧ job = nI i ∧ v = some (.int (M 2 i)) ∧ isM E C' L (nI 0) M Q) ∨ (¬ kix job (Q 1 0) ∧ v = some (.int (nI 0)) ∧ isM E C' L (nI 1) M Q)) ∧ L = L' ∧ kFm C C') := by
  refine kM.of htr (by decide) (Nat.le_of_ble_eq_true rfl) (fun Γ hl hR hN hnm X hE => ?_)
  refine k_lo (lo' := [(0, .ref (L (30, 0, 0))), (1, .int job)]) ⟨rfl, rfl, trivial⟩ ?_
  refine k_aload_n X dX6_crew_0 rfl rfl ?_
  refine k_iload_n X dX6_crew_1 rfl rfl ?_
  refine k_callV (rest := []) X kv_X6_noJob kb_295 (m_noJob X.tr h hq job) h.1 rfl rfl rfl rfl rfl (Nat.le_of_ble_eq_true rfl) ⟨by rw [hR]; exact Nat.le_of_ble_eq_true rfl, by rw [hR]; exact Nat.le_of_ble_eq_true rfl⟩ ⟨by rw [hR]; exact Nat.le_of_ble_eq_true rfl, by rw [hR]; exact Nat.le_of_ble_eq_true rfl⟩ dX6_crew_2 (fun v2 C9 L9 h9 => ?_)
  obtain ⟨(⟨pj, rfl, h1⟩ | ⟨pj, rfl, h1⟩), rfl, g1⟩ := h9
  ·
    have f1 := kFm.tr kFm.rf g1
    obtain ⟨i, hi, rfl⟩ := pj.ex (by omega)
    refine k_if_eq (tgt := 12) X dX6_crew_5 (by decide) (fun c5 => ?_) (fun c5 => absurd (show (nI 0) = 0 by decide) c5)
    refine k_aload_n X dX6_crew_12 rfl rfl ?_
    refine k_get0 X h1.1 (q := (RX6, TX6, 25)) rfl inlX6 2 (by decide) kb_58 (Or.inl rfl) rfl rfl dX6_crew_13 ?_
    refine k_iload_n X dX6_crew_16 rfl rfl ?_
    refine k_mld X h1 2 (i := i) rfl (by decide) (show i < 40 by omega) dX6_crew_17 ?_
    exact k_iret X hE dX6_crew_18 (by first | omega | exact Nat.le_of_ble_eq_true rfl | (dsimp only; omega)) (by first | omega | exact Nat.le_of_ble_eq_true rfl | (dsimp only; omega)) ⟨Or.inl (⟨i, hi, rfl, rfl, h1⟩), rfl, f1⟩
  ·
    have f1 := kFm.tr kFm.rf g1
    refine k_if_eq (tgt := 12) X dX6_crew_5 (by decide) (fun c5 => absurd c5 (show ¬ ((nI 1) = 0) by decide)) (fun c5 => ?_)
    refine k_iconst (v := (nI 0)) X dX6_crew_8 (by decide) ?_
    refine k_goto (tgt := 18) X dX6_crew_9 (by decide) ?_
    exact k_iret X hE dX6_crew_18 (by first | omega | exact Nat.le_of_ble_eq_true rfl | (dsimp only; omega)) (by first | omega | exact Nat.le_of_ble_eq_true rfl | (dsimp only; omega)) ⟨Or.inr (⟨pj, rfl, h1⟩), rfl, f1⟩

set_option maxHeartbeats 4000000 in
set_option maxRecDepth 100000 in
theorem m_site {l : Launch} (htr : l.stackTraces = false) {E : kE} {A : Nat → Prop} {C : kC} {L : kL} {R : Int32} {M : kM2} {Q : kQ2} (h : isM E C L R M Q) (hq : Q 1 0 ≤ 40) (job : Int32) : kM l yX6_site cX6_site 2 (some .int) 3 64 0 0 E A C L [.ref (L (30, 0, 0)), .int job] (fun v C' L' => ((∃ i, i < Q 1 0 ∧ job = nI i ∧ v = some (.int (M 3 i)) ∧ isM E C' L (nI 0) M Q) ∨ (¬ kix job (Q 1 0) ∧ v = some (.int (nI 0)) ∧ isM E C' L (nI 1) M Q)) ∧ L = L' ∧ kFm C C') := by
  refine kM.of htr (by decide) (Nat.le_of_ble_eq_true rfl) (fun Γ hl hR hN hnm X hE => ?_)
  refine k_lo (lo' := [(0, .ref (L (30, 0, 0))), (1, .int job)]) ⟨rfl, rfl, trivial⟩ ?_
  refine k_aload_n X dX6_site_0 rfl rfl ?_
  refine k_iload_n X dX6_site_1 rfl rfl ?_
  refine k_callV (rest := []) X kv_X6_noJob kb_295 (m_noJob X.tr h hq job) h.1 rfl rfl rfl rfl rfl (Nat.le_of_ble_eq_true rfl) ⟨by rw [hR]; exact Nat.le_of_ble_eq_true rfl, by rw [hR]; exact Nat.le_of_ble_eq_true rfl⟩ ⟨by rw [hR]; exact Nat.le_of_ble_eq_true rfl, by rw [hR]; exact Nat.le_of_ble_eq_true rfl⟩ dX6_site_2 (fun v2 C9 L9 h9 => ?_)
  obtain ⟨(⟨pj, rfl, h1⟩ | ⟨pj, rfl, h1⟩), rfl, g1⟩ := h9
  ·
    have f1 := kFm.tr kFm.rf g1
    obtain ⟨i, hi, rfl⟩ := pj.ex (by omega)
    refine k_if_eq (tgt := 12) X dX6_site_5 (by decide) (fun c5 => ?_) (fun c5 => absurd (show (nI 0) = 0 by decide) c5)
    refine k_aload_n X dX6_site_12 rfl rfl ?_
    refine k_get0 X h1.1 (q := (RX6, TX6, 25)) rfl inlX6 3 (by decide) kb_59 (Or.inl rfl) rfl rfl dX6_site_13 ?_
    refine k_iload_n X dX6_site_16 rfl rfl ?_
    refine k_mld X h1 3 (i := i) rfl (by decide) (show i < 40 by omega) dX6_site_17 ?_
    exact k_iret X hE dX6_site_18 (by first | omega | exact Nat.le_of_ble_eq_true rfl | (dsimp only; omega)) (by first | omega | exact Nat.le_of_ble_eq_true rfl | (dsimp only; omega)) ⟨Or.inl (⟨i, hi, rfl, rfl, h1⟩), rfl, f1⟩
  ·
    have f1 := kFm.tr kFm.rf g1
    refine k_if_eq (tgt := 12) X dX6_site_5 (by decide) (fun c5 => absurd c5 (show ¬ ((nI 1) = 0) by decide)) (fun c5 => ?_)
    refine k_iconst (v := (nI 0)) X dX6_site_8 (by decide) ?_
    refine k_goto (tgt := 18) X dX6_site_9 (by decide) ?_
    exact k_iret X hE dX6_site_18 (by first | omega | exact Nat.le_of_ble_eq_true rfl | (dsimp only; omega)) (by first | omega | exact Nat.le_of_ble_eq_true rfl | (dsimp only; omega)) ⟨Or.inr (⟨pj, rfl, h1⟩), rfl, f1⟩

set_option maxHeartbeats 4000000 in
set_option maxRecDepth 100000 in
theorem m_value {l : Launch} (htr : l.stackTraces = false) {E : kE} {A : Nat → Prop} {C : kC} {L : kL} {R : Int32} {M : kM2} {Q : kQ2} (h : isM E C L R M Q) (hq : Q 1 0 ≤ 40) (job f : Int32) : kM l yX6_value cX6_value 3 (some .int) 3 65 0 0 E A C L [.ref (L (30, 0, 0)), .int job, .int f] (fun v C' L' => ((∃ i f0, i < Q 1 0 ∧ job = nI i ∧ f0 ≤ 1 ∧ f = nI f0 ∧ v = some (.int (M 4 (2 * i + f0))) ∧ isM E C' L (nI 0) M Q) ∨ (¬ kix job (Q 1 0) ∧ v = some (.int (nI 0)) ∧ isM E C' L (nI 1) M Q) ∨ ((kix job (Q 1 0) ∧ ¬ kin f (nI 0) (nI 1)) ∧ v = some (.int (nI 0)) ∧ isM E C' L (nI 2) M Q)) ∧ L = L' ∧ kFm C C') := by
  refine kM.of htr (by decide) (Nat.le_of_ble_eq_true rfl) (fun Γ hl hR hN hnm X hE => ?_)
  refine k_lo (lo' := [(0, .ref (L (30, 0, 0))), (1, .int job), (2, .int f)]) ⟨rfl, rfl, rfl, trivial⟩ ?_
  refine k_aload_n X dX6_value_0 rfl rfl ?_
  refine k_iload_n X dX6_value_1 rfl rfl ?_
  refine k_iload_n X dX6_value_2 rfl rfl ?_
  refine k_callV (rest := []) X kv_X6_noField kb_326 (m_noField X.tr h hq job f) h.1 rfl rfl rfl rfl rfl (Nat.le_of_ble_eq_true rfl) ⟨by rw [hR]; exact Nat.le_of_ble_eq_true rfl, by rw [hR]; exact Nat.le_of_ble_eq_true rfl⟩ ⟨by rw [hR]; exact Nat.le_of_ble_eq_true rfl, by rw [hR]; exact Nat.le_of_ble_eq_true rfl⟩ dX6_value_3 (fun v3 C9 L9 h9 => ?_)
  obtain ⟨(⟨⟨pj, pf⟩, rfl, h1⟩ | ⟨pj, rfl, h1⟩ | ⟨⟨pj, pf⟩, rfl, h1⟩), rfl, g1⟩ := h9
  ·
    have f1 := kFm.tr kFm.rf g1
    obtain ⟨i, hi, rfl⟩ := pj.ex (by omega)
    obtain ⟨f0, hf0a, hf0, rfl⟩ := pf.ex (by decide) (by decide)
    refine k_if_eq (tgt := 13) X dX6_value_6 (by decide) (fun c6 => ?_) (fun c6 => absurd (show (nI 0) = 0 by decide) c6)
    refine k_aload_n X dX6_value_13 rfl rfl ?_
    refine k_get0 X h1.1 (q := (RX6, TX6, 25)) rfl inlX6 4 (by decide) kb_60 (Or.inl rfl) rfl rfl dX6_value_14 ?_
    refine k_iconst (v := (nI 2)) X dX6_value_17 (by decide) ?_
    refine k_iload_n X dX6_value_18 rfl rfl ?_
    refine k_imulN X dX6_value_19 ?_
    refine k_iload_n X dX6_value_20 rfl rfl ?_
    refine k_iaddN X dX6_value_21 ?_
    refine k_mld X h1 4 (i := (2 * i) + f0) rfl (by decide) (show (2 * i) + f0 < 80 by omega) dX6_value_22 ?_
    exact k_iret X hE dX6_value_23 (by first | omega | exact Nat.le_of_ble_eq_true rfl | (dsimp only; omega)) (by first | omega | exact Nat.le_of_ble_eq_true rfl | (dsimp only; omega)) ⟨Or.inl (⟨i, f0, hi, rfl, hf0, rfl, rfl, h1⟩), rfl, f1⟩
  ·
    have f1 := kFm.tr kFm.rf g1
    refine k_if_eq (tgt := 13) X dX6_value_6 (by decide) (fun c6 => absurd c6 (show ¬ ((nI 1) = 0) by decide)) (fun c6 => ?_)
    refine k_iconst (v := (nI 0)) X dX6_value_9 (by decide) ?_
    refine k_goto (tgt := 23) X dX6_value_10 (by decide) ?_
    exact k_iret X hE dX6_value_23 (by first | omega | exact Nat.le_of_ble_eq_true rfl | (dsimp only; omega)) (by first | omega | exact Nat.le_of_ble_eq_true rfl | (dsimp only; omega)) ⟨Or.inr (Or.inl (⟨pj, rfl, h1⟩)), rfl, f1⟩
  ·
    have f1 := kFm.tr kFm.rf g1
    refine k_if_eq (tgt := 13) X dX6_value_6 (by decide) (fun c6 => absurd c6 (show ¬ ((nI 1) = 0) by decide)) (fun c6 => ?_)
    refine k_iconst (v := (nI 0)) X dX6_value_9 (by decide) ?_
    refine k_goto (tgt := 23) X dX6_value_10 (by decide) ?_
    exact k_iret X hE dX6_value_23 (by first | omega | exact Nat.le_of_ble_eq_true rfl | (dsimp only; omega)) (by first | omega | exact Nat.le_of_ble_eq_true rfl | (dsimp only; omega)) ⟨Or.inr (Or.inr (⟨⟨pj, pf⟩, rfl, h1⟩)), rfl, f1⟩

set_option maxHeartbeats 4000000 in
set_option maxRecDepth 100000 in
theorem m_version {l : Launch} (htr : l.stackTraces = false) {E : kE} {A : Nat → Prop} {C : kC} {L : kL} {R : Int32} {M : kM2} {Q : kQ2} (h : isM E C L R M Q) (hq : Q 1 0 ≤ 40) (job f : Int32) : kM l yX6_version cX6_version 3 (some .int) 3 65 0 0 E A C L [.ref (L (30, 0, 0)), .int job, .int f] (fun v C' L' => ((∃ i f0, i < Q 1 0 ∧ job = nI i ∧ f0 ≤ 1 ∧ f = nI f0 ∧ v = some (.int (M 5 (2 * i + f0))) ∧ isM E C' L (nI 0) M Q) ∨ (¬ kix job (Q 1 0) ∧ v = some (.int (nI 0)) ∧ isM E C' L (nI 1) M Q) ∨ ((kix job (Q 1 0) ∧ ¬ kin f (nI 0) (nI 1)) ∧ v = some (.int (nI 0)) ∧ isM E C' L (nI 2) M Q)) ∧ L = L' ∧ kFm C C') := by
  refine kM.of htr (by decide) (Nat.le_of_ble_eq_true rfl) (fun Γ hl hR hN hnm X hE => ?_)
  refine k_lo (lo' := [(0, .ref (L (30, 0, 0))), (1, .int job), (2, .int f)]) ⟨rfl, rfl, rfl, trivial⟩ ?_
  refine k_aload_n X dX6_version_0 rfl rfl ?_
  refine k_iload_n X dX6_version_1 rfl rfl ?_
  refine k_iload_n X dX6_version_2 rfl rfl ?_
  refine k_callV (rest := []) X kv_X6_noField kb_326 (m_noField X.tr h hq job f) h.1 rfl rfl rfl rfl rfl (Nat.le_of_ble_eq_true rfl) ⟨by rw [hR]; exact Nat.le_of_ble_eq_true rfl, by rw [hR]; exact Nat.le_of_ble_eq_true rfl⟩ ⟨by rw [hR]; exact Nat.le_of_ble_eq_true rfl, by rw [hR]; exact Nat.le_of_ble_eq_true rfl⟩ dX6_version_3 (fun v3 C9 L9 h9 => ?_)
  obtain ⟨(⟨⟨pj, pf⟩, rfl, h1⟩ | ⟨pj, rfl, h1⟩ | ⟨⟨pj, pf⟩, rfl, h1⟩), rfl, g1⟩ := h9
  ·
    have f1 := kFm.tr kFm.rf g1
    obtain ⟨i, hi, rfl⟩ := pj.ex (by omega)
    obtain ⟨f0, hf0a, hf0, rfl⟩ := pf.ex (by decide) (by decide)
    refine k_if_eq (tgt := 13) X dX6_version_6 (by decide) (fun c6 => ?_) (fun c6 => absurd (show (nI 0) = 0 by decide) c6)
    refine k_aload_n X dX6_version_13 rfl rfl ?_
    refine k_get0 X h1.1 (q := (RX6, TX6, 25)) rfl inlX6 5 (by decide) kb_61 (Or.inl rfl) rfl rfl dX6_version_14 ?_
    refine k_iconst (v := (nI 2)) X dX6_version_17 (by decide) ?_
    refine k_iload_n X dX6_version_18 rfl rfl ?_
    refine k_imulN X dX6_version_19 ?_
    refine k_iload_n X dX6_version_20 rfl rfl ?_
    refine k_iaddN X dX6_version_21 ?_
    refine k_mld X h1 5 (i := (2 * i) + f0) rfl (by decide) (show (2 * i) + f0 < 80 by omega) dX6_version_22 ?_
    exact k_iret X hE dX6_version_23 (by first | omega | exact Nat.le_of_ble_eq_true rfl | (dsimp only; omega)) (by first | omega | exact Nat.le_of_ble_eq_true rfl | (dsimp only; omega)) ⟨Or.inl (⟨i, f0, hi, rfl, hf0, rfl, rfl, h1⟩), rfl, f1⟩
  ·
    have f1 := kFm.tr kFm.rf g1
    refine k_if_eq (tgt := 13) X dX6_version_6 (by decide) (fun c6 => absurd c6 (show ¬ ((nI 1) = 0) by decide)) (fun c6 => ?_)
    refine k_iconst (v := (nI 0)) X dX6_version_9 (by decide) ?_
    refine k_goto (tgt := 23) X dX6_version_10 (by decide) ?_
    exact k_iret X hE dX6_version_23 (by first | omega | exact Nat.le_of_ble_eq_true rfl | (dsimp only; omega)) (by first | omega | exact Nat.le_of_ble_eq_true rfl | (dsimp only; omega)) ⟨Or.inr (Or.inl (⟨pj, rfl, h1⟩)), rfl, f1⟩
  ·
    have f1 := kFm.tr kFm.rf g1
    refine k_if_eq (tgt := 13) X dX6_version_6 (by decide) (fun c6 => absurd c6 (show ¬ ((nI 1) = 0) by decide)) (fun c6 => ?_)
    refine k_iconst (v := (nI 0)) X dX6_version_9 (by decide) ?_
    refine k_goto (tgt := 23) X dX6_version_10 (by decide) ?_
    exact k_iret X hE dX6_version_23 (by first | omega | exact Nat.le_of_ble_eq_true rfl | (dsimp only; omega)) (by first | omega | exact Nat.le_of_ble_eq_true rfl | (dsimp only; omega)) ⟨Or.inr (Or.inr (⟨⟨pj, pf⟩, rfl, h1⟩)), rfl, f1⟩

set_option maxHeartbeats 4000000 in
set_option maxRecDepth 100000 in
theorem m_jobs {l : Launch} (htr : l.stackTraces = false) {E : kE} {A : Nat → Prop} {C : kC} {L : kL} {R : Int32} {M : kM2} {Q : kQ2} (h : isM E C L R M Q)  : kM l yX6_jobs cX6_jobs 1 (some .int) 1 21 0 0 E A C L [.ref (L (30, 0, 0))] (fun v C' L' => v = some (.int (nI (Q 1 0))) ∧ L = L' ∧ kFm C C' ∧ isM E C' L (nI 0) M Q) := by
  refine kM.of htr (by decide) (Nat.le_of_ble_eq_true rfl) (fun Γ hl hR hN hnm X hE => ?_)
  refine k_lo (lo' := [(0, .ref (L (30, 0, 0)))]) ⟨rfl, trivial⟩ ?_
  refine k_aload_n X dX6_jobs_0 rfl rfl ?_
  refine k_aload_n X dX6_jobs_1 rfl rfl ?_
  refine k_get0 X h.1 (q := (RX6, TX6, 25)) rfl inlX6 1 (by decide) kb_176 (Or.inl rfl) rfl rfl dX6_jobs_2 ?_
  refine k_callV (rest := []) X kv_X6_fine kb_280 (m_fine X.tr h (nI (Q 1 0))) h.1 rfl rfl rfl rfl rfl (Nat.le_of_ble_eq_true rfl) ⟨by rw [hR]; exact Nat.le_of_ble_eq_true rfl, by rw [hR]; exact Nat.le_of_ble_eq_true rfl⟩ ⟨by rw [hR]; exact Nat.le_of_ble_eq_true rfl, by rw [hR]; exact Nat.le_of_ble_eq_true rfl⟩ dX6_jobs_5 (fun v5 C9 L9 h9 => ?_)
  obtain ⟨rfl, rfl, g1, h1⟩ := h9
  have f1 := kFm.tr kFm.rf g1
  exact k_iret X hE dX6_jobs_8 (by first | omega | exact Nat.le_of_ble_eq_true rfl | (dsimp only; omega)) (by first | omega | exact Nat.le_of_ble_eq_true rfl | (dsimp only; omega)) ⟨rfl, rfl, f1, h1⟩

set_option maxHeartbeats 4000000 in
set_option maxRecDepth 100000 in
theorem m_done {l : Launch} (htr : l.stackTraces = false) {E : kE} {A : Nat → Prop} {C : kC} {L : kL} {R : Int32} {M : kM2} {Q : kQ2} (h : isM E C L R M Q)  : kM l yX6_done cX6_done 1 (some .int) 1 21 0 0 E A C L [.ref (L (30, 0, 0))] (fun v C' L' => v = some (.int (M 24 0)) ∧ L = L' ∧ kFm C C' ∧ isM E C' L (nI 0) M Q) := by
  refine kM.of htr (by decide) (Nat.le_of_ble_eq_true rfl) (fun Γ hl hR hN hnm X hE => ?_)
  refine k_lo (lo' := [(0, .ref (L (30, 0, 0)))]) ⟨rfl, trivial⟩ ?_
  refine k_aload_n X dX6_done_0 rfl rfl ?_
  refine k_aload_n X dX6_done_1 rfl rfl ?_
  refine k_get0 X h.1 (q := (RX6, TX6, 25)) rfl inlX6 24 (by decide) kb_600 (Or.inl rfl) rfl rfl dX6_done_2 ?_
  refine k_callV (rest := []) X kv_X6_fine kb_280 (m_fine X.tr h (M 24 0)) h.1 rfl rfl rfl rfl rfl (Nat.le_of_ble_eq_true rfl) ⟨by rw [hR]; exact Nat.le_of_ble_eq_true rfl, by rw [hR]; exact Nat.le_of_ble_eq_true rfl⟩ ⟨by rw [hR]; exact Nat.le_of_ble_eq_true rfl, by rw [hR]; exact Nat.le_of_ble_eq_true rfl⟩ dX6_done_5 (fun v5 C9 L9 h9 => ?_)
  obtain ⟨rfl, rfl, g1, h1⟩ := h9
  have f1 := kFm.tr kFm.rf g1
  exact k_iret X hE dX6_done_8 (by first | omega | exact Nat.le_of_ble_eq_true rfl | (dsimp only; omega)) (by first | omega | exact Nat.le_of_ble_eq_true rfl | (dsimp only; omega)) ⟨rfl, rfl, f1, h1⟩

set_option maxHeartbeats 4000000 in
set_option maxRecDepth 100000 in
theorem m_add {l : Launch} (htr : l.stackTraces = false) {E : kE} {A : Nat → Prop} {C : kC} {L : kL} {R : Int32} {M : kM2} {Q : kQ2} (h : isM E C L R M Q) (hq : Q 1 0 ≤ 40) (cr si : Int32) : kM l yX6_add cX6_add 4 (some .int) 2 42 0 0 E A C L [.ref (L (30, 0, 0)), .int cr, .int si] (fun v C' L' => (((kix cr 4 ∧ kin si (nI 0) (nI 9)) ∧ Q 1 0 < 40 ∧ v = some (.int (nI (Q 1 0))) ∧ isM E C' L (nI 0) (w2 (w2 M 2 (Q 1 0) cr) 3 (Q 1 0) si) (w2 Q 1 0 (Q 1 0 + 1))) ∨ (¬ (kix cr 4 ∧ kin si (nI 0) (nI 9)) ∧ v = some (.int (nI 0)) ∧ isM E C' L (nI 1) M Q) ∨ ((kix cr 4 ∧ kin si (nI 0) (nI 9)) ∧ Q 1 0 = 40 ∧ v = some (.int (nI 0)) ∧ isM E C' L (nI 2) M Q)) ∧ L = L' ∧ kFm C C') := by
  refine kM.of htr (by decide) (Nat.le_of_ble_eq_true rfl) (fun Γ hl hR hN hnm X hE => ?_)
  refine k_lo (lo' := [(0, .ref (L (30, 0, 0))), (1, .int cr), (2, .int si)]) ⟨rfl, rfl, rfl, trivial⟩ ?_
  refine k_iload_n X dX6_add_0 rfl rfl ?_
  refine k_callS (rest := []) X ks_X6_isDevice kb_177 (m_isDevice X.tr cr) rfl rfl (Nat.le_of_ble_eq_true rfl) ⟨by rw [hR]; exact Nat.le_of_ble_eq_true rfl, by rw [hR]; exact Nat.le_of_ble_eq_true rfl⟩ ⟨by rw [hR]; exact Nat.le_of_ble_eq_true rfl, by rw [hR]; exact Nat.le_of_ble_eq_true rfl⟩ dX6_add_1 (fun v1 C9 L9 h9 => ?_)
  obtain ⟨(⟨pd, rfl⟩ | ⟨pd, rfl⟩), rfl, rfl⟩ := h9
  ·
    refine k_if_eq (tgt := 21) X dX6_add_4 (by decide) (fun c4 => absurd c4 (show ¬ ((nI 1) = 0) by decide)) (fun c4 => ?_)
    refine k_iload_n X dX6_add_7 rfl rfl ?_
    refine k_iconst (v := (nI 0)) X dX6_add_8 (by decide) ?_
    refine k_bipush (v := (nI 9)) X dX6_add_9 (by decide) ?_
    refine k_callS (rest := []) X ks_X6_in kb_180 (m_in X.tr si (nI 0) (nI 9)) rfl rfl (Nat.le_of_ble_eq_true rfl) ⟨by rw [hR]; exact Nat.le_of_ble_eq_true rfl, by rw [hR]; exact Nat.le_of_ble_eq_true rfl⟩ ⟨by rw [hR]; exact Nat.le_of_ble_eq_true rfl, by rw [hR]; exact Nat.le_of_ble_eq_true rfl⟩ dX6_add_11 (fun v11 C9 L9 h9 => ?_)
    obtain ⟨(⟨ps, rfl⟩ | ⟨ps, rfl⟩), rfl, rfl⟩ := h9
    ·
      refine k_if_eq (tgt := 21) X dX6_add_14 (by decide) (fun c14 => absurd c14 (show ¬ ((nI 1) = 0) by decide)) (fun c14 => ?_)
      refine k_iconst (v := (nI 1)) X dX6_add_17 (by decide) ?_
      refine k_goto (tgt := 22) X dX6_add_18 (by decide) ?_
      refine k_istore_n X dX6_add_22 rfl (by rw [hN]; decide) ?_
      refine k_aload_n X dX6_add_23 rfl rfl ?_
      refine k_iload_n X dX6_add_24 rfl rfl ?_
      refine k_if_ne (tgt := 32) X dX6_add_25 (by decide) (fun c25 => ?_) (fun c25 => absurd c25 (show ¬ (nI 1) = 0 by decide))
      refine k_aload_n X dX6_add_32 rfl rfl ?_
      refine k_get0 X h.1 (q := (RX6, TX6, 25)) rfl inlX6 1 (by decide) kb_176 (Or.inl rfl) rfl rfl dX6_add_33 ?_
      refine k_bipush (v := (nI 40)) X dX6_add_36 (by decide) ?_
      refine k_icmp_ne (tgt := 45) X dX6_add_38 (by decide) (fun c38 => ?_) (fun c38 => ?_)
      ·
        refine k_iconst (v := (nI 0)) X dX6_add_45 (by decide) ?_
        refine k_callV (rest := []) X kv_X6_refused kb_183 (m_refused X.tr h (nI 0) (nI 0) (by decide)) h.1 rfl rfl rfl rfl rfl (Nat.le_of_ble_eq_true rfl) ⟨by rw [hR]; exact Nat.le_of_ble_eq_true rfl, by rw [hR]; exact Nat.le_of_ble_eq_true rfl⟩ ⟨by rw [hR]; exact Nat.le_of_ble_eq_true rfl, by rw [hR]; exact Nat.le_of_ble_eq_true rfl⟩ dX6_add_46 (fun v46 C9 L9 h9 => ?_)
        obtain ⟨rfl, rfl, g3, h3⟩ := h9
        have f3 := kFm.tr kFm.rf g3
        refine k_if_eq (tgt := 56) X dX6_add_49 (by decide) (fun c49 => ?_) (fun c49 => absurd (show (nI 0) = 0 by decide) c49)
        refine k_aload_n X dX6_add_56 rfl rfl ?_
        refine k_iload_n X dX6_add_57 rfl rfl ?_
        refine k_iload_n X dX6_add_58 rfl rfl ?_
        have h40 : Q 1 0 < 40 := Nat.lt_of_le_of_ne hq (fun e => c38 (by rw [e]))
        refine k_callV (rest := []) X kv_X6_enter kb_188 (m_enter X.tr h3 h40 cr si) h3.1 rfl rfl rfl rfl rfl (Nat.le_of_ble_eq_true rfl) ⟨by rw [hR]; exact Nat.le_of_ble_eq_true rfl, by rw [hR]; exact Nat.le_of_ble_eq_true rfl⟩ ⟨by rw [hR]; exact Nat.le_of_ble_eq_true rfl, by rw [hR]; exact Nat.le_of_ble_eq_true rfl⟩ dX6_add_59 (fun v59 C9 L9 h9 => ?_)
        obtain ⟨rfl, rfl, g4, h4⟩ := h9
        have f4 := kFm.tr f3 g4
        exact k_iret X hE dX6_add_62 (by first | omega | exact Nat.le_of_ble_eq_true rfl | (dsimp only; omega)) (by first | omega | exact Nat.le_of_ble_eq_true rfl | (dsimp only; omega)) ⟨Or.inl (⟨⟨pd, ps⟩, h40, rfl, h4⟩), rfl, f4⟩
      ·
        refine k_iconst (v := (nI 2)) X dX6_add_41 (by decide) ?_
        refine k_goto (tgt := 46) X dX6_add_42 (by decide) ?_
        refine k_callV (rest := []) X kv_X6_refused kb_183 (m_refused X.tr h (nI 2) (nI 1) (by decide)) h.1 rfl rfl rfl rfl rfl (Nat.le_of_ble_eq_true rfl) ⟨by rw [hR]; exact Nat.le_of_ble_eq_true rfl, by rw [hR]; exact Nat.le_of_ble_eq_true rfl⟩ ⟨by rw [hR]; exact Nat.le_of_ble_eq_true rfl, by rw [hR]; exact Nat.le_of_ble_eq_true rfl⟩ dX6_add_46 (fun v46 C9 L9 h9 => ?_)
        obtain ⟨rfl, rfl, g5, h5⟩ := h9
        have f5 := kFm.tr kFm.rf g5
        refine k_if_eq (tgt := 56) X dX6_add_49 (by decide) (fun c49 => absurd c49 (show ¬ ((nI 1) = 0) by decide)) (fun c49 => ?_)
        refine k_iconst (v := (nI 0)) X dX6_add_52 (by decide) ?_
        refine k_goto (tgt := 62) X dX6_add_53 (by decide) ?_
        exact k_iret X hE dX6_add_62 (by first | omega | exact Nat.le_of_ble_eq_true rfl | (dsimp only; omega)) (by first | omega | exact Nat.le_of_ble_eq_true rfl | (dsimp only; omega)) ⟨Or.inr (Or.inr (⟨⟨pd, ps⟩, (nI_eq (by omega) (by decide)).mp c38, rfl, h5⟩)), rfl, f5⟩
    ·
      refine k_if_eq (tgt := 21) X dX6_add_14 (by decide) (fun c14 => ?_) (fun c14 => absurd (show (nI 0) = 0 by decide) c14)
      refine k_iconst (v := (nI 0)) X dX6_add_21 (by decide) ?_
      refine k_istore_n X dX6_add_22 rfl (by rw [hN]; decide) ?_
      refine k_aload_n X dX6_add_23 rfl rfl ?_
      refine k_iload_n X dX6_add_24 rfl rfl ?_
      refine k_if_ne (tgt := 32) X dX6_add_25 (by decide) (fun c25 => absurd c25 (show ¬ (¬ (nI 0) = 0) by decide)) (fun c25 => ?_)
      refine k_iconst (v := (nI 1)) X dX6_add_28 (by decide) ?_
      refine k_goto (tgt := 46) X dX6_add_29 (by decide) ?_
      refine k_callV (rest := []) X kv_X6_refused kb_183 (m_refused X.tr h (nI 1) (nI 1) (by decide)) h.1 rfl rfl rfl rfl rfl (Nat.le_of_ble_eq_true rfl) ⟨by rw [hR]; exact Nat.le_of_ble_eq_true rfl, by rw [hR]; exact Nat.le_of_ble_eq_true rfl⟩ ⟨by rw [hR]; exact Nat.le_of_ble_eq_true rfl, by rw [hR]; exact Nat.le_of_ble_eq_true rfl⟩ dX6_add_46 (fun v46 C9 L9 h9 => ?_)
      obtain ⟨rfl, rfl, g6, h6⟩ := h9
      have f6 := kFm.tr kFm.rf g6
      refine k_if_eq (tgt := 56) X dX6_add_49 (by decide) (fun c49 => absurd c49 (show ¬ ((nI 1) = 0) by decide)) (fun c49 => ?_)
      refine k_iconst (v := (nI 0)) X dX6_add_52 (by decide) ?_
      refine k_goto (tgt := 62) X dX6_add_53 (by decide) ?_
      exact k_iret X hE dX6_add_62 (by first | omega | exact Nat.le_of_ble_eq_true rfl | (dsimp only; omega)) (by first | omega | exact Nat.le_of_ble_eq_true rfl | (dsimp only; omega)) ⟨Or.inr (Or.inl (⟨by first | exact fun z => pd z.1 | exact fun z => ps z.2, rfl, h6⟩)), rfl, f6⟩
  ·
    refine k_if_eq (tgt := 21) X dX6_add_4 (by decide) (fun c4 => ?_) (fun c4 => absurd (show (nI 0) = 0 by decide) c4)
    refine k_iconst (v := (nI 0)) X dX6_add_21 (by decide) ?_
    refine k_istore_n X dX6_add_22 rfl (by rw [hN]; decide) ?_
    refine k_aload_n X dX6_add_23 rfl rfl ?_
    refine k_iload_n X dX6_add_24 rfl rfl ?_
    refine k_if_ne (tgt := 32) X dX6_add_25 (by decide) (fun c25 => absurd c25 (show ¬ (¬ (nI 0) = 0) by decide)) (fun c25 => ?_)
    refine k_iconst (v := (nI 1)) X dX6_add_28 (by decide) ?_
    refine k_goto (tgt := 46) X dX6_add_29 (by decide) ?_
    refine k_callV (rest := []) X kv_X6_refused kb_183 (m_refused X.tr h (nI 1) (nI 1) (by decide)) h.1 rfl rfl rfl rfl rfl (Nat.le_of_ble_eq_true rfl) ⟨by rw [hR]; exact Nat.le_of_ble_eq_true rfl, by rw [hR]; exact Nat.le_of_ble_eq_true rfl⟩ ⟨by rw [hR]; exact Nat.le_of_ble_eq_true rfl, by rw [hR]; exact Nat.le_of_ble_eq_true rfl⟩ dX6_add_46 (fun v46 C9 L9 h9 => ?_)
    obtain ⟨rfl, rfl, g7, h7⟩ := h9
    have f7 := kFm.tr kFm.rf g7
    refine k_if_eq (tgt := 56) X dX6_add_49 (by decide) (fun c49 => absurd c49 (show ¬ ((nI 1) = 0) by decide)) (fun c49 => ?_)
    refine k_iconst (v := (nI 0)) X dX6_add_52 (by decide) ?_
    refine k_goto (tgt := 62) X dX6_add_53 (by decide) ?_
    exact k_iret X hE dX6_add_62 (by first | omega | exact Nat.le_of_ble_eq_true rfl | (dsimp only; omega)) (by first | omega | exact Nat.le_of_ble_eq_true rfl | (dsimp only; omega)) ⟨Or.inr (Or.inl (⟨by first | exact fun z => pd z.1 | exact fun z => ps z.2, rfl, h7⟩)), rfl, f7⟩

set_option maxHeartbeats 4000000 in
set_option maxRecDepth 100000 in
theorem m_give {l : Launch} (htr : l.stackTraces = false) {E : kE} {A : Nat → Prop} {C : kC} {L : kL} {R : Int32} {M : kM2} {Q : kQ2} (h : isM E C L R M Q) (hq : Q 1 0 ≤ 40) (job cr : Int32) : kM l yX6_give cX6_give 4 (some .int) 2 43 0 0 E A C L [.ref (L (30, 0, 0)), .int job, .int cr] (fun v C' L' => ((∃ i, i < Q 1 0 ∧ job = nI i ∧ kix cr 4 ∧ v = some (.int (M 2 i)) ∧ isM E C' L (nI 0) (w2 M 2 i cr) Q) ∨ (¬ kix job (Q 1 0) ∧ v = some (.int (nI 0)) ∧ isM E C' L (nI 1) M Q) ∨ ((kix job (Q 1 0) ∧ ¬ kix cr 4) ∧ v = some (.int (nI 0)) ∧ isM E C' L (nI 2) M Q)) ∧ L = L' ∧ kFm C C') := by
  refine kM.of htr (by decide) (Nat.le_of_ble_eq_true rfl) (fun Γ hl hR hN hnm X hE => ?_)
  refine k_lo (lo' := [(0, .ref (L (30, 0, 0))), (1, .int job), (2, .int cr)]) ⟨rfl, rfl, rfl, trivial⟩ ?_
  refine k_aload_n X dX6_give_0 rfl rfl ?_
  refine k_aload_n X dX6_give_1 rfl rfl ?_
  refine k_iload_n X dX6_give_2 rfl rfl ?_
  refine k_callV (rest := [.ref (L (30, 0, 0))]) X kv_X6_isJob kb_232 (m_isJob X.tr h hq job) h.1 rfl rfl rfl rfl rfl (Nat.le_of_ble_eq_true rfl) ⟨by rw [hR]; exact Nat.le_of_ble_eq_true rfl, by rw [hR]; exact Nat.le_of_ble_eq_true rfl⟩ ⟨by rw [hR]; exact Nat.le_of_ble_eq_true rfl, by rw [hR]; exact Nat.le_of_ble_eq_true rfl⟩ dX6_give_3 (fun v3 C9 L9 h9 => ?_)
  obtain ⟨(⟨pj, rfl⟩ | ⟨pj, rfl⟩), rfl, rfl⟩ := h9
  ·
    obtain ⟨i, hi, rfl⟩ := pj.ex (by omega)
    refine k_if_ne (tgt := 13) X dX6_give_6 (by decide) (fun c6 => ?_) (fun c6 => absurd c6 (show ¬ (nI 1) = 0 by decide))
    refine k_iload_n X dX6_give_13 rfl rfl ?_
    refine k_callS (rest := [.ref (L (30, 0, 0))]) X ks_X6_isDevice kb_177 (m_isDevice X.tr cr) rfl rfl (Nat.le_of_ble_eq_true rfl) ⟨by rw [hR]; exact Nat.le_of_ble_eq_true rfl, by rw [hR]; exact Nat.le_of_ble_eq_true rfl⟩ ⟨by rw [hR]; exact Nat.le_of_ble_eq_true rfl, by rw [hR]; exact Nat.le_of_ble_eq_true rfl⟩ dX6_give_14 (fun v14 C9 L9 h9 => ?_)
    obtain ⟨(⟨pd, rfl⟩ | ⟨pd, rfl⟩), rfl, rfl⟩ := h9
    ·
      refine k_if_eq (tgt := 24) X dX6_give_17 (by decide) (fun c17 => absurd c17 (show ¬ ((nI 1) = 0) by decide)) (fun c17 => ?_)
      refine k_iconst (v := (nI 0)) X dX6_give_20 (by decide) ?_
      refine k_goto (tgt := 25) X dX6_give_21 (by decide) ?_
      refine k_callV (rest := []) X kv_X6_refused kb_183 (m_refused X.tr h (nI 0) (nI 0) (by decide)) h.1 rfl rfl rfl rfl rfl (Nat.le_of_ble_eq_true rfl) ⟨by rw [hR]; exact Nat.le_of_ble_eq_true rfl, by rw [hR]; exact Nat.le_of_ble_eq_true rfl⟩ ⟨by rw [hR]; exact Nat.le_of_ble_eq_true rfl, by rw [hR]; exact Nat.le_of_ble_eq_true rfl⟩ dX6_give_25 (fun v25 C9 L9 h9 => ?_)
      obtain ⟨rfl, rfl, g3, h3⟩ := h9
      have f3 := kFm.tr kFm.rf g3
      refine k_if_eq (tgt := 33) X dX6_give_28 (by decide) (fun c28 => ?_) (fun c28 => absurd (show (nI 0) = 0 by decide) c28)
      refine k_aload_n X dX6_give_33 rfl rfl ?_
      refine k_get0 X h3.1 (q := (RX6, TX6, 25)) rfl inlX6 2 (by decide) kb_58 (Or.inl rfl) rfl rfl dX6_give_34 ?_
      refine k_iload_n X dX6_give_37 rfl rfl ?_
      refine k_mld X h3 2 (i := i) rfl (by decide) (show i < 40 by omega) dX6_give_38 ?_
      refine k_istore_n X dX6_give_39 rfl (by rw [hN]; decide) ?_
      refine k_aload_n X dX6_give_40 rfl rfl ?_
      refine k_get0 X h3.1 (q := (RX6, TX6, 25)) rfl inlX6 2 (by decide) kb_58 (Or.inl rfl) rfl rfl dX6_give_41 ?_
      refine k_iload_n X dX6_give_44 rfl rfl ?_
      refine k_iload_n X dX6_give_45 rfl rfl ?_
      refine k_mst X h3 f3 2 (i := i) rfl (by decide) (show i < 40 by omega) dX6_give_46 (fun C4 h4 f4 => ?_)
      refine k_iload_n X dX6_give_47 rfl rfl ?_
      exact k_iret X hE dX6_give_48 (by first | omega | exact Nat.le_of_ble_eq_true rfl | (dsimp only; omega)) (by first | omega | exact Nat.le_of_ble_eq_true rfl | (dsimp only; omega)) ⟨Or.inl (⟨i, hi, rfl, pd, rfl, h4⟩), rfl, f4⟩
    ·
      refine k_if_eq (tgt := 24) X dX6_give_17 (by decide) (fun c17 => ?_) (fun c17 => absurd (show (nI 0) = 0 by decide) c17)
      refine k_iconst (v := (nI 2)) X dX6_give_24 (by decide) ?_
      refine k_callV (rest := []) X kv_X6_refused kb_183 (m_refused X.tr h (nI 2) (nI 1) (by decide)) h.1 rfl rfl rfl rfl rfl (Nat.le_of_ble_eq_true rfl) ⟨by rw [hR]; exact Nat.le_of_ble_eq_true rfl, by rw [hR]; exact Nat.le_of_ble_eq_true rfl⟩ ⟨by rw [hR]; exact Nat.le_of_ble_eq_true rfl, by rw [hR]; exact Nat.le_of_ble_eq_true rfl⟩ dX6_give_25 (fun v25 C9 L9 h9 => ?_)
      obtain ⟨rfl, rfl, g5, h5⟩ := h9
      have f5 := kFm.tr kFm.rf g5
      refine k_if_eq (tgt := 33) X dX6_give_28 (by decide) (fun c28 => absurd c28 (show ¬ ((nI 1) = 0) by decide)) (fun c28 => ?_)
      refine k_iconst (v := (nI 0)) X dX6_give_31 (by decide) ?_
      exact k_iret X hE dX6_give_32 (by first | omega | exact Nat.le_of_ble_eq_true rfl | (dsimp only; omega)) (by first | omega | exact Nat.le_of_ble_eq_true rfl | (dsimp only; omega)) ⟨Or.inr (Or.inr (⟨⟨pj, pd⟩, rfl, h5⟩)), rfl, f5⟩
  ·
    refine k_if_ne (tgt := 13) X dX6_give_6 (by decide) (fun c6 => absurd c6 (show ¬ (¬ (nI 0) = 0) by decide)) (fun c6 => ?_)
    refine k_iconst (v := (nI 1)) X dX6_give_9 (by decide) ?_
    refine k_goto (tgt := 25) X dX6_give_10 (by decide) ?_
    refine k_callV (rest := []) X kv_X6_refused kb_183 (m_refused X.tr h (nI 1) (nI 1) (by decide)) h.1 rfl rfl rfl rfl rfl (Nat.le_of_ble_eq_true rfl) ⟨by rw [hR]; exact Nat.le_of_ble_eq_true rfl, by rw [hR]; exact Nat.le_of_ble_eq_true rfl⟩ ⟨by rw [hR]; exact Nat.le_of_ble_eq_true rfl, by rw [hR]; exact Nat.le_of_ble_eq_true rfl⟩ dX6_give_25 (fun v25 C9 L9 h9 => ?_)
    obtain ⟨rfl, rfl, g6, h6⟩ := h9
    have f6 := kFm.tr kFm.rf g6
    refine k_if_eq (tgt := 33) X dX6_give_28 (by decide) (fun c28 => absurd c28 (show ¬ ((nI 1) = 0) by decide)) (fun c28 => ?_)
    refine k_iconst (v := (nI 0)) X dX6_give_31 (by decide) ?_
    exact k_iret X hE dX6_give_32 (by first | omega | exact Nat.le_of_ble_eq_true rfl | (dsimp only; omega)) (by first | omega | exact Nat.le_of_ble_eq_true rfl | (dsimp only; omega)) ⟨Or.inr (Or.inl (⟨pj, rfl, h6⟩)), rfl, f6⟩

set_option maxHeartbeats 4000000 in
set_option maxRecDepth 100000 in
theorem m_setRoom {l : Launch} (htr : l.stackTraces = false) {E : kE} {A : Nat → Prop} {C : kC} {L : kL} {R : Int32} {M : kM2} {Q : kQ2} (h : isM E C L R M Q) (dv ro : Int32) : kM l yX6_setRoom cX6_setRoom 4 (some .int) 2 42 0 0 E A C L [.ref (L (30, 0, 0)), .int dv, .int ro] (fun v C' L' => ((∃ d, d < 4 ∧ dv = nI d ∧ kin ro (nI 0) (nI 40) ∧ v = some (.int (M 6 d)) ∧ isM E C' L (nI 0) (w2 M 6 d ro) Q) ∨ (¬ kix dv 4 ∧ v = some (.int (nI 0)) ∧ isM E C' L (nI 1) M Q) ∨ ((kix dv 4 ∧ ¬ kin ro (nI 0) (nI 40)) ∧ v = some (.int (nI 0)) ∧ isM E C' L (nI 2) M Q)) ∧ L = L' ∧ kFm C C') := by
  refine kM.of htr (by decide) (Nat.le_of_ble_eq_true rfl) (fun Γ hl hR hN hnm X hE => ?_)
  refine k_lo (lo' := [(0, .ref (L (30, 0, 0))), (1, .int dv), (2, .int ro)]) ⟨rfl, rfl, rfl, trivial⟩ ?_
  refine k_aload_n X dX6_setRoom_0 rfl rfl ?_
  refine k_iload_n X dX6_setRoom_1 rfl rfl ?_
  refine k_callS (rest := [.ref (L (30, 0, 0))]) X ks_X6_isDevice kb_177 (m_isDevice X.tr dv) rfl rfl (Nat.le_of_ble_eq_true rfl) ⟨by rw [hR]; exact Nat.le_of_ble_eq_true rfl, by rw [hR]; exact Nat.le_of_ble_eq_true rfl⟩ ⟨by rw [hR]; exact Nat.le_of_ble_eq_true rfl, by rw [hR]; exact Nat.le_of_ble_eq_true rfl⟩ dX6_setRoom_2 (fun v2 C9 L9 h9 => ?_)
  obtain ⟨(⟨pd, rfl⟩ | ⟨pd, rfl⟩), rfl, rfl⟩ := h9
  ·
    obtain ⟨d, hd, rfl⟩ := pd.ex (by decide)
    refine k_if_ne (tgt := 12) X dX6_setRoom_5 (by decide) (fun c5 => ?_) (fun c5 => absurd c5 (show ¬ (nI 1) = 0 by decide))
    refine k_iload_n X dX6_setRoom_12 rfl rfl ?_
    refine k_iconst (v := (nI 0)) X dX6_setRoom_13 (by decide) ?_
    refine k_bipush (v := (nI 40)) X dX6_setRoom_14 (by decide) ?_
    refine k_callS (rest := [.ref (L (30, 0, 0))]) X ks_X6_in kb_180 (m_in X.tr ro (nI 0) (nI 40)) rfl rfl (Nat.le_of_ble_eq_true rfl) ⟨by rw [hR]; exact Nat.le_of_ble_eq_true rfl, by rw [hR]; exact Nat.le_of_ble_eq_true rfl⟩ ⟨by rw [hR]; exact Nat.le_of_ble_eq_true rfl, by rw [hR]; exact Nat.le_of_ble_eq_true rfl⟩ dX6_setRoom_16 (fun v16 C9 L9 h9 => ?_)
    obtain ⟨(⟨pr, rfl⟩ | ⟨pr, rfl⟩), rfl, rfl⟩ := h9
    ·
      refine k_if_eq (tgt := 26) X dX6_setRoom_19 (by decide) (fun c19 => absurd c19 (show ¬ ((nI 1) = 0) by decide)) (fun c19 => ?_)
      refine k_iconst (v := (nI 0)) X dX6_setRoom_22 (by decide) ?_
      refine k_goto (tgt := 27) X dX6_setRoom_23 (by decide) ?_
      refine k_callV (rest := []) X kv_X6_refused kb_183 (m_refused X.tr h (nI 0) (nI 0) (by decide)) h.1 rfl rfl rfl rfl rfl (Nat.le_of_ble_eq_true rfl) ⟨by rw [hR]; exact Nat.le_of_ble_eq_true rfl, by rw [hR]; exact Nat.le_of_ble_eq_true rfl⟩ ⟨by rw [hR]; exact Nat.le_of_ble_eq_true rfl, by rw [hR]; exact Nat.le_of_ble_eq_true rfl⟩ dX6_setRoom_27 (fun v27 C9 L9 h9 => ?_)
      obtain ⟨rfl, rfl, g3, h3⟩ := h9
      have f3 := kFm.tr kFm.rf g3
      refine k_if_eq (tgt := 35) X dX6_setRoom_30 (by decide) (fun c30 => ?_) (fun c30 => absurd (show (nI 0) = 0 by decide) c30)
      refine k_aload_n X dX6_setRoom_35 rfl rfl ?_
      refine k_get0 X h3.1 (q := (RX6, TX6, 25)) rfl inlX6 6 (by decide) kb_62 (Or.inl rfl) rfl rfl dX6_setRoom_36 ?_
      refine k_iload_n X dX6_setRoom_39 rfl rfl ?_
      refine k_mld X h3 6 (i := d) rfl (by decide) (show d < 4 by omega) dX6_setRoom_40 ?_
      refine k_istore_n X dX6_setRoom_41 rfl (by rw [hN]; decide) ?_
      refine k_aload_n X dX6_setRoom_42 rfl rfl ?_
      refine k_get0 X h3.1 (q := (RX6, TX6, 25)) rfl inlX6 6 (by decide) kb_62 (Or.inl rfl) rfl rfl dX6_setRoom_43 ?_
      refine k_iload_n X dX6_setRoom_46 rfl rfl ?_
      refine k_iload_n X dX6_setRoom_47 rfl rfl ?_
      refine k_mst X h3 f3 6 (i := d) rfl (by decide) (show d < 4 by omega) dX6_setRoom_48 (fun C4 h4 f4 => ?_)
      refine k_iload_n X dX6_setRoom_49 rfl rfl ?_
      exact k_iret X hE dX6_setRoom_50 (by first | omega | exact Nat.le_of_ble_eq_true rfl | (dsimp only; omega)) (by first | omega | exact Nat.le_of_ble_eq_true rfl | (dsimp only; omega)) ⟨Or.inl (⟨d, hd, rfl, pr, rfl, h4⟩), rfl, f4⟩
    ·
      refine k_if_eq (tgt := 26) X dX6_setRoom_19 (by decide) (fun c19 => ?_) (fun c19 => absurd (show (nI 0) = 0 by decide) c19)
      refine k_iconst (v := (nI 2)) X dX6_setRoom_26 (by decide) ?_
      refine k_callV (rest := []) X kv_X6_refused kb_183 (m_refused X.tr h (nI 2) (nI 1) (by decide)) h.1 rfl rfl rfl rfl rfl (Nat.le_of_ble_eq_true rfl) ⟨by rw [hR]; exact Nat.le_of_ble_eq_true rfl, by rw [hR]; exact Nat.le_of_ble_eq_true rfl⟩ ⟨by rw [hR]; exact Nat.le_of_ble_eq_true rfl, by rw [hR]; exact Nat.le_of_ble_eq_true rfl⟩ dX6_setRoom_27 (fun v27 C9 L9 h9 => ?_)
      obtain ⟨rfl, rfl, g5, h5⟩ := h9
      have f5 := kFm.tr kFm.rf g5
      refine k_if_eq (tgt := 35) X dX6_setRoom_30 (by decide) (fun c30 => absurd c30 (show ¬ ((nI 1) = 0) by decide)) (fun c30 => ?_)
      refine k_iconst (v := (nI 0)) X dX6_setRoom_33 (by decide) ?_
      exact k_iret X hE dX6_setRoom_34 (by first | omega | exact Nat.le_of_ble_eq_true rfl | (dsimp only; omega)) (by first | omega | exact Nat.le_of_ble_eq_true rfl | (dsimp only; omega)) ⟨Or.inr (Or.inr (⟨⟨pd, pr⟩, rfl, h5⟩)), rfl, f5⟩
  ·
    refine k_if_ne (tgt := 12) X dX6_setRoom_5 (by decide) (fun c5 => absurd c5 (show ¬ (¬ (nI 0) = 0) by decide)) (fun c5 => ?_)
    refine k_iconst (v := (nI 1)) X dX6_setRoom_8 (by decide) ?_
    refine k_goto (tgt := 27) X dX6_setRoom_9 (by decide) ?_
    refine k_callV (rest := []) X kv_X6_refused kb_183 (m_refused X.tr h (nI 1) (nI 1) (by decide)) h.1 rfl rfl rfl rfl rfl (Nat.le_of_ble_eq_true rfl) ⟨by rw [hR]; exact Nat.le_of_ble_eq_true rfl, by rw [hR]; exact Nat.le_of_ble_eq_true rfl⟩ ⟨by rw [hR]; exact Nat.le_of_ble_eq_true rfl, by rw [hR]; exact Nat.le_of_ble_eq_true rfl⟩ dX6_setRoom_27 (fun v27 C9 L9 h9 => ?_)
    obtain ⟨rfl, rfl, g6, h6⟩ := h9
    have f6 := kFm.tr kFm.rf g6
    refine k_if_eq (tgt := 35) X dX6_setRoom_30 (by decide) (fun c30 => absurd c30 (show ¬ ((nI 1) = 0) by decide)) (fun c30 => ?_)
    refine k_iconst (v := (nI 0)) X dX6_setRoom_33 (by decide) ?_
    exact k_iret X hE dX6_setRoom_34 (by first | omega | exact Nat.le_of_ble_eq_true rfl | (dsimp only; omega)) (by first | omega | exact Nat.le_of_ble_eq_true rfl | (dsimp only; omega)) ⟨Or.inr (Or.inl (⟨pd, rfl, h6⟩)), rfl, f6⟩

set_option maxHeartbeats 4000000 in
set_option maxRecDepth 100000 in
theorem m_set {l : Launch} (htr : l.stackTraces = false) {E : kE} {A : Nat → Prop} {C : kC} {L : kL} {R : Int32} {M : kM2} {Q : kQ2} (h : isM E C L R M Q) (hq : Q 1 0 ≤ 40) (job f x : Int32) : kM l yX6_set cX6_set 4 (some .int) 2 43 0 0 E A C L [.ref (L (30, 0, 0)), .int job, .int f, .int x] (fun v C' L' => ((∃ i f0, i < Q 1 0 ∧ job = nI i ∧ f0 ≤ 1 ∧ f = nI f0 ∧ (kin f (nI 0) (nI 1) ∧ kin x (nI 0) (if f = nI 0 then nI 2 else nI 10000)) ∧ v = some (.int (M 5 (2 * i + f0) + nI 1)) ∧ isM E C' L (nI 0) (w2 (w2 M 4 (2 * i + f0) x) 5 (2 * i + f0) (M 5 (2 * i + f0) + nI 1)) Q) ∨ (¬ kix job (Q 1 0) ∧ v = some (.int (nI 0)) ∧ isM E C' L (nI 1) M Q) ∨ ((kix job (Q 1 0) ∧ ¬ (kin f (nI 0) (nI 1) ∧ kin x (nI 0) (if f = nI 0 then nI 2 else nI 10000))) ∧ v = some (.int (nI 0)) ∧ isM E C' L (nI 2) M Q)) ∧ L = L' ∧ kFm C C') := by
  refine kM.of htr (by decide) (Nat.le_of_ble_eq_true rfl) (fun Γ hl hR hN hnm X hE => ?_)
  refine k_lo (lo' := [(0, .ref (L (30, 0, 0))), (1, .int job), (2, .int f), (3, .int x)]) ⟨rfl, rfl, rfl, rfl, trivial⟩ ?_
  refine k_aload_n X dX6_set_0 rfl rfl ?_
  refine k_aload_n X dX6_set_1 rfl rfl ?_
  refine k_iload_n X dX6_set_2 rfl rfl ?_
  refine k_callV (rest := [.ref (L (30, 0, 0))]) X kv_X6_isJob kb_232 (m_isJob X.tr h hq job) h.1 rfl rfl rfl rfl rfl (Nat.le_of_ble_eq_true rfl) ⟨by rw [hR]; exact Nat.le_of_ble_eq_true rfl, by rw [hR]; exact Nat.le_of_ble_eq_true rfl⟩ ⟨by rw [hR]; exact Nat.le_of_ble_eq_true rfl, by rw [hR]; exact Nat.le_of_ble_eq_true rfl⟩ dX6_set_3 (fun v3 C9 L9 h9 => ?_)
  obtain ⟨(⟨pj, rfl⟩ | ⟨pj, rfl⟩), rfl, rfl⟩ := h9
  ·
    obtain ⟨i, hi, rfl⟩ := pj.ex (by omega)
    refine k_if_ne (tgt := 13) X dX6_set_6 (by decide) (fun c6 => ?_) (fun c6 => absurd c6 (show ¬ (nI 1) = 0 by decide))
    refine k_iload_n X dX6_set_13 rfl rfl ?_
    refine k_iload_n X dX6_set_14 rfl rfl ?_
    refine k_callS (rest := [.ref (L (30, 0, 0))]) X ks_X6_isValue kb_262 (m_isValue X.tr f x) rfl rfl (Nat.le_of_ble_eq_true rfl) ⟨by rw [hR]; exact Nat.le_of_ble_eq_true rfl, by rw [hR]; exact Nat.le_of_ble_eq_true rfl⟩ ⟨by rw [hR]; exact Nat.le_of_ble_eq_true rfl, by rw [hR]; exact Nat.le_of_ble_eq_true rfl⟩ dX6_set_15 (fun v15 C9 L9 h9 => ?_)
    obtain ⟨(⟨pv, rfl⟩ | ⟨pv, rfl⟩), rfl, rfl⟩ := h9
    ·
      refine k_if_eq (tgt := 25) X dX6_set_18 (by decide) (fun c18 => absurd c18 (show ¬ ((nI 1) = 0) by decide)) (fun c18 => ?_)
      refine k_iconst (v := (nI 0)) X dX6_set_21 (by decide) ?_
      refine k_goto (tgt := 26) X dX6_set_22 (by decide) ?_
      refine k_callV (rest := []) X kv_X6_refused kb_183 (m_refused X.tr h (nI 0) (nI 0) (by decide)) h.1 rfl rfl rfl rfl rfl (Nat.le_of_ble_eq_true rfl) ⟨by rw [hR]; exact Nat.le_of_ble_eq_true rfl, by rw [hR]; exact Nat.le_of_ble_eq_true rfl⟩ ⟨by rw [hR]; exact Nat.le_of_ble_eq_true rfl, by rw [hR]; exact Nat.le_of_ble_eq_true rfl⟩ dX6_set_26 (fun v26 C9 L9 h9 => ?_)
      obtain ⟨rfl, rfl, g3, h3⟩ := h9
      have f3 := kFm.tr kFm.rf g3
      refine k_if_eq (tgt := 36) X dX6_set_29 (by decide) (fun c29 => ?_) (fun c29 => absurd (show (nI 0) = 0 by decide) c29)
      refine k_aload_n X dX6_set_36 rfl rfl ?_
      refine k_iload_n X dX6_set_37 rfl rfl ?_
      refine k_iload_n X dX6_set_38 rfl rfl ?_
      refine k_iload_n X dX6_set_39 rfl rfl ?_
      obtain ⟨f0, hf0a, hf0, rfl⟩ := pv.1.ex (by decide) (by decide)
      refine k_callV (rest := []) X kv_X6_lay kb_268 (m_lay X.tr h3 (i := i) (f := f0) (by omega) (by omega) x) h3.1 rfl rfl rfl rfl rfl (Nat.le_of_ble_eq_true rfl) ⟨by rw [hR]; exact Nat.le_of_ble_eq_true rfl, by rw [hR]; exact Nat.le_of_ble_eq_true rfl⟩ ⟨by rw [hR]; exact Nat.le_of_ble_eq_true rfl, by rw [hR]; exact Nat.le_of_ble_eq_true rfl⟩ dX6_set_40 (fun v40 C9 L9 h9 => ?_)
      obtain ⟨rfl, rfl, g4, h4⟩ := h9
      have f4 := kFm.tr f3 g4
      exact k_iret X hE dX6_set_43 (by first | omega | exact Nat.le_of_ble_eq_true rfl | (dsimp only; omega)) (by first | omega | exact Nat.le_of_ble_eq_true rfl | (dsimp only; omega)) ⟨Or.inl (⟨i, f0, hi, rfl, hf0, rfl, pv, rfl, h4⟩), rfl, f4⟩
    ·
      refine k_if_eq (tgt := 25) X dX6_set_18 (by decide) (fun c18 => ?_) (fun c18 => absurd (show (nI 0) = 0 by decide) c18)
      refine k_iconst (v := (nI 2)) X dX6_set_25 (by decide) ?_
      refine k_callV (rest := []) X kv_X6_refused kb_183 (m_refused X.tr h (nI 2) (nI 1) (by decide)) h.1 rfl rfl rfl rfl rfl (Nat.le_of_ble_eq_true rfl) ⟨by rw [hR]; exact Nat.le_of_ble_eq_true rfl, by rw [hR]; exact Nat.le_of_ble_eq_true rfl⟩ ⟨by rw [hR]; exact Nat.le_of_ble_eq_true rfl, by rw [hR]; exact Nat.le_of_ble_eq_true rfl⟩ dX6_set_26 (fun v26 C9 L9 h9 => ?_)
      obtain ⟨rfl, rfl, g5, h5⟩ := h9
      have f5 := kFm.tr kFm.rf g5
      refine k_if_eq (tgt := 36) X dX6_set_29 (by decide) (fun c29 => absurd c29 (show ¬ ((nI 1) = 0) by decide)) (fun c29 => ?_)
      refine k_iconst (v := (nI 0)) X dX6_set_32 (by decide) ?_
      refine k_goto (tgt := 43) X dX6_set_33 (by decide) ?_
      exact k_iret X hE dX6_set_43 (by first | omega | exact Nat.le_of_ble_eq_true rfl | (dsimp only; omega)) (by first | omega | exact Nat.le_of_ble_eq_true rfl | (dsimp only; omega)) ⟨Or.inr (Or.inr (⟨⟨pj, pv⟩, rfl, h5⟩)), rfl, f5⟩
  ·
    refine k_if_ne (tgt := 13) X dX6_set_6 (by decide) (fun c6 => absurd c6 (show ¬ (¬ (nI 0) = 0) by decide)) (fun c6 => ?_)
    refine k_iconst (v := (nI 1)) X dX6_set_9 (by decide) ?_
    refine k_goto (tgt := 26) X dX6_set_10 (by decide) ?_
    refine k_callV (rest := []) X kv_X6_refused kb_183 (m_refused X.tr h (nI 1) (nI 1) (by decide)) h.1 rfl rfl rfl rfl rfl (Nat.le_of_ble_eq_true rfl) ⟨by rw [hR]; exact Nat.le_of_ble_eq_true rfl, by rw [hR]; exact Nat.le_of_ble_eq_true rfl⟩ ⟨by rw [hR]; exact Nat.le_of_ble_eq_true rfl, by rw [hR]; exact Nat.le_of_ble_eq_true rfl⟩ dX6_set_26 (fun v26 C9 L9 h9 => ?_)
    obtain ⟨rfl, rfl, g6, h6⟩ := h9
    have f6 := kFm.tr kFm.rf g6
    refine k_if_eq (tgt := 36) X dX6_set_29 (by decide) (fun c29 => absurd c29 (show ¬ ((nI 1) = 0) by decide)) (fun c29 => ?_)
    refine k_iconst (v := (nI 0)) X dX6_set_32 (by decide) ?_
    refine k_goto (tgt := 43) X dX6_set_33 (by decide) ?_
    exact k_iret X hE dX6_set_43 (by first | omega | exact Nat.le_of_ble_eq_true rfl | (dsimp only; omega)) (by first | omega | exact Nat.le_of_ble_eq_true rfl | (dsimp only; omega)) ⟨Or.inr (Or.inl (⟨pj, rfl, h6⟩)), rfl, f6⟩

/-- x is the own number of d's k-th made job -/
def mOw (Q : kQ2) (d : Nat) (x r : Int32) : Prop := (∃ k, k < Q 10 d ∧ x = nI (1000 + k) ∧ r = nI (600 * d + k)) ∨ ((∀ k, k < Q 10 d → x ≠ nI (1000 + k)) ∧ r = -1)
/-- the number of the central store in place of an own one -/
def mNm (M : kM2) (Q : kQ2) (d : Nat) (x r : Int32) : Prop := (∃ k, k < Q 10 d ∧ x = nI (1000 + k) ∧ M 11 (600 * d + k) ≠ -1 ∧ r = M 11 (600 * d + k)) ∨ ((∀ k, k < Q 10 d → x = nI (1000 + k) → M 11 (600 * d + k) = -1) ∧ r = x)
def mHs (M : kM2) (Q : kQ2) (d : Nat) (x : Int32) (b : Nat) : Prop := ∃ r, mNm M Q d x r ∧ ((∃ n, n < Q 1 0 ∧ r = nI n ∧ M 7 (40 * d + n) = nI b) ∨ (¬ kix r (Q 1 0) ∧ ((b = 1 ∧ ∃ k, k < Q 10 d ∧ r = nI (1000 + k)) ∨ (b = 0 ∧ ∀ k, k < Q 10 d → r ≠ nI (1000 + k)))))
theorem kown {x : Int32} {n : Nat} (hn : n ≤ 512) : kin x (nI 1000) (nI (1000 + n) - nI 1) ↔ ∃ k, k < n ∧ x = nI (1000 + k) := by
  rw [pk_sub (by omega)]
  refine ⟨fun h => ?_, fun h => ?_⟩
  · obtain ⟨j, h1, h2, rfl⟩ := h.ex (by decide) (by omega)
    exact ⟨j - 1000, by omega, by rw [show 1000 + (j - 1000) = j by omega]⟩
  · obtain ⟨k, h1, rfl⟩ := h
    exact ⟨nI_nlt (by omega) (by omega), nI_le (by omega) (by omega)⟩
theorem nI_n1 {n : Nat} (h : n < 2 ^ 31) : nI n ≠ -1 := fun e => absurd (show nI n < 0 by rw [e]; decide) (nI_pos h)

set_option maxHeartbeats 4000000 in
set_option maxRecDepth 100000 in
theorem m_ownPlace {l : Launch} (htr : l.stackTraces = false) {E : kE} {A : Nat → Prop} {C : kC} {L : kL} {R : Int32} {M : kM2} {Q : kQ2} (h : isM E C L R M Q) {d : Nat} (hd : d < 4) (ho : Q 10 d ≤ 512) (x : Int32) : kM l yX6_ownPlace cX6_ownPlace 3 (some .int) 1 22 0 0 E A C L [.ref (L (30, 0, 0)), .int (nI d), .int x] (fun v C' L' => (∃ r, v = some (.int r) ∧ mOw Q d x r) ∧ L = L' ∧ C = C') := by
  refine kM.of htr (by decide) (Nat.le_of_ble_eq_true rfl) (fun Γ hl hR hN hnm X hE => ?_)
  refine k_lo (lo' := [(0, .ref (L (30, 0, 0))), (1, .int (nI d)), (2, .int x)]) ⟨rfl, rfl, rfl, trivial⟩ ?_
  refine k_iload_n X dX6_ownPlace_0 rfl rfl ?_
  refine k_sipush (v := (nI 1000)) X dX6_ownPlace_1 (by decide) ?_
  refine k_sipush (v := (nI 1000)) X dX6_ownPlace_4 (by decide) ?_
  refine k_aload_n X dX6_ownPlace_7 rfl rfl ?_
  refine k_get0 X h.1 (q := (RX6, TX6, 25)) rfl inlX6 10 (by decide) kb_66 (Or.inl rfl) rfl rfl dX6_ownPlace_8 ?_
  refine k_iload_n X dX6_ownPlace_11 rfl rfl ?_
  refine k_mldQ X h 10 (i := d) rfl (by decide) (show d < 4 by omega) dX6_ownPlace_12 ?_
  refine k_iaddN X dX6_ownPlace_13 ?_
  refine k_iconst (v := (nI 1)) X dX6_ownPlace_14 (by decide) ?_
  refine k_isub X dX6_ownPlace_15 ?_
  refine k_callS (rest := []) X ks_X6_in kb_180 (m_in X.tr x (nI 1000) (nI (1000 + Q 10 d) - nI 1)) rfl rfl (Nat.le_of_ble_eq_true rfl) ⟨by rw [hR]; exact Nat.le_of_ble_eq_true rfl, by rw [hR]; exact Nat.le_of_ble_eq_true rfl⟩ ⟨by rw [hR]; exact Nat.le_of_ble_eq_true rfl, by rw [hR]; exact Nat.le_of_ble_eq_true rfl⟩ dX6_ownPlace_16 (fun v16 C9 L9 h9 => ?_)
  obtain ⟨(⟨po, rfl⟩ | ⟨po, rfl⟩), rfl, rfl⟩ := h9
  ·
    obtain ⟨k, hk, rfl⟩ := (kown (by omega)).mp po
    refine k_if_eq (tgt := 36) X dX6_ownPlace_19 (by decide) (fun c19 => absurd c19 (show ¬ ((nI 1) = 0) by decide)) (fun c19 => ?_)
    refine k_sipush (v := (nI 600)) X dX6_ownPlace_22 (by decide) ?_
    refine k_iload_n X dX6_ownPlace_25 rfl rfl ?_
    refine k_imulN X dX6_ownPlace_26 ?_
    refine k_iload_n X dX6_ownPlace_27 rfl rfl ?_
    refine k_iaddN X dX6_ownPlace_28 ?_
    refine k_sipush (v := (nI 1000)) X dX6_ownPlace_29 (by decide) ?_
    refine k_isubN (h := show 1000 ≤ 600 * d + (1000 + k) by omega) X dX6_ownPlace_32 ?_
    refine k_rw (y := nI (600 * d + k)) (by rw [show 600 * d + (1000 + k) - 1000 = 600 * d + k by omega]) ?_
    refine k_goto (tgt := 37) X dX6_ownPlace_33 (by decide) ?_
    exact k_iret X hE dX6_ownPlace_37 (by first | omega | exact Nat.le_of_ble_eq_true rfl | (dsimp only; omega)) (by first | omega | exact Nat.le_of_ble_eq_true rfl | (dsimp only; omega)) ⟨⟨_, rfl, Or.inl ⟨k, hk, rfl, rfl⟩⟩, rfl, rfl⟩
  ·
    refine k_if_eq (tgt := 36) X dX6_ownPlace_19 (by decide) (fun c19 => ?_) (fun c19 => absurd (show (nI 0) = 0 by decide) c19)
    refine k_iconst (v := (-1)) X dX6_ownPlace_36 (by decide) ?_
    exact k_iret X hE dX6_ownPlace_37 (by first | omega | exact Nat.le_of_ble_eq_true rfl | (dsimp only; omega)) (by first | omega | exact Nat.le_of_ble_eq_true rfl | (dsimp only; omega)) ⟨⟨_, rfl, Or.inr ⟨fun k hk e => po ((kown (by omega)).mpr ⟨k, hk, e⟩), rfl⟩⟩, rfl, rfl⟩

set_option maxHeartbeats 4000000 in
set_option maxRecDepth 100000 in
theorem m_named {l : Launch} (htr : l.stackTraces = false) {E : kE} {A : Nat → Prop} {C : kC} {L : kL} {R : Int32} {M : kM2} {Q : kQ2} (h : isM E C L R M Q) {d : Nat} (hd : d < 4) (ho : Q 10 d ≤ 512) (x : Int32) : kM l yX6_named cX6_named 4 (some .int) 2 44 0 0 E A C L [.ref (L (30, 0, 0)), .int (nI d), .int x] (fun v C' L' => (∃ r, v = some (.int r) ∧ mNm M Q d x r) ∧ L = L' ∧ C = C') := by
  refine kM.of htr (by decide) (Nat.le_of_ble_eq_true rfl) (fun Γ hl hR hN hnm X hE => ?_)
  refine k_lo (lo' := [(0, .ref (L (30, 0, 0))), (1, .int (nI d)), (2, .int x)]) ⟨rfl, rfl, rfl, trivial⟩ ?_
  refine k_aload_n X dX6_named_0 rfl rfl ?_
  refine k_iload_n X dX6_named_1 rfl rfl ?_
  refine k_iload_n X dX6_named_2 rfl rfl ?_
  refine k_callV (rest := []) X kv_X6_ownPlace kb_445 (m_ownPlace X.tr h hd ho x) h.1 rfl rfl rfl rfl rfl (Nat.le_of_ble_eq_true rfl) ⟨by rw [hR]; exact Nat.le_of_ble_eq_true rfl, by rw [hR]; exact Nat.le_of_ble_eq_true rfl⟩ ⟨by rw [hR]; exact Nat.le_of_ble_eq_true rfl, by rw [hR]; exact Nat.le_of_ble_eq_true rfl⟩ dX6_named_3 (fun v3 C9 L9 h9 => ?_)
  obtain ⟨⟨_, rfl, (⟨k, hk, hxk, rfl⟩ | ⟨hno, rfl⟩)⟩, rfl, rfl⟩ := h9
  ·
    refine k_istore_n X dX6_named_6 rfl (by rw [hN]; decide) ?_
    refine k_iload_n X dX6_named_7 rfl rfl ?_
    refine k_iconst (v := (-1)) X dX6_named_8 (by decide) ?_
    refine k_icmp_eq (tgt := 31) X dX6_named_9 (by decide) (fun c9 => absurd c9 (nI_n1 (by omega))) (fun c9 => ?_)
    refine k_aload_n X dX6_named_12 rfl rfl ?_
    refine k_get0 X h.1 (q := (RX6, TX6, 25)) rfl inlX6 11 (by decide) kb_67 (Or.inl rfl) rfl rfl dX6_named_13 ?_
    refine k_iload_n X dX6_named_16 rfl rfl ?_
    refine k_mld X h 11 (i := 600 * d + k) rfl (by decide) (show 600 * d + k < 2400 by omega) dX6_named_17 ?_
    refine k_iconst (v := (-1)) X dX6_named_18 (by decide) ?_
    refine k_icmp_eq (tgt := 31) X dX6_named_19 (by decide) (fun c19 => ?_) (fun c19 => ?_)
    ·
      refine k_iload_n X dX6_named_31 rfl rfl ?_
      exact k_iret X hE dX6_named_32 (by first | omega | exact Nat.le_of_ble_eq_true rfl | (dsimp only; omega)) (by first | omega | exact Nat.le_of_ble_eq_true rfl | (dsimp only; omega)) ⟨⟨_, rfl, Or.inr ⟨by first | (intro k2 hk2 e2; have e3 := kown_inj (e2.symm.trans hxk) (by omega) (by omega); subst e3; exact c19) | exact fun k2 hk2 e2 => absurd e2 (hno k2 hk2), rfl⟩⟩, rfl, rfl⟩
    ·
      refine k_aload_n X dX6_named_22 rfl rfl ?_
      refine k_get0 X h.1 (q := (RX6, TX6, 25)) rfl inlX6 11 (by decide) kb_67 (Or.inl rfl) rfl rfl dX6_named_23 ?_
      refine k_iload_n X dX6_named_26 rfl rfl ?_
      refine k_mld X h 11 (i := 600 * d + k) rfl (by decide) (show 600 * d + k < 2400 by omega) dX6_named_27 ?_
      refine k_goto (tgt := 32) X dX6_named_28 (by decide) ?_
      exact k_iret X hE dX6_named_32 (by first | omega | exact Nat.le_of_ble_eq_true rfl | (dsimp only; omega)) (by first | omega | exact Nat.le_of_ble_eq_true rfl | (dsimp only; omega)) ⟨⟨_, rfl, Or.inl ⟨k, hk, hxk, c19, rfl⟩⟩, rfl, rfl⟩
  ·
    refine k_istore_n X dX6_named_6 rfl (by rw [hN]; decide) ?_
    refine k_iload_n X dX6_named_7 rfl rfl ?_
    refine k_iconst (v := (-1)) X dX6_named_8 (by decide) ?_
    refine k_icmp_eq (tgt := 31) X dX6_named_9 (by decide) (fun c9 => ?_) (fun c9 => absurd rfl c9)
    refine k_iload_n X dX6_named_31 rfl rfl ?_
    exact k_iret X hE dX6_named_32 (by first | omega | exact Nat.le_of_ble_eq_true rfl | (dsimp only; omega)) (by first | omega | exact Nat.le_of_ble_eq_true rfl | (dsimp only; omega)) ⟨⟨_, rfl, Or.inr ⟨by first | (intro k2 hk2 e2; have e3 := kown_inj (e2.symm.trans hxk) (by omega) (by omega); subst e3; exact c19) | exact fun k2 hk2 e2 => absurd e2 (hno k2 hk2), rfl⟩⟩, rfl, rfl⟩

set_option maxHeartbeats 4000000 in
set_option maxRecDepth 100000 in
theorem m_has {l : Launch} (htr : l.stackTraces = false) {E : kE} {A : Nat → Prop} {C : kC} {L : kL} {R : Int32} {M : kM2} {Q : kQ2} (h : isM E C L R M Q) (hq : Q 1 0 ≤ 40) (hz : ∀ p, M 7 p = nI 0 ∨ M 7 p = nI 1) {d : Nat} (hd : d < 4) (ho : Q 10 d ≤ 512) (x : Int32) : kM l yX6_has cX6_has 4 (some .boolean) 3 67 0 0 E A C L [.ref (L (30, 0, 0)), .int (nI d), .int x] (fun v C' L' => ((v = some (.int (nI 1)) ∧ mHs M Q d x 1) ∨ (v = some (.int (nI 0)) ∧ mHs M Q d x 0)) ∧ L = L' ∧ C = C') := by
  refine kM.of htr (by decide) (Nat.le_of_ble_eq_true rfl) (fun Γ hl hR hN hnm X hE => ?_)
  refine k_lo (lo' := [(0, .ref (L (30, 0, 0))), (1, .int (nI d)), (2, .int x)]) ⟨rfl, rfl, rfl, trivial⟩ ?_
  refine k_aload_n X dX6_has_0 rfl rfl ?_
  refine k_iload_n X dX6_has_1 rfl rfl ?_
  refine k_iload_n X dX6_has_2 rfl rfl ?_
  refine k_callV (rest := []) X kv_X6_named kb_441 (m_named X.tr h hd ho x) h.1 rfl rfl rfl rfl rfl (Nat.le_of_ble_eq_true rfl) ⟨by rw [hR]; exact Nat.le_of_ble_eq_true rfl, by rw [hR]; exact Nat.le_of_ble_eq_true rfl⟩ ⟨by rw [hR]; exact Nat.le_of_ble_eq_true rfl, by rw [hR]; exact Nat.le_of_ble_eq_true rfl⟩ dX6_has_3 (fun v3 C9 L9 h9 => ?_)
  obtain ⟨⟨r, rfl, hr⟩, rfl, rfl⟩ := h9
  refine k_istore_n X dX6_has_6 rfl (by rw [hN]; decide) ?_
  refine k_aload_n X dX6_has_7 rfl rfl ?_
  refine k_iload_n X dX6_has_8 rfl rfl ?_
  refine k_callV (rest := []) X kv_X6_isJob kb_232 (m_isJob X.tr h hq r) h.1 rfl rfl rfl rfl rfl (Nat.le_of_ble_eq_true rfl) ⟨by rw [hR]; exact Nat.le_of_ble_eq_true rfl, by rw [hR]; exact Nat.le_of_ble_eq_true rfl⟩ ⟨by rw [hR]; exact Nat.le_of_ble_eq_true rfl, by rw [hR]; exact Nat.le_of_ble_eq_true rfl⟩ dX6_has_9 (fun v9 C9 L9 h9 => ?_)
  obtain ⟨(⟨pj, rfl⟩ | ⟨pj, rfl⟩), rfl, rfl⟩ := h9
  ·
    obtain ⟨n, hn, rfl⟩ := pj.ex (by omega)
    refine k_if_eq (tgt := 29) X dX6_has_12 (by decide) (fun c12 => absurd c12 (show ¬ ((nI 1) = 0) by decide)) (fun c12 => ?_)
    refine k_aload_n X dX6_has_15 rfl rfl ?_
    refine k_get0 X h.1 (q := (RX6, TX6, 25)) rfl inlX6 7 (by decide) kb_63 (Or.inl rfl) rfl rfl dX6_has_16 ?_
    refine k_bipush (v := (nI 40)) X dX6_has_19 (by decide) ?_
    refine k_iload_n X dX6_has_21 rfl rfl ?_
    refine k_imulN X dX6_has_22 ?_
    refine k_iload_n X dX6_has_23 rfl rfl ?_
    refine k_iaddN X dX6_has_24 ?_
    refine k_mldZ X h (i := (40 * d) + n) rfl (by omega) dX6_has_25 ?_
    rcases hz (40 * d + n) with z | z
    ·
      refine k_rw (y := nI 0) z ?_
      refine k_goto (tgt := 44) X dX6_has_26 (by decide) ?_
      exact k_zret X hE kz0 dX6_has_44 (by first | omega | exact Nat.le_of_ble_eq_true rfl | (dsimp only; omega)) (by first | omega | exact Nat.le_of_ble_eq_true rfl | (dsimp only; omega)) ⟨Or.inr (⟨rfl, _, hr, Or.inl ⟨n, hn, rfl, z⟩⟩), rfl, rfl⟩
    ·
      refine k_rw (y := nI 1) z ?_
      refine k_goto (tgt := 44) X dX6_has_26 (by decide) ?_
      exact k_zret X hE kz1 dX6_has_44 (by first | omega | exact Nat.le_of_ble_eq_true rfl | (dsimp only; omega)) (by first | omega | exact Nat.le_of_ble_eq_true rfl | (dsimp only; omega)) ⟨Or.inl (⟨rfl, _, hr, Or.inl ⟨n, hn, rfl, z⟩⟩), rfl, rfl⟩
  ·
    refine k_if_eq (tgt := 29) X dX6_has_12 (by decide) (fun c12 => ?_) (fun c12 => absurd (show (nI 0) = 0 by decide) c12)
    refine k_aload_n X dX6_has_29 rfl rfl ?_
    refine k_iload_n X dX6_has_30 rfl rfl ?_
    refine k_iload_n X dX6_has_31 rfl rfl ?_
    refine k_callV (rest := []) X kv_X6_ownPlace kb_445 (m_ownPlace X.tr h hd ho r) h.1 rfl rfl rfl rfl rfl (Nat.le_of_ble_eq_true rfl) ⟨by rw [hR]; exact Nat.le_of_ble_eq_true rfl, by rw [hR]; exact Nat.le_of_ble_eq_true rfl⟩ ⟨by rw [hR]; exact Nat.le_of_ble_eq_true rfl, by rw [hR]; exact Nat.le_of_ble_eq_true rfl⟩ dX6_has_32 (fun v32 C9 L9 h9 => ?_)
    obtain ⟨⟨_, rfl, (⟨k, hk, hxk, rfl⟩ | ⟨hno, rfl⟩)⟩, rfl, rfl⟩ := h9
    ·
      refine k_iconst (v := (-1)) X dX6_has_35 (by decide) ?_
      refine k_icmp_eq (tgt := 43) X dX6_has_36 (by decide) (fun c36 => absurd c36 (nI_n1 (by omega))) (fun c36 => ?_)
      refine k_iconst (v := (nI 1)) X dX6_has_39 (by decide) ?_
      refine k_goto (tgt := 44) X dX6_has_40 (by decide) ?_
      exact k_zret X hE kz1 dX6_has_44 (by first | omega | exact Nat.le_of_ble_eq_true rfl | (dsimp only; omega)) (by first | omega | exact Nat.le_of_ble_eq_true rfl | (dsimp only; omega)) ⟨Or.inl (⟨rfl, _, hr, Or.inr ⟨pj, Or.inl ⟨rfl, k, hk, hxk⟩⟩⟩), rfl, rfl⟩
    ·
      refine k_iconst (v := (-1)) X dX6_has_35 (by decide) ?_
      refine k_icmp_eq (tgt := 43) X dX6_has_36 (by decide) (fun c36 => ?_) (fun c36 => absurd rfl c36)
      refine k_iconst (v := (nI 0)) X dX6_has_43 (by decide) ?_
      exact k_zret X hE kz0 dX6_has_44 (by first | omega | exact Nat.le_of_ble_eq_true rfl | (dsimp only; omega)) (by first | omega | exact Nat.le_of_ble_eq_true rfl | (dsimp only; omega)) ⟨Or.inr (⟨rfl, _, hr, Or.inr ⟨pj, Or.inr ⟨rfl, hno⟩⟩⟩), rfl, rfl⟩
