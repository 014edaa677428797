set_option maxHeartbeats 4000000 in
set_option maxRecDepth 100000 in
theorem c_jobs {l : Launch} (htr : l.stackTraces = false) {E : kE} {A : Nat → Prop} {C : kC} {L : kL} {S : kI4} {N : kN3} (hX : isX E C L S N) (hO : okX S N)  : kM l yX5_jobs cX5_jobs 1 (some .int) 1 20 0 0 E A C L [.ref (L (1, 0, 0))] (fun v C' L' => v = some (.int (nI (N 1 0 0))) ∧ L = L' ∧ C = C') := by
  obtain ⟨vl2, hl2⟩ := hX.1.2.1.hd
  have hb1 := hO.1
  refine kM.of htr (by decide) (Nat.le_of_ble_eq_true rfl) (fun Γ hl hR hN hnm X hE => ?_)
  refine k_lo (lo' := [(0, .ref (L (1, 0, 0)))]) ⟨rfl, trivial⟩ ?_
  refine k_aload_n X dX5_jobs_0 rfl rfl ?_
  refine k_get0 X hX.1.1.1 (q := (RX5, TX5, 3)) rfl inlX5 0 (by decide) kb_13 (Or.inl rfl) rfl rfl dX5_jobs_1 ?_
  refine k_callV (rest := []) X kv_Jx4a65c_size_8abf5 kb_63 (c_Ls_size X.tr hX.1.2.1) hl2 rfl rfl rfl rfl rfl (Nat.le_of_ble_eq_true rfl) ⟨by rw [hR]; exact Nat.le_of_ble_eq_true rfl, by rw [hR]; exact Nat.le_of_ble_eq_true rfl⟩ ⟨by rw [hR]; exact Nat.le_of_ble_eq_true rfl, by rw [hR]; exact Nat.le_of_ble_eq_true rfl⟩ dX5_jobs_4 (fun v4 C9 L9 h9 => ?_)
  obtain ⟨rfl, rfl, rfl⟩ := h9
  exact k_iret X hE dX5_jobs_7 (by first | omega | exact Nat.le_of_ble_eq_true rfl | (dsimp only; omega)) (by first | omega | exact Nat.le_of_ble_eq_true rfl | (dsimp only; omega)) ⟨rfl, rfl, rfl⟩

set_option maxHeartbeats 4000000 in
set_option maxRecDepth 100000 in
theorem c_done {l : Launch} (htr : l.stackTraces = false) {E : kE} {A : Nat → Prop} {C : kC} {L : kL} {S : kI4} {N : kN3} (hX : isX E C L S N) (hO : okX S N)  : kM l yX5_done cX5_done 1 (some .int) 0 0 0 0 E A C L [.ref (L (1, 0, 0))] (fun v C' L' => v = some (.int (S 12 0 0 0)) ∧ L = L' ∧ C = C') := by
  refine kM.of htr (by decide) (Nat.le_of_ble_eq_true rfl) (fun Γ hl hR hN hnm X hE => ?_)
  refine k_lo (lo' := [(0, .ref (L (1, 0, 0)))]) ⟨rfl, trivial⟩ ?_
  refine k_aload_n X dX5_done_0 rfl rfl ?_
  refine k_get0 X hX.1.1.1 (q := (RX5, TX5, 3)) rfl inlX5 2 (by decide) kb_16 (Or.inl rfl) rfl rfl dX5_done_1 ?_
  exact k_iret X hE dX5_done_4 (by first | omega | exact Nat.le_of_ble_eq_true rfl | (dsimp only; omega)) (by first | omega | exact Nat.le_of_ble_eq_true rfl | (dsimp only; omega)) ⟨rfl, rfl, rfl⟩

set_option maxHeartbeats 4000000 in
set_option maxRecDepth 100000 in
theorem c_crew {l : Launch} (htr : l.stackTraces = false) {E : kE} {A : Nat → Prop} {C : kC} {L : kL} {S : kI4} {N : kN3} (hX : isX E C L S N) (hO : okX S N) (job : Int32) : kMX l yX5_crew cX5_crew 2 (some .int) 7 103 1 6 E A C L [.ref (L (1, 0, 0)), .int job] (fun v C' L' => (∃ i, i < N 1 0 0 ∧ job = nI i ∧ v = some (.int (S 2 i 0 0))) ∧ L = L' ∧ C = C') (fun X9 => (X9 = eIO ∧ ¬ kix job (N 1 0 0))) := by
  obtain ⟨vl2, hl2⟩ := hX.1.2.1.hd
  have hb1 := hO.1
  refine kMX.of htr (by decide) (Nat.le_of_ble_eq_true rfl) (fun Γ hl hR hN X hE hT => ?_)
  refine k_lo (lo' := [(0, .ref (L (1, 0, 0))), (1, .int job)]) ⟨rfl, rfl, trivial⟩ ?_
  refine k_aload_n X dX5_crew_0 rfl rfl ?_
  refine k_iload_n X dX5_crew_1 rfl rfl ?_
  refine k_callVX (rest := []) X hT kv_X5_jobAt kb_168 (c_jobAt X.tr hX hO job) (fun _ h => ⟨h, rfl, rfl⟩) hX.1.1.1 rfl rfl rfl rfl rfl (Nat.le_of_ble_eq_true rfl) ⟨by rw [hR]; exact Nat.le_of_ble_eq_true rfl, by rw [hR]; exact Nat.le_of_ble_eq_true rfl⟩ ⟨by rw [hR]; exact Nat.le_of_ble_eq_true rfl, by rw [hR]; exact Nat.le_of_ble_eq_true rfl⟩ ⟨by omega, by omega⟩ dX5_crew_2 (fun v2 C9 L9 h9 => ?_)
  obtain ⟨⟨i, hi, rfl, rfl⟩, rfl, rfl⟩ := h9
  refine k_get0 X (hX.1.2.2.2 i hi).1 (q := (RX3, TX3, 3)) rfl inlX3 1 (by decide) kb_167 (Or.inl rfl) rfl rfl dX5_crew_5 ?_
  exact k_iret X hE dX5_crew_8 (by first | omega | exact Nat.le_of_ble_eq_true rfl | (dsimp only; omega)) (by first | omega | exact Nat.le_of_ble_eq_true rfl | (dsimp only; omega)) ⟨⟨i, hi, rfl, rfl⟩, rfl, rfl⟩

set_option maxHeartbeats 4000000 in
set_option maxRecDepth 100000 in
theorem c_site {l : Launch} (htr : l.stackTraces = false) {E : kE} {A : Nat → Prop} {C : kC} {L : kL} {S : kI4} {N : kN3} (hX : isX E C L S N) (hO : okX S N) (job : Int32) : kMX l yX5_site cX5_site 2 (some .int) 7 103 1 6 E A C L [.ref (L (1, 0, 0)), .int job] (fun v C' L' => (∃ i, i < N 1 0 0 ∧ job = nI i ∧ v = some (.int (S 1 i 0 0))) ∧ L = L' ∧ C = C') (fun X9 => (X9 = eIO ∧ ¬ kix job (N 1 0 0))) := by
  obtain ⟨vl2, hl2⟩ := hX.1.2.1.hd
  have hb1 := hO.1
  refine kMX.of htr (by decide) (Nat.le_of_ble_eq_true rfl) (fun Γ hl hR hN X hE hT => ?_)
  refine k_lo (lo' := [(0, .ref (L (1, 0, 0))), (1, .int job)]) ⟨rfl, rfl, trivial⟩ ?_
  refine k_aload_n X dX5_site_0 rfl rfl ?_
  refine k_iload_n X dX5_site_1 rfl rfl ?_
  refine k_callVX (rest := []) X hT kv_X5_jobAt kb_168 (c_jobAt X.tr hX hO job) (fun _ h => ⟨h, rfl, rfl⟩) hX.1.1.1 rfl rfl rfl rfl rfl (Nat.le_of_ble_eq_true rfl) ⟨by rw [hR]; exact Nat.le_of_ble_eq_true rfl, by rw [hR]; exact Nat.le_of_ble_eq_true rfl⟩ ⟨by rw [hR]; exact Nat.le_of_ble_eq_true rfl, by rw [hR]; exact Nat.le_of_ble_eq_true rfl⟩ ⟨by omega, by omega⟩ dX5_site_2 (fun v2 C9 L9 h9 => ?_)
  obtain ⟨⟨i, hi, rfl, rfl⟩, rfl, rfl⟩ := h9
  refine k_get0 X (hX.1.2.2.2 i hi).1 (q := (RX3, TX3, 3)) rfl inlX3 0 (by decide) kb_394 (Or.inl rfl) rfl rfl dX5_site_5 ?_
  exact k_iret X hE dX5_site_8 (by first | omega | exact Nat.le_of_ble_eq_true rfl | (dsimp only; omega)) (by first | omega | exact Nat.le_of_ble_eq_true rfl | (dsimp only; omega)) ⟨⟨i, hi, rfl, rfl⟩, rfl, rfl⟩

set_option maxHeartbeats 4000000 in
set_option maxRecDepth 100000 in
theorem c_value {l : Launch} (htr : l.stackTraces = false) {E : kE} {A : Nat → Prop} {C : kC} {L : kL} {S : kI4} {N : kN3} (hX : isX E C L S N) (hO : okX S N) (job f : Int32) : kMX l yX5_value cX5_value 4 (some .int) 8 124 2 12 E A C L [.ref (L (1, 0, 0)), .int job, .int f] (fun v C' L' => (∃ i, i < N 1 0 0 ∧ job = nI i ∧ kin f (nI 0) (nI 1) ∧ v = some (.int (if f = nI 0 then S 3 i 0 0 else S 3 i 0 1))) ∧ L = L' ∧ C = C') (fun X9 => (X9 = eIO ∧ ¬ kix job (N 1 0 0)) ∨ (X9 = eIA ∧ kix job (N 1 0 0) ∧ ¬ (kin f (nI 0) (nI 1)))) := by
  obtain ⟨vl2, hl2⟩ := hX.1.2.1.hd
  have hb1 := hO.1
  refine kMX.of htr (by decide) (Nat.le_of_ble_eq_true rfl) (fun Γ hl hR hN X hE hT => ?_)
  refine k_lo (lo' := [(0, .ref (L (1, 0, 0))), (1, .int job), (2, .int f)]) ⟨rfl, rfl, rfl, trivial⟩ ?_
  refine k_aload_n X dX5_value_0 rfl rfl ?_
  refine k_iload_n X dX5_value_1 rfl rfl ?_
  refine k_callVX (rest := []) X hT kv_X5_jobAt kb_168 (c_jobAt X.tr hX hO job) (fun _ h => ⟨Or.inl h, rfl, rfl⟩) hX.1.1.1 rfl rfl rfl rfl rfl (Nat.le_of_ble_eq_true rfl) ⟨by rw [hR]; exact Nat.le_of_ble_eq_true rfl, by rw [hR]; exact Nat.le_of_ble_eq_true rfl⟩ ⟨by rw [hR]; exact Nat.le_of_ble_eq_true rfl, by rw [hR]; exact Nat.le_of_ble_eq_true rfl⟩ ⟨by omega, by omega⟩ dX5_value_2 (fun v2 C9 L9 h9 => ?_)
  obtain ⟨⟨i, hi, rfl, rfl⟩, rfl, rfl⟩ := h9
  refine k_get0 X (hX.1.2.2.2 i hi).1 (q := (RX3, TX3, 3)) rfl inlX3 2 (by decide) kb_198 (Or.inl rfl) rfl rfl dX5_value_5 ?_
  refine k_astore_n X dX5_value_8 rfl (by rw [hN]; decide) ?_
  refine k_iload_n X dX5_value_9 rfl rfl ?_
  refine k_callSX (rest := []) X hT ks_X5_checkField kb_202 (c_checkField X.tr f) (fun _ h => ⟨Or.inr ⟨h.1, kix.of hi (by omega), h.2⟩, rfl, rfl⟩) rfl rfl (Nat.le_of_ble_eq_true rfl) ⟨by rw [hR]; exact Nat.le_of_ble_eq_true rfl, by rw [hR]; exact Nat.le_of_ble_eq_true rfl⟩ ⟨by rw [hR]; exact Nat.le_of_ble_eq_true rfl, by rw [hR]; exact Nat.le_of_ble_eq_true rfl⟩ ⟨by omega, by omega⟩ dX5_value_10 (fun v10 C9 L9 h9 => ?_)
  obtain ⟨hp, rfl, rfl, rfl⟩ := h9
  refine k_aload_n X dX5_value_13 rfl rfl ?_
  refine k_iload_n X dX5_value_14 rfl rfl ?_
  refine k_callV (rest := []) X kv_X2_valueOf kb_402 (c_X2_valueOf X.tr f (hX.1.2.2.2 i hi).2) (hX.1.2.2.2 i hi).2 rfl rfl rfl rfl rfl (Nat.le_of_ble_eq_true rfl) ⟨by rw [hR]; exact Nat.le_of_ble_eq_true rfl, by rw [hR]; exact Nat.le_of_ble_eq_true rfl⟩ ⟨by rw [hR]; exact Nat.le_of_ble_eq_true rfl, by rw [hR]; exact Nat.le_of_ble_eq_true rfl⟩ dX5_value_15 (fun v15 C9 L9 h9 => ?_)
  obtain ⟨rfl, rfl, rfl⟩ := h9
  exact k_iret X hE dX5_value_18 (by first | omega | exact Nat.le_of_ble_eq_true rfl | (dsimp only; omega)) (by first | omega | exact Nat.le_of_ble_eq_true rfl | (dsimp only; omega)) ⟨⟨i, hi, rfl, hp, rfl⟩, rfl, rfl⟩

set_option maxHeartbeats 4000000 in
set_option maxRecDepth 100000 in
theorem c_version {l : Launch} (htr : l.stackTraces = false) {E : kE} {A : Nat → Prop} {C : kC} {L : kL} {S : kI4} {N : kN3} (hX : isX E C L S N) (hO : okX S N) (job f : Int32) : kMX l yX5_version cX5_version 4 (some .int) 8 124 2 12 E A C L [.ref (L (1, 0, 0)), .int job, .int f] (fun v C' L' => (∃ i, i < N 1 0 0 ∧ job = nI i ∧ kin f (nI 0) (nI 1) ∧ v = some (.int (if f = nI 0 then S 3 i 0 2 else S 3 i 0 3))) ∧ L = L' ∧ C = C') (fun X9 => (X9 = eIO ∧ ¬ kix job (N 1 0 0)) ∨ (X9 = eIA ∧ kix job (N 1 0 0) ∧ ¬ (kin f (nI 0) (nI 1)))) := by
  obtain ⟨vl2, hl2⟩ := hX.1.2.1.hd
  have hb1 := hO.1
  refine kMX.of htr (by decide) (Nat.le_of_ble_eq_true rfl) (fun Γ hl hR hN X hE hT => ?_)
  refine k_lo (lo' := [(0, .ref (L (1, 0, 0))), (1, .int job), (2, .int f)]) ⟨rfl, rfl, rfl, trivial⟩ ?_
  refine k_aload_n X dX5_version_0 rfl rfl ?_
  refine k_iload_n X dX5_version_1 rfl rfl ?_
  refine k_callVX (rest := []) X hT kv_X5_jobAt kb_168 (c_jobAt X.tr hX hO job) (fun _ h => ⟨Or.inl h, rfl, rfl⟩) hX.1.1.1 rfl rfl rfl rfl rfl (Nat.le_of_ble_eq_true rfl) ⟨by rw [hR]; exact Nat.le_of_ble_eq_true rfl, by rw [hR]; exact Nat.le_of_ble_eq_true rfl⟩ ⟨by rw [hR]; exact Nat.le_of_ble_eq_true rfl, by rw [hR]; exact Nat.le_of_ble_eq_true rfl⟩ ⟨by omega, by omega⟩ dX5_version_2 (fun v2 C9 L9 h9 => ?_)
  obtain ⟨⟨i, hi, rfl, rfl⟩, rfl, rfl⟩ := h9
  refine k_get0 X (hX.1.2.2.2 i hi).1 (q := (RX3, TX3, 3)) rfl inlX3 2 (by decide) kb_198 (Or.inl rfl) rfl rfl dX5_version_5 ?_
  refine k_astore_n X dX5_version_8 rfl (by rw [hN]; decide) ?_
  refine k_iload_n X dX5_version_9 rfl rfl ?_
  refine k_callSX (rest := []) X hT ks_X5_checkField kb_202 (c_checkField X.tr f) (fun _ h => ⟨Or.inr ⟨h.1, kix.of hi (by omega), h.2⟩, rfl, rfl⟩) rfl rfl (Nat.le_of_ble_eq_true rfl) ⟨by rw [hR]; exact Nat.le_of_ble_eq_true rfl, by rw [hR]; exact Nat.le_of_ble_eq_true rfl⟩ ⟨by rw [hR]; exact Nat.le_of_ble_eq_true rfl, by rw [hR]; exact Nat.le_of_ble_eq_true rfl⟩ ⟨by omega, by omega⟩ dX5_version_10 (fun v10 C9 L9 h9 => ?_)
  obtain ⟨hp, rfl, rfl, rfl⟩ := h9
  refine k_aload_n X dX5_version_13 rfl rfl ?_
  refine k_iload_n X dX5_version_14 rfl rfl ?_
  refine k_callV (rest := []) X kv_X2_versionOf kb_209 (c_X2_versionOf X.tr f (hX.1.2.2.2 i hi).2) (hX.1.2.2.2 i hi).2 rfl rfl rfl rfl rfl (Nat.le_of_ble_eq_true rfl) ⟨by rw [hR]; exact Nat.le_of_ble_eq_true rfl, by rw [hR]; exact Nat.le_of_ble_eq_true rfl⟩ ⟨by rw [hR]; exact Nat.le_of_ble_eq_true rfl, by rw [hR]; exact Nat.le_of_ble_eq_true rfl⟩ dX5_version_15 (fun v15 C9 L9 h9 => ?_)
  obtain ⟨rfl, rfl, rfl⟩ := h9
  exact k_iret X hE dX5_version_18 (by first | omega | exact Nat.le_of_ble_eq_true rfl | (dsimp only; omega)) (by first | omega | exact Nat.le_of_ble_eq_true rfl | (dsimp only; omega)) ⟨⟨i, hi, rfl, hp, rfl⟩, rfl, rfl⟩

theorem kneD2 {f d' k f0 d k0 : Nat} (z : ¬ (f = f0 ∧ d' = d)) : ((f, d', k) : kT) ≠ (f0, d, k0) := kneD z

set_option maxHeartbeats 4000000 in
set_option maxRecDepth 100000 in
theorem c_give {l : Launch} (htr : l.stackTraces = false) {E : kE} {A : Nat → Prop} {C : kC} {L : kL} {S : kI4} {N : kN3} (hX : isX E C L S N) (hO : okX S N) (job cr : Int32) : kMX l yX5_give cX5_give 5 (some .int) 7 104 2 12 E A C L [.ref (L (1, 0, 0)), .int job, .int cr] (fun v C' L' => (∃ i, i < N 1 0 0 ∧ job = nI i ∧ kin cr (nI 0) (nI 3) ∧ v = some (.int (S 2 i 0 0)) ∧ isX E C' L' (w4 S 2 i 0 0 cr) N) ∧ L = L' ∧ kFr C L C' L') (fun X9 => (X9 = eIO ∧ ¬ kix job (N 1 0 0)) ∨ (X9 = eIA ∧ kix job (N 1 0 0) ∧ ¬ (kin cr (nI 0) (nI 3)))) := by
  obtain ⟨vl2, hl2⟩ := hX.1.2.1.hd
  have hb1 := hO.1
  refine kMX.of htr (by decide) (Nat.le_of_ble_eq_true rfl) (fun Γ hl hR hN X hE hT => ?_)
  refine k_lo (lo' := [(0, .ref (L (1, 0, 0))), (1, .int job), (2, .int cr)]) ⟨rfl, rfl, rfl, trivial⟩ ?_
  refine k_aload_n X dX5_give_0 rfl rfl ?_
  refine k_iload_n X dX5_give_1 rfl rfl ?_
  refine k_callVX (rest := []) X hT kv_X5_jobAt kb_168 (c_jobAt X.tr hX hO job) (fun _ h => ⟨Or.inl h, rfl, rfl⟩) hX.1.1.1 rfl rfl rfl rfl rfl (Nat.le_of_ble_eq_true rfl) ⟨by rw [hR]; exact Nat.le_of_ble_eq_true rfl, by rw [hR]; exact Nat.le_of_ble_eq_true rfl⟩ ⟨by rw [hR]; exact Nat.le_of_ble_eq_true rfl, by rw [hR]; exact Nat.le_of_ble_eq_true rfl⟩ ⟨by omega, by omega⟩ dX5_give_2 (fun v2 C9 L9 h9 => ?_)
  obtain ⟨⟨i, hi, rfl, rfl⟩, rfl, rfl⟩ := h9
  refine k_astore_n X dX5_give_5 rfl (by rw [hN]; decide) ?_
  refine k_iload_n X dX5_give_6 rfl rfl ?_
  refine k_iconst (v := (nI 0)) X dX5_give_7 (by decide) ?_
  refine k_iconst (v := (nI 3)) X dX5_give_8 (by decide) ?_
  refine k_callSX (rest := []) X hT ks_X5_checkRange kb_84 (c_checkRange X.tr cr (nI 0) (nI 3)) (fun _ h => ⟨Or.inr ⟨h.1, kix.of hi (by omega), h.2⟩, rfl, rfl⟩) rfl rfl (Nat.le_of_ble_eq_true rfl) ⟨by rw [hR]; exact Nat.le_of_ble_eq_true rfl, by rw [hR]; exact Nat.le_of_ble_eq_true rfl⟩ ⟨by rw [hR]; exact Nat.le_of_ble_eq_true rfl, by rw [hR]; exact Nat.le_of_ble_eq_true rfl⟩ ⟨by omega, by omega⟩ dX5_give_9 (fun v9 C9 L9 h9 => ?_)
  obtain ⟨hp, rfl, rfl, rfl⟩ := h9
  refine k_aload_n X dX5_give_12 rfl rfl ?_
  refine k_get0 X (hX.1.2.2.2 i hi).1 (q := (RX3, TX3, 3)) rfl inlX3 1 (by decide) kb_167 (Or.inl rfl) rfl rfl dX5_give_13 ?_
  refine k_istore X dX5_give_16 (by rw [hN]; decide) ?_
  refine k_aload_n X dX5_give_18 rfl rfl ?_
  refine k_iload_n X dX5_give_19 rfl rfl ?_
  refine k_put1 X (hX.1.2.2.2 i hi).1 (fs9 := [.int (S 1 i 0 0), .int cr, .ref (L (15, i, 0))]) (q := (RX3, TX3, 3)) rfl inlX3 tyX3 tyX3_ok nmX3 1 (by decide) kb_167 (Or.inl rfl) (Or.inl rfl) rfl rfl rfl (Nat.le_of_ble_eq_true rfl) rfl dX5_give_20 ?_
  refine k_iload X dX5_give_23 rfl ?_
  exact k_iret X hE dX5_give_25 (by first | omega | exact Nat.le_of_ble_eq_true rfl | (dsimp only; omega)) (by first | omega | exact Nat.le_of_ble_eq_true rfl | (dsimp only; omega)) ⟨⟨i, hi, rfl, hp, rfl, isX.j14 (kup_s.trans (by simp [w4])) hX (fun f d' k z => kup_n (kneD2 z)) (fun _ _ _ _ => rfl) (fun f d' k j z => w4_n (by omega)) (fun _ _ _ _ => rfl)⟩, rfl, kFr.rf.up (by decide)⟩

set_option maxHeartbeats 4000000 in
set_option maxRecDepth 100000 in
theorem c_set {l : Launch} (htr : l.stackTraces = false) {E : kE} {A : Nat → Prop} {C : kC} {L : kL} {S : kI4} {N : kN3} (hX : isX E C L S N) (hO : okX S N) (job f x : Int32) : kMX l yX5_set cX5_set 5 (some .int) 9 145 3 18 E A C L [.ref (L (1, 0, 0)), .int job, .int f, .int x] (fun v C' L' => (∃ i, i < N 1 0 0 ∧ job = nI i ∧ (kin f (nI 0) (nI 1) ∧ kin x (nI 0) (if f = nI 0 then nI 2 else nI 10000)) ∧ v = some (.int (if f = nI 0 then sPut S 3 i 0 f x 3 i 0 2 else sPut S 3 i 0 f x 3 i 0 3)) ∧ isX E C' L' (sPut S 3 i 0 f x) N) ∧ L = L' ∧ kFr C L C' L') (fun X9 => (X9 = eIO ∧ ¬ kix job (N 1 0 0)) ∨ (X9 = eIA ∧ kix job (N 1 0 0) ∧ ¬ (kin f (nI 0) (nI 1) ∧ kin x (nI 0) (if f = nI 0 then nI 2 else nI 10000)))) := by
  obtain ⟨vl2, hl2⟩ := hX.1.2.1.hd
  have hb1 := hO.1
  refine kMX.of htr (by decide) (Nat.le_of_ble_eq_true rfl) (fun Γ hl hR hN X hE hT => ?_)
  refine k_lo (lo' := [(0, .ref (L (1, 0, 0))), (1, .int job), (2, .int f), (3, .int x)]) ⟨rfl, rfl, rfl, rfl, trivial⟩ ?_
  refine k_aload_n X dX5_set_0 rfl rfl ?_
  refine k_iload_n X dX5_set_1 rfl rfl ?_
  refine k_callVX (rest := []) X hT kv_X5_jobAt kb_168 (c_jobAt X.tr hX hO job) (fun _ h => ⟨Or.inl h, rfl, rfl⟩) hX.1.1.1 rfl rfl rfl rfl rfl (Nat.le_of_ble_eq_true rfl) ⟨by rw [hR]; exact Nat.le_of_ble_eq_true rfl, by rw [hR]; exact Nat.le_of_ble_eq_true rfl⟩ ⟨by rw [hR]; exact Nat.le_of_ble_eq_true rfl, by rw [hR]; exact Nat.le_of_ble_eq_true rfl⟩ ⟨by omega, by omega⟩ dX5_set_2 (fun v2 C9 L9 h9 => ?_)
  obtain ⟨⟨i, hi, rfl, rfl⟩, rfl, rfl⟩ := h9
  refine k_get0 X (hX.1.2.2.2 i hi).1 (q := (RX3, TX3, 3)) rfl inlX3 2 (by decide) kb_198 (Or.inl rfl) rfl rfl dX5_set_5 ?_
  refine k_astore X dX5_set_8 (by rw [hN]; decide) ?_
  refine k_iload_n X dX5_set_10 rfl rfl ?_
  refine k_iload_n X dX5_set_11 rfl rfl ?_
  refine k_callSX (rest := []) X hT ks_X5_checkValue kb_199 (c_checkValue X.tr f x) (fun _ h => ⟨Or.inr ⟨h.1, kix.of hi (by omega), h.2⟩, rfl, rfl⟩) rfl rfl (Nat.le_of_ble_eq_true rfl) ⟨by rw [hR]; exact Nat.le_of_ble_eq_true rfl, by rw [hR]; exact Nat.le_of_ble_eq_true rfl⟩ ⟨by rw [hR]; exact Nat.le_of_ble_eq_true rfl, by rw [hR]; exact Nat.le_of_ble_eq_true rfl⟩ ⟨by omega, by omega⟩ dX5_set_12 (fun v12 C9 L9 h9 => ?_)
  obtain ⟨hp, rfl, rfl, rfl⟩ := h9
  refine k_aload X dX5_set_15 rfl ?_
  refine k_iload_n X dX5_set_17 rfl rfl ?_
  refine k_iload_n X dX5_set_18 rfl rfl ?_
  refine k_callV (rest := []) X kv_X2_put kb_205 (c_X2_putA X.tr f x (t := (15, i, 0)) (S := S) (fS := 3) (a := i) (b := 0) rfl (hX.1.2.2.2 i hi).2) (hX.1.2.2.2 i hi).2 rfl rfl rfl rfl rfl (Nat.le_of_ble_eq_true rfl) ⟨by rw [hR]; exact Nat.le_of_ble_eq_true rfl, by rw [hR]; exact Nat.le_of_ble_eq_true rfl⟩ ⟨by rw [hR]; exact Nat.le_of_ble_eq_true rfl, by rw [hR]; exact Nat.le_of_ble_eq_true rfl⟩ dX5_set_19 (fun v19 C9 L9 h9 => ?_)
  obtain ⟨rfl, rfl, rfl⟩ := h9
  refine k_aload X dX5_set_22 rfl ?_
  refine k_iload_n X dX5_set_24 rfl rfl ?_
  refine k_callV (rest := []) X kv_X2_versionOf kb_209 (c_X2_versionOfA X.tr f (t := (15, i, 0)) rfl kup_s) kup_s rfl rfl rfl rfl rfl (Nat.le_of_ble_eq_true rfl) ⟨by rw [hR]; exact Nat.le_of_ble_eq_true rfl, by rw [hR]; exact Nat.le_of_ble_eq_true rfl⟩ ⟨by rw [hR]; exact Nat.le_of_ble_eq_true rfl, by rw [hR]; exact Nat.le_of_ble_eq_true rfl⟩ dX5_set_25 (fun v25 C9 L9 h9 => ?_)
  obtain ⟨rfl, rfl, rfl⟩ := h9
  exact k_iret X hE dX5_set_28 (by first | omega | exact Nat.le_of_ble_eq_true rfl | (dsimp only; omega)) (by first | omega | exact Nat.le_of_ble_eq_true rfl | (dsimp only; omega)) ⟨⟨i, hi, rfl, hp, rfl, isX.f15 kup_s hX (fun f d' k z => kup_n (kneD2 z)) (fun _ _ _ _ => rfl) (fun f d' k j z => sPut_n (by omega)) (fun _ _ _ _ => rfl)⟩, rfl, kFr.rf.up (by decide)⟩

set_option maxHeartbeats 4000000 in
set_option maxRecDepth 100000 in
theorem c_held {l : Launch} (htr : l.stackTraces = false) {E : kE} {A : Nat → Prop} {C : kC} {L : kL} {S : kI4} {N : kN3} (hX : isX E C L S N) (hO : okX S N) (dv : Int32) : kMX l yX5_held cX5_held 2 (some .int) 7 103 1 6 E A C L [.ref (L (1, 0, 0)), .int dv] (fun v C' L' => (∃ d, d < 4 ∧ dv = nI d ∧ v = some (.int (S 6 d 0 0 + S 7 d 0 0))) ∧ L = L' ∧ C = C') (fun X9 => (X9 = eIO ∧ ¬ kix dv 4)) := by
  obtain ⟨vl2, hl2⟩ := hX.1.2.1.hd
  have hb1 := hO.1
  refine kMX.of htr (by decide) (Nat.le_of_ble_eq_true rfl) (fun Γ hl hR hN X hE hT => ?_)
  refine k_lo (lo' := [(0, .ref (L (1, 0, 0))), (1, .int dv)]) ⟨rfl, rfl, trivial⟩ ?_
  refine k_aload_n X dX5_held_0 rfl rfl ?_
  refine k_iload_n X dX5_held_1 rfl rfl ?_
  refine k_callVX (rest := []) X hT kv_X5_deviceAt kb_221 (c_deviceAt X.tr hX hO dv) (fun _ h => ⟨h, rfl, rfl⟩) hX.1.1.1 rfl rfl rfl rfl rfl (Nat.le_of_ble_eq_true rfl) ⟨by rw [hR]; exact Nat.le_of_ble_eq_true rfl, by rw [hR]; exact Nat.le_of_ble_eq_true rfl⟩ ⟨by rw [hR]; exact Nat.le_of_ble_eq_true rfl, by rw [hR]; exact Nat.le_of_ble_eq_true rfl⟩ ⟨by omega, by omega⟩ dX5_held_2 (fun v2 C9 L9 h9 => ?_)
  obtain ⟨⟨d, hd, rfl, rfl⟩, rfl, rfl⟩ := h9
  obtain ⟨vl8, hl8⟩ := (hX.2 d hd).2.2.2.1.hd
  obtain ⟨vl10, hl10⟩ := (hX.2 d hd).2.2.2.2.1.hd
  obtain ⟨vl12, hl12⟩ := (hX.2 d hd).2.2.2.2.2.1.hd
  have hb2 := (hO.2 d hd).1
  have hb3 := (hO.2 d hd).2.1
  have hb4 := (hO.2 d hd).2.2.1
  have hb5 := (hO.2 d hd).2.2.2.1
  have hb6 := (hO.2 d hd).2.2.2.2
  refine k_callV (rest := []) X kv_X1_heldCount kb_250 (c_heldCount X.tr hX hO hd) (hX.2 d hd).1 rfl rfl rfl rfl rfl (Nat.le_of_ble_eq_true rfl) ⟨by rw [hR]; exact Nat.le_of_ble_eq_true rfl, by rw [hR]; exact Nat.le_of_ble_eq_true rfl⟩ ⟨by rw [hR]; exact Nat.le_of_ble_eq_true rfl, by rw [hR]; exact Nat.le_of_ble_eq_true rfl⟩ dX5_held_5 (fun v5 C9 L9 h9 => ?_)
  obtain ⟨rfl, rfl, rfl⟩ := h9
  exact k_iret X hE dX5_held_8 (by first | omega | exact Nat.le_of_ble_eq_true rfl | (dsimp only; omega)) (by first | omega | exact Nat.le_of_ble_eq_true rfl | (dsimp only; omega)) ⟨⟨d, hd, rfl, rfl⟩, rfl, rfl⟩

set_option maxHeartbeats 4000000 in
set_option maxRecDepth 100000 in
theorem c_waiting {l : Launch} (htr : l.stackTraces = false) {E : kE} {A : Nat → Prop} {C : kC} {L : kL} {S : kI4} {N : kN3} (hX : isX E C L S N) (hO : okX S N) (dv : Int32) : kMX l yX5_waiting cX5_waiting 2 (some .int) 7 103 1 6 E A C L [.ref (L (1, 0, 0)), .int dv] (fun v C' L' => (∃ d, d < 4 ∧ dv = nI d ∧ v = some (.int (nI (N 3 d 0 - N 4 d 0)))) ∧ L = L' ∧ C = C') (fun X9 => (X9 = eIO ∧ ¬ kix dv 4)) := by
  obtain ⟨vl2, hl2⟩ := hX.1.2.1.hd
  have hb1 := hO.1
  refine kMX.of htr (by decide) (Nat.le_of_ble_eq_true rfl) (fun Γ hl hR hN X hE hT => ?_)
  refine k_lo (lo' := [(0, .ref (L (1, 0, 0))), (1, .int dv)]) ⟨rfl, rfl, trivial⟩ ?_
  refine k_aload_n X dX5_waiting_0 rfl rfl ?_
  refine k_iload_n X dX5_waiting_1 rfl rfl ?_
  refine k_callVX (rest := []) X hT kv_X5_deviceAt kb_221 (c_deviceAt X.tr hX hO dv) (fun _ h => ⟨h, rfl, rfl⟩) hX.1.1.1 rfl rfl rfl rfl rfl (Nat.le_of_ble_eq_true rfl) ⟨by rw [hR]; exact Nat.le_of_ble_eq_true rfl, by rw [hR]; exact Nat.le_of_ble_eq_true rfl⟩ ⟨by rw [hR]; exact Nat.le_of_ble_eq_true rfl, by rw [hR]; exact Nat.le_of_ble_eq_true rfl⟩ ⟨by omega, by omega⟩ dX5_waiting_2 (fun v2 C9 L9 h9 => ?_)
  obtain ⟨⟨d, hd, rfl, rfl⟩, rfl, rfl⟩ := h9
  obtain ⟨vl8, hl8⟩ := (hX.2 d hd).2.2.2.1.hd
  obtain ⟨vl10, hl10⟩ := (hX.2 d hd).2.2.2.2.1.hd
  obtain ⟨vl12, hl12⟩ := (hX.2 d hd).2.2.2.2.2.1.hd
  have hb2 := (hO.2 d hd).1
  have hb3 := (hO.2 d hd).2.1
  have hb4 := (hO.2 d hd).2.2.1
  have hb5 := (hO.2 d hd).2.2.2.1
  have hb6 := (hO.2 d hd).2.2.2.2
  refine k_callV (rest := []) X kv_X1_waitingCount kb_300 (c_waitingCount X.tr hX hO hd) (hX.2 d hd).1 rfl rfl rfl rfl rfl (Nat.le_of_ble_eq_true rfl) ⟨by rw [hR]; exact Nat.le_of_ble_eq_true rfl, by rw [hR]; exact Nat.le_of_ble_eq_true rfl⟩ ⟨by rw [hR]; exact Nat.le_of_ble_eq_true rfl, by rw [hR]; exact Nat.le_of_ble_eq_true rfl⟩ dX5_waiting_5 (fun v5 C9 L9 h9 => ?_)
  obtain ⟨rfl, rfl, rfl⟩ := h9
  exact k_iret X hE dX5_waiting_8 (by first | omega | exact Nat.le_of_ble_eq_true rfl | (dsimp only; omega)) (by first | omega | exact Nat.le_of_ble_eq_true rfl | (dsimp only; omega)) ⟨⟨d, hd, rfl, rfl⟩, rfl, rfl⟩

set_option maxHeartbeats 4000000 in
set_option maxRecDepth 100000 in
theorem c_pile {l : Launch} (htr : l.stackTraces = false) {E : kE} {A : Nat → Prop} {C : kC} {L : kL} {S : kI4} {N : kN3} (hX : isX E C L S N) (hO : okX S N) (dv : Int32) : kMX l yX5_pile cX5_pile 2 (some .int) 7 103 1 6 E A C L [.ref (L (1, 0, 0)), .int dv] (fun v C' L' => (∃ d, d < 4 ∧ dv = nI d ∧ v = some (.int (nI (N 5 d 0)))) ∧ L = L' ∧ C = C') (fun X9 => (X9 = eIO ∧ ¬ kix dv 4)) := by
  obtain ⟨vl2, hl2⟩ := hX.1.2.1.hd
  have hb1 := hO.1
  refine kMX.of htr (by decide) (Nat.le_of_ble_eq_true rfl) (fun Γ hl hR hN X hE hT => ?_)
  refine k_lo (lo' := [(0, .ref (L (1, 0, 0))), (1, .int dv)]) ⟨rfl, rfl, trivial⟩ ?_
  refine k_aload_n X dX5_pile_0 rfl rfl ?_
  refine k_iload_n X dX5_pile_1 rfl rfl ?_
  refine k_callVX (rest := []) X hT kv_X5_deviceAt kb_221 (c_deviceAt X.tr hX hO dv) (fun _ h => ⟨h, rfl, rfl⟩) hX.1.1.1 rfl rfl rfl rfl rfl (Nat.le_of_ble_eq_true rfl) ⟨by rw [hR]; exact Nat.le_of_ble_eq_true rfl, by rw [hR]; exact Nat.le_of_ble_eq_true rfl⟩ ⟨by rw [hR]; exact Nat.le_of_ble_eq_true rfl, by rw [hR]; exact Nat.le_of_ble_eq_true rfl⟩ ⟨by omega, by omega⟩ dX5_pile_2 (fun v2 C9 L9 h9 => ?_)
  obtain ⟨⟨d, hd, rfl, rfl⟩, rfl, rfl⟩ := h9
  obtain ⟨vl8, hl8⟩ := (hX.2 d hd).2.2.2.1.hd
  obtain ⟨vl10, hl10⟩ := (hX.2 d hd).2.2.2.2.1.hd
  obtain ⟨vl12, hl12⟩ := (hX.2 d hd).2.2.2.2.2.1.hd
  have hb2 := (hO.2 d hd).1
  have hb3 := (hO.2 d hd).2.1
  have hb4 := (hO.2 d hd).2.2.1
  have hb5 := (hO.2 d hd).2.2.2.1
  have hb6 := (hO.2 d hd).2.2.2.2
  refine k_get0 X (hX.2 d hd).1 (q := (RX1, TX1, 9)) rfl inlX1 8 (by decide) kb_449 (Or.inl rfl) rfl rfl dX5_pile_5 ?_
  refine k_callV (rest := []) X kv_Jx4a65c_size_8abf5 kb_63 (c_Ls_size X.tr (hX.2 d hd).2.2.2.2.2.1) hl12 rfl rfl rfl rfl rfl (Nat.le_of_ble_eq_true rfl) ⟨by rw [hR]; exact Nat.le_of_ble_eq_true rfl, by rw [hR]; exact Nat.le_of_ble_eq_true rfl⟩ ⟨by rw [hR]; exact Nat.le_of_ble_eq_true rfl, by rw [hR]; exact Nat.le_of_ble_eq_true rfl⟩ dX5_pile_8 (fun v8 C9 L9 h9 => ?_)
  obtain ⟨rfl, rfl, rfl⟩ := h9
  exact k_iret X hE dX5_pile_11 (by first | omega | exact Nat.le_of_ble_eq_true rfl | (dsimp only; omega)) (by first | omega | exact Nat.le_of_ble_eq_true rfl | (dsimp only; omega)) ⟨⟨d, hd, rfl, rfl⟩, rfl, rfl⟩

set_option maxHeartbeats 4000000 in
set_option maxRecDepth 100000 in
theorem c_setRoom {l : Launch} (htr : l.stackTraces = false) {E : kE} {A : Nat → Prop} {C : kC} {L : kL} {S : kI4} {N : kN3} (hX : isX E C L S N) (hO : okX S N) (dv ro : Int32) : kMX l yX5_setRoom cX5_setRoom 5 (some .int) 7 104 2 12 E A C L [.ref (L (1, 0, 0)), .int dv, .int ro] (fun v C' L' => (∃ d, d < 4 ∧ dv = nI d ∧ kin ro (nI 0) (nI 40) ∧ v = some (.int (S 4 d 0 0)) ∧ isX E C' L' (w4 S 4 d 0 0 ro) N) ∧ L = L' ∧ kFr C L C' L') (fun X9 => (X9 = eIO ∧ ¬ kix dv 4) ∨ (X9 = eIA ∧ kix dv 4 ∧ ¬ (kin ro (nI 0) (nI 40)))) := by
  obtain ⟨vl2, hl2⟩ := hX.1.2.1.hd
  have hb1 := hO.1
  refine kMX.of htr (by decide) (Nat.le_of_ble_eq_true rfl) (fun Γ hl hR hN X hE hT => ?_)
  refine k_lo (lo' := [(0, .ref (L (1, 0, 0))), (1, .int dv), (2, .int ro)]) ⟨rfl, rfl, rfl, trivial⟩ ?_
  refine k_aload_n X dX5_setRoom_0 rfl rfl ?_
  refine k_iload_n X dX5_setRoom_1 rfl rfl ?_
  refine k_callVX (rest := []) X hT kv_X5_deviceAt kb_221 (c_deviceAt X.tr hX hO dv) (fun _ h => ⟨Or.inl h, rfl, rfl⟩) hX.1.1.1 rfl rfl rfl rfl rfl (Nat.le_of_ble_eq_true rfl) ⟨by rw [hR]; exact Nat.le_of_ble_eq_true rfl, by rw [hR]; exact Nat.le_of_ble_eq_true rfl⟩ ⟨by rw [hR]; exact Nat.le_of_ble_eq_true rfl, by rw [hR]; exact Nat.le_of_ble_eq_true rfl⟩ ⟨by omega, by omega⟩ dX5_setRoom_2 (fun v2 C9 L9 h9 => ?_)
  obtain ⟨⟨d, hd, rfl, rfl⟩, rfl, rfl⟩ := h9
  obtain ⟨vl8, hl8⟩ := (hX.2 d hd).2.2.2.1.hd
  obtain ⟨vl10, hl10⟩ := (hX.2 d hd).2.2.2.2.1.hd
  obtain ⟨vl12, hl12⟩ := (hX.2 d hd).2.2.2.2.2.1.hd
  have hb2 := (hO.2 d hd).1
  have hb3 := (hO.2 d hd).2.1
  have hb4 := (hO.2 d hd).2.2.1
  have hb5 := (hO.2 d hd).2.2.2.1
  have hb6 := (hO.2 d hd).2.2.2.2
  refine k_astore_n X dX5_setRoom_5 rfl (by rw [hN]; decide) ?_
  refine k_iload_n X dX5_setRoom_6 rfl rfl ?_
  refine k_iconst (v := (nI 0)) X dX5_setRoom_7 (by decide) ?_
  refine k_bipush (v := (nI 40)) X dX5_setRoom_8 (by decide) ?_
  refine k_callSX (rest := []) X hT ks_X5_checkRange kb_84 (c_checkRange X.tr ro (nI 0) (nI 40)) (fun _ h => ⟨Or.inr ⟨h.1, kix.of hd (by decide), h.2⟩, rfl, rfl⟩) rfl rfl (Nat.le_of_ble_eq_true rfl) ⟨by rw [hR]; exact Nat.le_of_ble_eq_true rfl, by rw [hR]; exact Nat.le_of_ble_eq_true rfl⟩ ⟨by rw [hR]; exact Nat.le_of_ble_eq_true rfl, by rw [hR]; exact Nat.le_of_ble_eq_true rfl⟩ ⟨by omega, by omega⟩ dX5_setRoom_10 (fun v10 C9 L9 h9 => ?_)
  obtain ⟨hp, rfl, rfl, rfl⟩ := h9
  refine k_aload_n X dX5_setRoom_13 rfl rfl ?_
  refine k_get0 X (hX.2 d hd).1 (q := (RX1, TX1, 9)) rfl inlX1 0 (by decide) kb_220 (Or.inl rfl) rfl rfl dX5_setRoom_14 ?_
  refine k_istore X dX5_setRoom_17 (by rw [hN]; decide) ?_
  refine k_aload_n X dX5_setRoom_19 rfl rfl ?_
  refine k_iload_n X dX5_setRoom_20 rfl rfl ?_
  refine k_put1 X (hX.2 d hd).1 (fs9 := [.int ro, .ref (L (6, d, 0)), .ref (L (7, d, 0)), .int (S 6 d 0 0), .ref (L (8, d, 0)), .int (S 7 d 0 0), .ref (L (10, d, 0)), .int (nI (N 4 d 0)), .ref (L (12, d, 0))]) (q := (RX1, TX1, 9)) rfl inlX1 tyX1 tyX1_ok nmX1 0 (by decide) kb_220 (Or.inl rfl) (Or.inl rfl) rfl rfl rfl (Nat.le_of_ble_eq_true rfl) rfl dX5_setRoom_21 ?_
  refine k_iload X dX5_setRoom_24 rfl ?_
  exact k_iret X hE dX5_setRoom_26 (by first | omega | exact Nat.le_of_ble_eq_true rfl | (dsimp only; omega)) (by first | omega | exact Nat.le_of_ble_eq_true rfl | (dsimp only; omega)) ⟨⟨d, hd, rfl, hp, rfl, isX.d5 (kup_s.trans (by simp [kDev, w4])) hX (fun f d' k z => kup_n (kneD2 z)) (fun _ _ _ _ => rfl) (fun f d' k j z => w4_n (by omega)) (fun _ _ _ _ => rfl)⟩, rfl, kFr.rf.up (by decide)⟩

set_option maxHeartbeats 4000000 in
set_option maxRecDepth 100000 in
theorem c_numberOf {l : Launch} (htr : l.stackTraces = false) {E : kE} {A : Nat → Prop} {C : kC} {L : kL} {S : kI4} {N : kN3} (hX : isX E C L S N) (hO : okX S N) (dv own : Int32) : kMX l yX5_numberOf cX5_numberOf 4 (some .int) 7 103 2 12 E A C L [.ref (L (1, 0, 0)), .int dv, .int own] (fun v C' L' => (∃ d, d < 4 ∧ dv = nI d ∧ ∃ k, k < N 2 d 0 ∧ own = nI (1000 + k) ∧ v = some (.int (S 9 d k 0))) ∧ L = L' ∧ C = C') (fun X9 => (X9 = eIO ∧ ¬ kix dv 4) ∨ (X9 = eIA ∧ ∃ d, d < 4 ∧ dv = nI d ∧ ∀ k, k < N 2 d 0 → own ≠ nI (1000 + k))) := by
  obtain ⟨vl2, hl2⟩ := hX.1.2.1.hd
  have hb1 := hO.1
  refine kMX.of htr (by decide) (Nat.le_of_ble_eq_true rfl) (fun Γ hl hR hN X hE hT => ?_)
  refine k_lo (lo' := [(0, .ref (L (1, 0, 0))), (1, .int dv), (2, .int own)]) ⟨rfl, rfl, rfl, trivial⟩ ?_
  refine k_aload_n X dX5_numberOf_0 rfl rfl ?_
  refine k_iload_n X dX5_numberOf_1 rfl rfl ?_
  refine k_callVX (rest := []) X hT kv_X5_deviceAt kb_221 (c_deviceAt X.tr hX hO dv) (fun _ h => ⟨Or.inl h, rfl, rfl⟩) hX.1.1.1 rfl rfl rfl rfl rfl (Nat.le_of_ble_eq_true rfl) ⟨by rw [hR]; exact Nat.le_of_ble_eq_true rfl, by rw [hR]; exact Nat.le_of_ble_eq_true rfl⟩ ⟨by rw [hR]; exact Nat.le_of_ble_eq_true rfl, by rw [hR]; exact Nat.le_of_ble_eq_true rfl⟩ ⟨by omega, by omega⟩ dX5_numberOf_2 (fun v2 C9 L9 h9 => ?_)
  obtain ⟨⟨d, hd, rfl, rfl⟩, rfl, rfl⟩ := h9
  obtain ⟨vl8, hl8⟩ := (hX.2 d hd).2.2.2.1.hd
  obtain ⟨vl10, hl10⟩ := (hX.2 d hd).2.2.2.2.1.hd
  obtain ⟨vl12, hl12⟩ := (hX.2 d hd).2.2.2.2.2.1.hd
  have hb2 := (hO.2 d hd).1
  have hb3 := (hO.2 d hd).2.1
  have hb4 := (hO.2 d hd).2.2.1
  have hb5 := (hO.2 d hd).2.2.2.1
  have hb6 := (hO.2 d hd).2.2.2.2
  refine k_iload_n X dX5_numberOf_5 rfl rfl ?_
  refine k_callV (rest := []) X kv_X1_madeJob kb_354 (c_madeJob X.tr hX hO hd own) (hX.2 d hd).1 rfl rfl rfl rfl rfl (Nat.le_of_ble_eq_true rfl) ⟨by rw [hR]; exact Nat.le_of_ble_eq_true rfl, by rw [hR]; exact Nat.le_of_ble_eq_true rfl⟩ ⟨by rw [hR]; exact Nat.le_of_ble_eq_true rfl, by rw [hR]; exact Nat.le_of_ble_eq_true rfl⟩ dX5_numberOf_6 (fun v6 C9 L9 h9 => ?_)
  obtain ⟨(⟨k, hk, hjob, rfl⟩ | ⟨hno, rfl⟩), rfl, rfl⟩ := h9
  ·
    refine k_astore_n X dX5_numberOf_9 rfl (by rw [hN]; decide) ?_
    refine k_aload_n X dX5_numberOf_10 rfl rfl ?_
    refine k_ifnonnull (tgt := 24) X dX5_numberOf_11 (by decide) ?_
    refine k_aload_n X dX5_numberOf_24 rfl rfl ?_
    refine k_get0 X ((hX.2 d hd).2.2.2.2.2.2.2.1 k hk).1 (q := (RX4, TX4, 2)) rfl inlX4 0 (by decide) kb_441 (Or.inl rfl) rfl rfl dX5_numberOf_25 ?_
    exact k_iret X hE dX5_numberOf_28 (by first | omega | exact Nat.le_of_ble_eq_true rfl | (dsimp only; omega)) (by first | omega | exact Nat.le_of_ble_eq_true rfl | (dsimp only; omega)) ⟨⟨d, hd, rfl, k, hk, hjob, rfl⟩, rfl, rfl⟩
  ·
    refine k_astore_nN X dX5_numberOf_9 rfl (by rw [hN]; decide) ?_
    refine k_aload_nN X dX5_numberOf_10 rfl rfl ?_
    refine k_ifnonnullN X dX5_numberOf_11 ?_
    exact k_thrA X hT (Or.inr ⟨rfl, d, hd, rfl, hno⟩) (is := 129) (text := "the device made no such job") (by simp [kStr]) dX5_numberOf_14 dX5_numberOf_17 dX5_numberOf_18 dX5_numberOf_20 dX5_numberOf_23 (by rw [hR]; exact Nat.lt_of_lt_of_le (by decide : 5 < 6) (Nat.le_of_ble_eq_true rfl)) (by rw [hR]; exact Nat.le_of_ble_eq_true rfl) (by rw [hR]; exact Nat.le_of_ble_eq_true rfl) (by rw [hR]; exact Nat.le_of_ble_eq_true rfl) (by omega) (by omega)

set_option maxHeartbeats 4000000 in
set_option maxRecDepth 100000 in
theorem c_holds {l : Launch} (htr : l.stackTraces = false) {E : kE} {A : Nat → Prop} {C : kC} {L : kL} {S : kI4} {N : kN3} (hX : isX E C L S N) (hO : okX S N) (dv job : Int32) : kMX l yX5_holds cX5_holds 3 (some .boolean) 7 108 1 6 E A C L [.ref (L (1, 0, 0)), .int dv, .int job] (fun v C' L' => (∃ d, d < 4 ∧ dv = nI d ∧ ∃ o, kHf S N d job o ∧ v = some (.int (match o with | none => nI 0 | some _ => nI 1))) ∧ L = L' ∧ C = C') (fun X9 => (X9 = eIO ∧ ¬ kix dv 4)) := by
  obtain ⟨vl2, hl2⟩ := hX.1.2.1.hd
  have hb1 := hO.1
  refine kMX.of htr (by decide) (Nat.le_of_ble_eq_true rfl) (fun Γ hl hR hN X hE hT => ?_)
  refine k_lo (lo' := [(0, .ref (L (1, 0, 0))), (1, .int dv), (2, .int job)]) ⟨rfl, rfl, rfl, trivial⟩ ?_
  refine k_aload_n X dX5_holds_0 rfl rfl ?_
  refine k_iload_n X dX5_holds_1 rfl rfl ?_
  refine k_callVX (rest := []) X hT kv_X5_deviceAt kb_221 (c_deviceAt X.tr hX hO dv) (fun _ h => ⟨h, rfl, rfl⟩) hX.1.1.1 rfl rfl rfl rfl rfl (Nat.le_of_ble_eq_true rfl) ⟨by rw [hR]; exact Nat.le_of_ble_eq_true rfl, by rw [hR]; exact Nat.le_of_ble_eq_true rfl⟩ ⟨by rw [hR]; exact Nat.le_of_ble_eq_true rfl, by rw [hR]; exact Nat.le_of_ble_eq_true rfl⟩ ⟨by omega, by omega⟩ dX5_holds_2 (fun v2 C9 L9 h9 => ?_)
  obtain ⟨⟨d, hd, rfl, rfl⟩, rfl, rfl⟩ := h9
  obtain ⟨vl8, hl8⟩ := (hX.2 d hd).2.2.2.1.hd
  obtain ⟨vl10, hl10⟩ := (hX.2 d hd).2.2.2.2.1.hd
  obtain ⟨vl12, hl12⟩ := (hX.2 d hd).2.2.2.2.2.1.hd
  have hb2 := (hO.2 d hd).1
  have hb3 := (hO.2 d hd).2.1
  have hb4 := (hO.2 d hd).2.2.1
  have hb5 := (hO.2 d hd).2.2.2.1
  have hb6 := (hO.2 d hd).2.2.2.2
  refine k_iload_n X dX5_holds_5 rfl rfl ?_
  refine k_callV (rest := []) X kv_X1_heldFields kb_264 (c_heldFields X.tr hX hO hd job) (hX.2 d hd).1 rfl rfl rfl rfl rfl (Nat.le_of_ble_eq_true rfl) ⟨by rw [hR]; exact Nat.le_of_ble_eq_true rfl, by rw [hR]; exact Nat.le_of_ble_eq_true rfl⟩ ⟨by rw [hR]; exact Nat.le_of_ble_eq_true rfl, by rw [hR]; exact Nat.le_of_ble_eq_true rfl⟩ dX5_holds_6 (fun v6 C9 L9 h9 => ?_)
  obtain ⟨⟨o, rfl, hf⟩, rfl, rfl⟩ := h9
  cases o with
  | none =>
    simp only [kRo, kpush]
    refine k_ifnullN (tgt := 16) X dX5_holds_9 (by decide) ?_
    refine k_iconst (v := (nI 0)) X dX5_holds_16 (by decide) ?_
    exact k_zret X hE kz0 dX5_holds_17 (by first | omega | exact Nat.le_of_ble_eq_true rfl | (dsimp only; omega)) (by first | omega | exact Nat.le_of_ble_eq_true rfl | (dsimp only; omega)) ⟨⟨d, hd, rfl, _, hf, rfl⟩, rfl, rfl⟩
  | some t =>
    simp only [kRo, kpush]
    refine k_ifnull X dX5_holds_9 ?_
    refine k_iconst (v := (nI 1)) X dX5_holds_12 (by decide) ?_
    refine k_goto (tgt := 17) X dX5_holds_13 (by decide) ?_
    exact k_zret X hE kz1 dX5_holds_17 (by first | omega | exact Nat.le_of_ble_eq_true rfl | (dsimp only; omega)) (by first | omega | exact Nat.le_of_ble_eq_true rfl | (dsimp only; omega)) ⟨⟨d, hd, rfl, _, hf, rfl⟩, rfl, rfl⟩

set_option maxHeartbeats 4000000 in
set_option maxRecDepth 100000 in
theorem c_fieldsHeld {l : Launch} (htr : l.stackTraces = false) {E : kE} {A : Nat → Prop} {C : kC} {L : kL} {S : kI4} {N : kN3} (hX : isX E C L S N) (hO : okX S N) {d : Nat} (hd : d < 4) (job : Int32) : kMX l yX5_fieldsHeld cX5_fieldsHeld 3 (some (.object "FieldStore$Fields")) 6 108 1 6 E A C L [.ref (L (5, d, 0)), .int job] (fun v C' L' => (∃ t, v = some (.ref (L t)) ∧ kHf S N d job (some t)) ∧ L = L' ∧ C = C') (fun X9 => X9 = eIS ∧ kHf S N d job none) := by
  refine kMX.of htr (by decide) (Nat.le_of_ble_eq_true rfl) (fun Γ hl hR hN X hE hT => ?_)
  refine k_lo (lo' := [(0, .ref (L (5, d, 0))), (1, .int job)]) ⟨rfl, rfl, trivial⟩ ?_
  refine k_aload_n X dX5_fieldsHeld_0 rfl rfl ?_
  refine k_iload_n X dX5_fieldsHeld_1 rfl rfl ?_
  refine k_callV (rest := []) X kv_X1_heldFields kb_264 (c_heldFields X.tr hX hO hd job) (hX.2 d hd).1 rfl rfl rfl rfl rfl (Nat.le_of_ble_eq_true rfl) ⟨by rw [hR]; exact Nat.le_of_ble_eq_true rfl, by rw [hR]; exact Nat.le_of_ble_eq_true rfl⟩ ⟨by rw [hR]; exact Nat.le_of_ble_eq_true rfl, by rw [hR]; exact Nat.le_of_ble_eq_true rfl⟩ dX5_fieldsHeld_2 (fun v2 C9 L9 h9 => ?_)
  obtain ⟨⟨o, rfl, hf⟩, rfl, rfl⟩ := h9
  cases o with
  | none =>
    simp only [kRo, kpush]
    refine k_astore_nN X dX5_fieldsHeld_5 rfl (by rw [hN]; decide) ?_
    refine k_aload_nN X dX5_fieldsHeld_6 rfl rfl ?_
    refine k_ifnonnullN X dX5_fieldsHeld_7 ?_
    exact k_thrS X hT ⟨rfl, hf⟩ (is := 213) (text := "the device does not hold the job") (by simp [kStr]) dX5_fieldsHeld_10 dX5_fieldsHeld_13 dX5_fieldsHeld_14 dX5_fieldsHeld_16 dX5_fieldsHeld_19 (by rw [hR]; exact Nat.lt_of_lt_of_le (by decide : 5 < 6) (Nat.le_of_ble_eq_true rfl)) (by rw [hR]; exact Nat.le_of_ble_eq_true rfl) (by rw [hR]; exact Nat.le_of_ble_eq_true rfl) (by rw [hR]; exact Nat.le_of_ble_eq_true rfl) (by omega) (by omega)
  | some t =>
    simp only [kRo, kpush]
    refine k_astore_n X dX5_fieldsHeld_5 rfl (by rw [hN]; decide) ?_
    refine k_aload_n X dX5_fieldsHeld_6 rfl rfl ?_
    refine k_ifnonnull (tgt := 20) X dX5_fieldsHeld_7 (by decide) ?_
    refine k_aload_n X dX5_fieldsHeld_20 rfl rfl ?_
    exact k_aret X hE (Or.inl ⟨_, rfl⟩) (Or.inr ⟨_, rfl⟩) dX5_fieldsHeld_21 (by first | omega | exact Nat.le_of_ble_eq_true rfl | (dsimp only; omega)) (by first | omega | exact Nat.le_of_ble_eq_true rfl | (dsimp only; omega)) ⟨⟨t, rfl, hf⟩, rfl, rfl⟩

set_option maxHeartbeats 4000000 in
set_option maxRecDepth 100000 in
theorem c_refusedAt {l : Launch} (htr : l.stackTraces = false) {E : kE} {A : Nat → Prop} {C : kC} {L : kL} {S : kI4} {N : kN3} (hX : isX E C L S N) (hO : okX S N) (dv pl : Int32) : kMX l yX5_refusedAt cX5_refusedAt 4 (some (.object "FieldStore$Act")) 7 103 2 12 E A C L [.ref (L (1, 0, 0)), .int dv, .int pl] (fun v C' L' => (∃ d, d < 4 ∧ dv = nI d ∧ ∃ i, i < N 5 d 0 ∧ pl = nI i ∧ v = some (.ref (L (19, d, N 6 d i)))) ∧ L = L' ∧ C = C') (fun X9 => (X9 = eIO ∧ ¬ kix dv 4) ∨ (X9 = eIO ∧ ∃ d, d < 4 ∧ dv = nI d ∧ ¬ kix pl (N 5 d 0))) := by
  obtain ⟨vl2, hl2⟩ := hX.1.2.1.hd
  have hb1 := hO.1
  refine kMX.of htr (by decide) (Nat.le_of_ble_eq_true rfl) (fun Γ hl hR hN X hE hT => ?_)
  refine k_lo (lo' := [(0, .ref (L (1, 0, 0))), (1, .int dv), (2, .int pl)]) ⟨rfl, rfl, rfl, trivial⟩ ?_
  refine k_aload_n X dX5_refusedAt_0 rfl rfl ?_
  refine k_iload_n X dX5_refusedAt_1 rfl rfl ?_
  refine k_callVX (rest := []) X hT kv_X5_deviceAt kb_221 (c_deviceAt X.tr hX hO dv) (fun _ h => ⟨Or.inl h, rfl, rfl⟩) hX.1.1.1 rfl rfl rfl rfl rfl (Nat.le_of_ble_eq_true rfl) ⟨by rw [hR]; exact Nat.le_of_ble_eq_true rfl, by rw [hR]; exact Nat.le_of_ble_eq_true rfl⟩ ⟨by rw [hR]; exact Nat.le_of_ble_eq_true rfl, by rw [hR]; exact Nat.le_of_ble_eq_true rfl⟩ ⟨by omega, by omega⟩ dX5_refusedAt_2 (fun v2 C9 L9 h9 => ?_)
  obtain ⟨⟨d, hd, rfl, rfl⟩, rfl, rfl⟩ := h9
  obtain ⟨vl8, hl8⟩ := (hX.2 d hd).2.2.2.1.hd
  obtain ⟨vl10, hl10⟩ := (hX.2 d hd).2.2.2.2.1.hd
  obtain ⟨vl12, hl12⟩ := (hX.2 d hd).2.2.2.2.2.1.hd
  have hb2 := (hO.2 d hd).1
  have hb3 := (hO.2 d hd).2.1
  have hb4 := (hO.2 d hd).2.2.1
  have hb5 := (hO.2 d hd).2.2.2.1
  have hb6 := (hO.2 d hd).2.2.2.2
  refine k_get0 X (hX.2 d hd).1 (q := (RX1, TX1, 9)) rfl inlX1 8 (by decide) kb_449 (Or.inl rfl) rfl rfl dX5_refusedAt_5 ?_
  refine k_astore_n X dX5_refusedAt_8 rfl (by rw [hN]; decide) ?_
  refine k_iload_n X dX5_refusedAt_9 rfl rfl ?_
  refine k_if_lt (tgt := 21) X dX5_refusedAt_10 (by decide) (fun c10 => ?_) (fun c10 => ?_)
  ·
    exact k_thrB X hT (Or.inr ⟨rfl, d, hd, rfl, by first | exact fun z => z.1 c10 | exact fun z => c18 z.2⟩) (is := 211) (text := "no such place") (by simp [kStr]) dX5_refusedAt_21 dX5_refusedAt_24 dX5_refusedAt_25 dX5_refusedAt_27 dX5_refusedAt_30 (by rw [hR]; exact Nat.lt_of_lt_of_le (by decide : 5 < 6) (Nat.le_of_ble_eq_true rfl)) (by rw [hR]; exact Nat.le_of_ble_eq_true rfl) (by rw [hR]; exact Nat.le_of_ble_eq_true rfl) (by rw [hR]; exact Nat.le_of_ble_eq_true rfl) (by omega) (by omega)
  ·
    refine k_iload_n X dX5_refusedAt_13 rfl rfl ?_
    refine k_aload_n X dX5_refusedAt_14 rfl rfl ?_
    refine k_callV (rest := [.int pl]) X kv_Jx4a65c_size_8abf5 kb_63 (c_Ls_size X.tr (hX.2 d hd).2.2.2.2.2.1) hl12 rfl rfl rfl rfl rfl (Nat.le_of_ble_eq_true rfl) ⟨by rw [hR]; exact Nat.le_of_ble_eq_true rfl, by rw [hR]; exact Nat.le_of_ble_eq_true rfl⟩ ⟨by rw [hR]; exact Nat.le_of_ble_eq_true rfl, by rw [hR]; exact Nat.le_of_ble_eq_true rfl⟩ dX5_refusedAt_15 (fun v15 C9 L9 h9 => ?_)
    obtain ⟨rfl, rfl, rfl⟩ := h9
    refine k_icmp_lt (tgt := 31) X dX5_refusedAt_18 (by decide) (fun c18 => ?_) (fun c18 => ?_)
    ·
      refine k_aload_n X dX5_refusedAt_31 rfl rfl ?_
      refine k_iload_n X dX5_refusedAt_32 rfl rfl ?_
      obtain ⟨i, hi, rfl⟩ := kix.ex (x := pl) (n := N 5 d 0) ⟨c10, c18⟩ (by omega)
      refine k_callV (rest := []) X kv_Jx4a65c_get_915e3 kb_175 (c_Ls_get X.tr (hX.2 d hd).2.2.2.2.2.1 i hi (by omega)) hl12 rfl rfl rfl rfl rfl (Nat.le_of_ble_eq_true rfl) ⟨by rw [hR]; exact Nat.le_of_ble_eq_true rfl, by rw [hR]; exact Nat.le_of_ble_eq_true rfl⟩ ⟨by rw [hR]; exact Nat.le_of_ble_eq_true rfl, by rw [hR]; exact Nat.le_of_ble_eq_true rfl⟩ dX5_refusedAt_33 (fun v33 C9 L9 h9 => ?_)
      obtain ⟨rfl, rfl, rfl⟩ := h9
      refine k_cast X ((hX.2 d hd).2.2.2.2.2.2.2.2 _ (hb6 i hi)) (r := (RX0, TX0, 5)) rfl rfl kb_462 dX5_refusedAt_36 ?_
      exact k_aret X hE (Or.inl ⟨_, rfl⟩) (Or.inr ⟨_, rfl⟩) dX5_refusedAt_39 (by first | omega | exact Nat.le_of_ble_eq_true rfl | (dsimp only; omega)) (by first | omega | exact Nat.le_of_ble_eq_true rfl | (dsimp only; omega)) ⟨⟨d, hd, rfl, i, hi, rfl, rfl⟩, rfl, rfl⟩
    ·
      exact k_thrB X hT (Or.inr ⟨rfl, d, hd, rfl, by first | exact fun z => z.1 c10 | exact fun z => c18 z.2⟩) (is := 211) (text := "no such place") (by simp [kStr]) dX5_refusedAt_21 dX5_refusedAt_24 dX5_refusedAt_25 dX5_refusedAt_27 dX5_refusedAt_30 (by rw [hR]; exact Nat.lt_of_lt_of_le (by decide : 5 < 6) (Nat.le_of_ble_eq_true rfl)) (by rw [hR]; exact Nat.le_of_ble_eq_true rfl) (by rw [hR]; exact Nat.le_of_ble_eq_true rfl) (by rw [hR]; exact Nat.le_of_ble_eq_true rfl) (by omega) (by omega)

set_option maxHeartbeats 4000000 in
set_option maxRecDepth 100000 in
theorem c_reason {l : Launch} (htr : l.stackTraces = false) {E : kE} {A : Nat → Prop} {C : kC} {L : kL} {S : kI4} {N : kN3} (hX : isX E C L S N) (hO : okX S N) (dv pl : Int32) : kMX l yX5_reason cX5_reason 3 (some .int) 8 126 2 12 E A C L [.ref (L (1, 0, 0)), .int dv, .int pl] (fun v C' L' => (∃ d, d < 4 ∧ dv = nI d ∧ ∃ i, i < N 5 d 0 ∧ pl = nI i ∧ v = some (.int (S 11 d (N 6 d i) 4))) ∧ L = L' ∧ C = C') (fun X9 => (X9 = eIO ∧ ¬ kix dv 4) ∨ (X9 = eIO ∧ ∃ d, d < 4 ∧ dv = nI d ∧ ¬ kix pl (N 5 d 0))) := by
  obtain ⟨vl2, hl2⟩ := hX.1.2.1.hd
  have hb1 := hO.1
  refine kMX.of htr (by decide) (Nat.le_of_ble_eq_true rfl) (fun Γ hl hR hN X hE hT => ?_)
  refine k_lo (lo' := [(0, .ref (L (1, 0, 0))), (1, .int dv), (2, .int pl)]) ⟨rfl, rfl, rfl, trivial⟩ ?_
  refine k_aload_n X dX5_reason_0 rfl rfl ?_
  refine k_iload_n X dX5_reason_1 rfl rfl ?_
  refine k_iload_n X dX5_reason_2 rfl rfl ?_
  refine k_callVX (rest := []) X hT kv_X5_refusedAt kb_458 (c_refusedAt X.tr hX hO dv pl) (fun _ h => ⟨h, rfl, rfl⟩) hX.1.1.1 rfl rfl rfl rfl rfl (Nat.le_of_ble_eq_true rfl) ⟨by rw [hR]; exact Nat.le_of_ble_eq_true rfl, by rw [hR]; exact Nat.le_of_ble_eq_true rfl⟩ ⟨by rw [hR]; exact Nat.le_of_ble_eq_true rfl, by rw [hR]; exact Nat.le_of_ble_eq_true rfl⟩ ⟨by omega, by omega⟩ dX5_reason_3 (fun v3 C9 L9 h9 => ?_)
  obtain ⟨⟨d, hd, rfl, i, hi, rfl, rfl⟩, rfl, rfl⟩ := h9
  have hb6 := (hO.2 d hd).2.2.2.2
  refine k_get0 X ((hX.2 d hd).2.2.2.2.2.2.2.2 _ (hb6 i hi)) (q := (RX0, TX0, 5)) rfl inlX0 4 (by decide) kb_457 (Or.inl rfl) rfl rfl dX5_reason_6 ?_
  exact k_iret X hE dX5_reason_9 (by first | omega | exact Nat.le_of_ble_eq_true rfl | (dsimp only; omega)) (by first | omega | exact Nat.le_of_ble_eq_true rfl | (dsimp only; omega)) ⟨⟨d, hd, rfl, i, hi, rfl, rfl⟩, rfl, rfl⟩

set_option maxHeartbeats 4000000 in
set_option maxRecDepth 100000 in
theorem c_refusedValue {l : Launch} (htr : l.stackTraces = false) {E : kE} {A : Nat → Prop} {C : kC} {L : kL} {S : kI4} {N : kN3} (hX : isX E C L S N) (hO : okX S N) (dv pl : Int32) : kMX l yX5_refusedValue cX5_refusedValue 3 (some .int) 8 126 2 12 E A C L [.ref (L (1, 0, 0)), .int dv, .int pl] (fun v C' L' => (∃ d, d < 4 ∧ dv = nI d ∧ ∃ i, i < N 5 d 0 ∧ pl = nI i ∧ v = some (.int (S 11 d (N 6 d i) 2))) ∧ L = L' ∧ C = C') (fun X9 => (X9 = eIO ∧ ¬ kix dv 4) ∨ (X9 = eIO ∧ ∃ d, d < 4 ∧ dv = nI d ∧ ¬ kix pl (N 5 d 0))) := by
  obtain ⟨vl2, hl2⟩ := hX.1.2.1.hd
  have hb1 := hO.1
  refine kMX.of htr (by decide) (Nat.le_of_ble_eq_true rfl) (fun Γ hl hR hN X hE hT => ?_)
  refine k_lo (lo' := [(0, .ref (L (1, 0, 0))), (1, .int dv), (2, .int pl)]) ⟨rfl, rfl, rfl, trivial⟩ ?_
  refine k_aload_n X dX5_refusedValue_0 rfl rfl ?_
  refine k_iload_n X dX5_refusedValue_1 rfl rfl ?_
  refine k_iload_n X dX5_refusedValue_2 rfl rfl ?_
  refine k_callVX (rest := []) X hT kv_X5_refusedAt kb_458 (c_refusedAt X.tr hX hO dv pl) (fun _ h => ⟨h, rfl, rfl⟩) hX.1.1.1 rfl rfl rfl rfl rfl (Nat.le_of_ble_eq_true rfl) ⟨by rw [hR]; exact Nat.le_of_ble_eq_true rfl, by rw [hR]; exact Nat.le_of_ble_eq_true rfl⟩ ⟨by rw [hR]; exact Nat.le_of_ble_eq_true rfl, by rw [hR]; exact Nat.le_of_ble_eq_true rfl⟩ ⟨by omega, by omega⟩ dX5_refusedValue_3 (fun v3 C9 L9 h9 => ?_)
  obtain ⟨⟨d, hd, rfl, i, hi, rfl, rfl⟩, rfl, rfl⟩ := h9
  have hb6 := (hO.2 d hd).2.2.2.2
  refine k_get0 X ((hX.2 d hd).2.2.2.2.2.2.2.2 _ (hb6 i hi)) (q := (RX0, TX0, 5)) rfl inlX0 2 (by decide) kb_353 (Or.inl rfl) rfl rfl dX5_refusedValue_6 ?_
  exact k_iret X hE dX5_refusedValue_9 (by first | omega | exact Nat.le_of_ble_eq_true rfl | (dsimp only; omega)) (by first | omega | exact Nat.le_of_ble_eq_true rfl | (dsimp only; omega)) ⟨⟨d, hd, rfl, i, hi, rfl, rfl⟩, rfl, rfl⟩
