/-- the i-th job, copied if there is room and it is of the crew and in the state -/
def xCp (q : kI4 × kN3) (d : Nat) (z : Int32) (i : Nat) : kI4 × kN3 := if q.1 6 d 0 0 < q.1 4 d 0 0 ∧ q.1 2 i 0 0 = nI d ∧ q.1 3 i 0 0 = z then (sHold q.1 d i (fun j => q.1 3 i 0 j), nHold q.2 d i) else q
def xCps (q : kI4 × kN3) (d : Nat) (z : Int32) : Nat → kI4 × kN3
  | 0 => q
  | i + 1 => xCp (xCps q d z i) d z i
theorem xCps_ok {q : kI4 × kN3} {d : Nat} {z : Int32} (h : okX q.1 q.2) : ∀ i, okX (xCps q d z i).1 (xCps q d z i).2 ∧ (xCps q d z i).2 1 0 0 = q.2 1 0 0
  | 0 => ⟨h, rfl⟩
  | i + 1 => by
    have ih := xCps_ok (d := d) (z := z) h i
    show okX (xCp (xCps q d z i) d z i).1 (xCp (xCps q d z i) d z i).2 ∧ (xCp (xCps q d z i) d z i).2 1 0 0 = q.2 1 0 0
    unfold xCp
    by_cases c : (xCps q d z i).1 6 d 0 0 < (xCps q d z i).1 4 d 0 0 ∧ (xCps q d z i).1 2 i 0 0 = nI d ∧ (xCps q d z i).1 3 i 0 0 = z
    · rw [if_pos c]
      exact ⟨okX.hold ih.1, (nHold_n (by omega)).trans ih.2⟩
    · rw [if_neg c]
      exact ih
/-- what a fetch makes -/
def xFetch (q : kI4 × kN3) (d : Nat) : kI4 × kN3 := xCps (xCps (xCps (sDrop q.1 d, q.2) d (nI 1) (q.2 1 0 0)) d (nI 0) (q.2 1 0 0)) d (nI 2) (q.2 1 0 0)

set_option maxHeartbeats 4000000 in
set_option maxRecDepth 100000 in
theorem c_copyJobs {l : Launch} (htr : l.stackTraces = false) {E : kE} {A : Nat → Prop} {C : kC} {L : kL} {S : kI4} {N : kN3} (hX : isX E C L S N) (hO : okX S N) {d : Nat} (hd : d < 4) (z : Int32) : kM l yX5_copyJobs cX5_copyJobs 6 none 3 64 40 160 E A C L [.ref (L (1, 0, 0)), .int (nI d), .ref (L (5, d, 0)), .int z] (fun v C' L' => v = none ∧ isX E C' L' (xCps (S, N) d z (N 1 0 0)).1 (xCps (S, N) d z (N 1 0 0)).2 ∧ kFr C L C' L' ∧ ∀ t : kT, t.1 ≠ 16 → L' t = L t) := by
  refine kM.of htr (by decide) (Nat.le_of_ble_eq_true rfl) (fun Γ hl hR hN hnm X hE => ?_)
  refine k_lo (lo' := [(0, .ref (L (1, 0, 0))), (1, .int (nI d)), (2, .ref (L (5, d, 0))), (3, .int z)]) ⟨rfl, rfl, rfl, rfl, trivial⟩ ?_
  have hb1 := hO.1
  have loop : ∀ (m i : Nat) (C8 : kC) (L8 : kL) (q8 : kI4 × kN3), i + m = N 1 0 0 → xCps (S, N) d z i = q8 → isX E C8 L8 q8.1 q8.2 → kFr C L C8 L8 → (∀ t : kT, t.1 ≠ 16 → L8 t = L t) → kW Γ E A C8 L8 i (4 * i) 3 [(0, .ref (L8 (1, 0, 0))), (1, .int (nI d)), (2, .ref (L8 (5, d, 0))), (3, .int z), (4, .int (nI i))] [] := by
    intro m
    induction m with
    | zero =>
      intro i C8 L8 q8 hi e8 hX8 hfr8 hL8
      have hO8 : okX q8.1 q8.2 := by rw [← e8]; exact (xCps_ok (q := (S, N)) hO i).1
      have hN8 : q8.2 1 0 0 = N 1 0 0 := by rw [← e8]; exact (xCps_ok (q := (S, N)) hO i).2
      have hl8 := hX8.1.2.1
      rw [hN8] at hl8
      obtain ⟨vl2, hl2⟩ := hl8.hd
      have e9 : q8 = xCps (S, N) d z (N 1 0 0) := by rw [← e8, show i = N 1 0 0 by omega]
      refine k_iload X dX5_copyJobs_3 rfl ?_
      refine k_aload_n X dX5_copyJobs_5 rfl rfl ?_
      refine k_get0 X hX8.1.1.1 (q := (RX5, TX5, 3)) rfl inlX5 0 (by decide) kb_13 (Or.inl rfl) rfl rfl dX5_copyJobs_6 ?_
      refine k_callV (rest := [.int (nI i)]) X kv_Jx4a65c_size_8abf5 kb_63 (c_Ls_size X.tr hl8) hl2 rfl rfl rfl rfl rfl (Nat.le_of_ble_eq_true rfl) ⟨by rw [hR]; exact Nat.le_of_ble_eq_true rfl, by rw [hR]; exact Nat.le_of_ble_eq_true rfl⟩ ⟨by rw [hR]; dsimp only; omega, by rw [hR]; dsimp only; omega⟩ dX5_copyJobs_9 (fun v9 C9 L9 h9 => ?_)
      obtain ⟨rfl, rfl, rfl⟩ := h9
      refine k_icmp_ge (tgt := 78) X dX5_copyJobs_12 (by decide) (fun c12 => ?_) (fun c12 => absurd (nI_le (Nat.le_of_eq (by omega)) (by omega)) c12)
      exact k_vret X hE dX5_copyJobs_78 (by first | omega | exact Nat.le_of_ble_eq_true rfl | (dsimp only; omega)) (by first | omega | exact Nat.le_of_ble_eq_true rfl | (dsimp only; omega)) ⟨rfl, e9 ▸ hX8, hfr8, hL8⟩
    | succ m ih =>
      intro i C8 L8 q8 hi0 e8 hX8 hfr8 hL8
      have hO8 : okX q8.1 q8.2 := by rw [← e8]; exact (xCps_ok (q := (S, N)) hO i).1
      have hN8 : q8.2 1 0 0 = N 1 0 0 := by rw [← e8]; exact (xCps_ok (q := (S, N)) hO i).2
      have hl8 := hX8.1.2.1
      rw [hN8] at hl8
      obtain ⟨vl2, hl2⟩ := hl8.hd
      have hi : i < N 1 0 0 := by omega
      have hj8 := hX8.1.2.2.2 i (by rw [hN8]; exact hi)
      refine k_iload X dX5_copyJobs_3 rfl ?_
      refine k_aload_n X dX5_copyJobs_5 rfl rfl ?_
      refine k_get0 X hX8.1.1.1 (q := (RX5, TX5, 3)) rfl inlX5 0 (by decide) kb_13 (Or.inl rfl) rfl rfl dX5_copyJobs_6 ?_
      refine k_callV (rest := [.int (nI i)]) X kv_Jx4a65c_size_8abf5 kb_63 (c_Ls_size X.tr hl8) hl2 rfl rfl rfl rfl rfl (Nat.le_of_ble_eq_true rfl) ⟨by rw [hR]; exact Nat.le_of_ble_eq_true rfl, by rw [hR]; exact Nat.le_of_ble_eq_true rfl⟩ ⟨by rw [hR]; dsimp only; omega, by rw [hR]; dsimp only; omega⟩ dX5_copyJobs_9 (fun v9 C9 L9 h9 => ?_)
      obtain ⟨rfl, rfl, rfl⟩ := h9
      refine k_icmp_ge (tgt := 78) X dX5_copyJobs_12 (by decide) (fun c12 => absurd c12 (nI_ge hi (by omega))) (fun c12 => ?_)
      refine k_aload_n X dX5_copyJobs_15 rfl rfl ?_
      refine k_get0 X hX8.1.1.1 (q := (RX5, TX5, 3)) rfl inlX5 0 (by decide) kb_13 (Or.inl rfl) rfl rfl dX5_copyJobs_16 ?_
      refine k_iload X dX5_copyJobs_19 rfl ?_
      refine k_callV (rest := []) X kv_Jx4a65c_get_915e3 kb_175 (c_Ls_get X.tr hl8 i hi (by omega)) hl2 rfl rfl rfl rfl rfl (Nat.le_of_ble_eq_true rfl) ⟨by rw [hR]; exact Nat.le_of_ble_eq_true rfl, by rw [hR]; exact Nat.le_of_ble_eq_true rfl⟩ ⟨by rw [hR]; dsimp only; omega, by rw [hR]; dsimp only; omega⟩ dX5_copyJobs_21 (fun v21 C9 L9 h9 => ?_)
      obtain ⟨rfl, rfl, rfl⟩ := h9
      refine k_cast X hj8.1 (r := (RX3, TX3, 3)) rfl rfl kb_81 dX5_copyJobs_24 ?_
      refine k_astore X dX5_copyJobs_27 (by rw [hN]; decide) ?_
      refine k_aload_n X dX5_copyJobs_29 rfl rfl ?_
      refine k_get0 X (hX8.2 d hd).1 (q := (RX1, TX1, 9)) rfl inlX1 3 (by decide) kb_240 (Or.inl rfl) rfl rfl dX5_copyJobs_30 ?_
      refine k_aload_n X dX5_copyJobs_33 rfl rfl ?_
      refine k_get0 X (hX8.2 d hd).1 (q := (RX1, TX1, 9)) rfl inlX1 0 (by decide) kb_220 (Or.inl rfl) rfl rfl dX5_copyJobs_34 ?_
      refine k_icmp_ge (tgt := 72) X dX5_copyJobs_37 (by decide) (fun c37 => ?_) (fun c37 => ?_)
      ·
        refine k_iinc (v := (nI (i + 1))) X dX5_copyJobs_72 rfl (by rw [show Int32.ofInt 1 = nI 1 from by decide, nI_add]) (by rw [hN]; decide) ?_
        refine k_goto (tgt := 3) X dX5_copyJobs_75 (by decide) ?_
        refine k_lo (lo' := [(0, .ref (L8 (1, 0, 0))), (1, .int (nI d)), (2, .ref (L8 (5, d, 0))), (3, .int z), (4, .int (nI (i + 1)))]) ⟨rfl, rfl, rfl, rfl, rfl, trivial⟩ ?_
        exact k_wide (by omega) (by omega) (ih (i + 1) C8 L8 (xCp q8 d z i) (by omega) (by rw [show xCps (S, N) d z (i + 1) = xCp (xCps (S, N) d z i) d z i from rfl, e8]) (by unfold xCp; rw [if_neg (by first | exact fun h => (Int32.not_lt.mpr c37) h.1 | exact fun h => c46 h.2.1 | exact fun h => c58 h.2.2)]; exact hX8) hfr8 hL8)
      ·
        refine k_aload X dX5_copyJobs_40 rfl ?_
        refine k_get0 X hj8.1 (q := (RX3, TX3, 3)) rfl inlX3 1 (by decide) kb_167 (Or.inl rfl) rfl rfl dX5_copyJobs_42 ?_
        refine k_iload_n X dX5_copyJobs_45 rfl rfl ?_
        refine k_icmp_ne (tgt := 72) X dX5_copyJobs_46 (by decide) (fun c46 => ?_) (fun c46 => ?_)
        ·
          refine k_iinc (v := (nI (i + 1))) X dX5_copyJobs_72 rfl (by rw [show Int32.ofInt 1 = nI 1 from by decide, nI_add]) (by rw [hN]; decide) ?_
          refine k_goto (tgt := 3) X dX5_copyJobs_75 (by decide) ?_
          refine k_lo (lo' := [(0, .ref (L8 (1, 0, 0))), (1, .int (nI d)), (2, .ref (L8 (5, d, 0))), (3, .int z), (4, .int (nI (i + 1)))]) ⟨rfl, rfl, rfl, rfl, rfl, trivial⟩ ?_
          exact k_wide (by omega) (by omega) (ih (i + 1) C8 L8 (xCp q8 d z i) (by omega) (by rw [show xCps (S, N) d z (i + 1) = xCp (xCps (S, N) d z i) d z i from rfl, e8]) (by unfold xCp; rw [if_neg (by first | exact fun h => (Int32.not_lt.mpr c37) h.1 | exact fun h => c46 h.2.1 | exact fun h => c58 h.2.2)]; exact hX8) hfr8 hL8)
        ·
          refine k_aload X dX5_copyJobs_49 rfl ?_
          refine k_get0 X hj8.1 (q := (RX3, TX3, 3)) rfl inlX3 2 (by decide) kb_198 (Or.inl rfl) rfl rfl dX5_copyJobs_51 ?_
          refine k_get0 X hj8.2 (q := (RX2, TX2, 4)) rfl inlX2 0 (by decide) kb_241 (Or.inl rfl) rfl rfl dX5_copyJobs_54 ?_
          refine k_iload_n X dX5_copyJobs_57 rfl rfl ?_
          refine k_icmp_ne (tgt := 72) X dX5_copyJobs_58 (by decide) (fun c58 => ?_) (fun c58 => ?_)
          ·
            refine k_iinc (v := (nI (i + 1))) X dX5_copyJobs_72 rfl (by rw [show Int32.ofInt 1 = nI 1 from by decide, nI_add]) (by rw [hN]; decide) ?_
            refine k_goto (tgt := 3) X dX5_copyJobs_75 (by decide) ?_
            refine k_lo (lo' := [(0, .ref (L8 (1, 0, 0))), (1, .int (nI d)), (2, .ref (L8 (5, d, 0))), (3, .int z), (4, .int (nI (i + 1)))]) ⟨rfl, rfl, rfl, rfl, rfl, trivial⟩ ?_
            exact k_wide (by omega) (by omega) (ih (i + 1) C8 L8 (xCp q8 d z i) (by omega) (by rw [show xCps (S, N) d z (i + 1) = xCp (xCps (S, N) d z i) d z i from rfl, e8]) (by unfold xCp; rw [if_neg (by first | exact fun h => (Int32.not_lt.mpr c37) h.1 | exact fun h => c46 h.2.1 | exact fun h => c58 h.2.2)]; exact hX8) hfr8 hL8)
          ·
            refine k_aload_n X dX5_copyJobs_61 rfl rfl ?_
            refine k_iload X dX5_copyJobs_62 rfl ?_
            refine k_aload X dX5_copyJobs_64 rfl ?_
            refine k_get0 X hj8.1 (q := (RX3, TX3, 3)) rfl inlX3 2 (by decide) kb_198 (Or.inl rfl) rfl rfl dX5_copyJobs_66 ?_
            refine k_callV (rest := []) X kv_X1_hold kb_242 (c_hold X.tr hX8 hO8 hd (n := i) (by omega) (ff := 15) (df := i) (kf := 0) (Or.inl rfl) (fun j => q8.1 3 i 0 j) hj8.2) (hX8.2 d hd).1 rfl rfl rfl rfl rfl (Nat.le_of_ble_eq_true rfl) ⟨by rw [hR]; exact Nat.le_of_ble_eq_true rfl, by rw [hR]; exact Nat.le_of_ble_eq_true rfl⟩ ⟨by rw [hR]; dsimp only; omega, by rw [hR]; dsimp only; omega⟩ dX5_copyJobs_69 (fun v69 C9 L9 h9 => ?_)
            obtain ⟨rfl, hX9, hfr9, hL9⟩ := h9
            refine k_lo (lo' := [(0, .ref (L9 (1, 0, 0))), (1, .int (nI d)), (2, .ref (L9 (5, d, 0))), (3, .int z), (4, .int (nI i))]) ⟨kLR (hL9 (1, 0, 0) (show (1 : Nat) ≠ 16 by decide)), rfl, kLR (hL9 (5, d, 0) (show (5 : Nat) ≠ 16 by decide)), rfl, rfl, trivial⟩ ?_
            refine k_iinc (v := (nI (i + 1))) X dX5_copyJobs_72 rfl (by rw [show Int32.ofInt 1 = nI 1 from by decide, nI_add]) (by rw [hN]; decide) ?_
            refine k_goto (tgt := 3) X dX5_copyJobs_75 (by decide) ?_
            refine k_lo (lo' := [(0, .ref (L9 (1, 0, 0))), (1, .int (nI d)), (2, .ref (L9 (5, d, 0))), (3, .int z), (4, .int (nI (i + 1)))]) ⟨rfl, rfl, rfl, rfl, rfl, trivial⟩ ?_
            exact k_wide (by omega) (by omega) (ih (i + 1) C9 L9 (xCp q8 d z i) (by omega) (by rw [show xCps (S, N) d z (i + 1) = xCp (xCps (S, N) d z i) d z i from rfl, e8]) (by unfold xCp; rw [if_pos ⟨Int32.not_le.mp c37, c46, c58⟩]; exact hX9) (hfr8.tr hfr9) (fun t ht => (hL9 t ht).trans (hL8 t ht)))
  refine k_iconst (v := (nI 0)) X dX5_copyJobs_0 (by decide) ?_
  refine k_istore X dX5_copyJobs_1 (by rw [hN]; decide) ?_
  exact k_lo (lo' := [(0, .ref (L (1, 0, 0))), (1, .int (nI d)), (2, .ref (L (5, d, 0))), (3, .int z), (4, .int (nI 0))]) ⟨rfl, rfl, rfl, rfl, rfl, trivial⟩ (loop (N 1 0 0) 0 C L (S, N) (by omega) rfl hX kFr.rf (fun _ _ => rfl))

set_option maxHeartbeats 4000000 in
set_option maxRecDepth 100000 in
theorem c_fetch {l : Launch} (htr : l.stackTraces = false) {E : kE} {A : Nat → Prop} {C : kC} {L : kL} {S : kI4} {N : kN3} (hX : isX E C L S N) (hO : okX S N) (dv : Int32) : kMX l yX5_fetch cX5_fetch 3 (some .int) 7 103 121 486 E A C L [.ref (L (1, 0, 0)), .int dv] (fun v C' L' => (∃ d, d < 4 ∧ dv = nI d ∧ v = some (.int ((xFetch (S, N) d).1 6 d 0 0 + (xFetch (S, N) d).1 7 d 0 0)) ∧ isX E C' L' (xFetch (S, N) d).1 (xFetch (S, N) d).2) ∧ kFr C L C' L' ∧ ∀ t : kT, t.1 ≠ 16 → L' t = L t) (fun X9 => (X9 = eIO ∧ ¬ kix dv 4)) := by
  obtain ⟨vl2, hl2⟩ := hX.1.2.1.hd
  have hb1 := hO.1
  refine kMX.of htr (by decide) (Nat.le_of_ble_eq_true rfl) (fun Γ hl hR hN X hE hT => ?_)
  refine k_lo (lo' := [(0, .ref (L (1, 0, 0))), (1, .int dv)]) ⟨rfl, rfl, trivial⟩ ?_
  refine k_aload_n X dX5_fetch_0 rfl rfl ?_
  refine k_iload_n X dX5_fetch_1 rfl rfl ?_
  refine k_callVX (rest := []) X hT kv_X5_deviceAt kb_221 (c_deviceAt X.tr hX hO dv) (fun _ h => ⟨h, rfl, rfl⟩) hX.1.1.1 rfl rfl rfl rfl rfl (Nat.le_of_ble_eq_true rfl) ⟨by rw [hR]; exact Nat.le_of_ble_eq_true rfl, by rw [hR]; exact Nat.le_of_ble_eq_true rfl⟩ ⟨by rw [hR]; exact Nat.le_of_ble_eq_true rfl, by rw [hR]; exact Nat.le_of_ble_eq_true rfl⟩ ⟨by omega, by omega⟩ dX5_fetch_2 (fun v2 C9 L9 h9 => ?_)
  obtain ⟨⟨d, hd, rfl, rfl⟩, rfl, rfl⟩ := h9
  obtain ⟨vl8, hl8⟩ := (hX.2 d hd).2.2.2.1.hd
  obtain ⟨vl10, hl10⟩ := (hX.2 d hd).2.2.2.2.1.hd
  obtain ⟨vl12, hl12⟩ := (hX.2 d hd).2.2.2.2.2.1.hd
  have hb2 := (hO.2 d hd).1
  have hb3 := (hO.2 d hd).2.1
  have hb4 := (hO.2 d hd).2.2.1
  have hb5 := (hO.2 d hd).2.2.2.1
  have hb6 := (hO.2 d hd).2.2.2.2
  refine k_astore_n X dX5_fetch_5 rfl (by rw [hN]; decide) ?_
  refine k_aload_n X dX5_fetch_6 rfl rfl ?_
  refine k_callV (rest := []) X kv_X1_dropCopies kb_232 (c_dropCopies X.tr hX hO hd) (hX.2 d hd).1 rfl rfl rfl rfl rfl (Nat.le_of_ble_eq_true rfl) ⟨by rw [hR]; exact Nat.le_of_ble_eq_true rfl, by rw [hR]; exact Nat.le_of_ble_eq_true rfl⟩ ⟨by rw [hR]; exact Nat.le_of_ble_eq_true rfl, by rw [hR]; exact Nat.le_of_ble_eq_true rfl⟩ dX5_fetch_7 (fun v7 C9 L9 h9 => ?_)
  obtain ⟨rfl, rfl, hfr1, hX1⟩ := h9
  refine k_abs2 (fun C' L' => isX E C' L' (sDrop S d) N ∧ kFr C L C' L' ∧ ∀ t : kT, t.1 ≠ 16 → L' t = L t) ⟨hX1, hfr1, fun _ _ => rfl⟩ (fun C1 L1 h1 => ?_)
  refine k_lo (lo' := [(0, .ref (L1 (1, 0, 0))), (1, .int (nI d)), (2, .ref (L1 (5, d, 0)))]) ⟨kLR (h1.2.2 (1, 0, 0) (show (1 : Nat) ≠ 16 by decide)), rfl, kLR (h1.2.2 (5, d, 0) (show (5 : Nat) ≠ 16 by decide)), trivial⟩ ?_
  refine k_aload_n X dX5_fetch_10 rfl rfl ?_
  refine k_iload_n X dX5_fetch_11 rfl rfl ?_
  refine k_aload_n X dX5_fetch_12 rfl rfl ?_
  refine k_iconst (v := (nI 1)) X dX5_fetch_13 (by decide) ?_
  refine k_callV (rest := []) X kv_X5_copyJobs kb_236 (c_copyJobs X.tr (S := (sDrop S d, N).1) (N := (sDrop S d, N).2) h1.1 hO hd (nI 1)) h1.1.1.1.1 rfl rfl rfl rfl rfl (Nat.le_of_ble_eq_true rfl) ⟨by rw [hR]; exact Nat.le_of_ble_eq_true rfl, by rw [hR]; exact Nat.le_of_ble_eq_true rfl⟩ ⟨by rw [hR]; exact Nat.le_of_ble_eq_true rfl, by rw [hR]; exact Nat.le_of_ble_eq_true rfl⟩ dX5_fetch_14 (fun v14 C9 L9 h9 => ?_)
  obtain ⟨rfl, g1, g2, g3⟩ := h9
  refine k_abs2 (fun C' L' => isX E C' L' (xCps (sDrop S d, N) d (nI 1) (N 1 0 0)).1 (xCps (sDrop S d, N) d (nI 1) (N 1 0 0)).2 ∧ kFr C L C' L' ∧ ∀ t : kT, t.1 ≠ 16 → L' t = L t) ⟨g1, h1.2.1.tr g2, fun t ht => (g3 t ht).trans (h1.2.2 t ht)⟩ (fun C2 L2 h2 => ?_)
  refine k_lo (lo' := [(0, .ref (L2 (1, 0, 0))), (1, .int (nI d)), (2, .ref (L2 (5, d, 0)))]) ⟨kLR ((h2.2.2 (1, 0, 0) (show (1 : Nat) ≠ 16 by decide)).trans (h1.2.2 (1, 0, 0) (show (1 : Nat) ≠ 16 by decide)).symm), rfl, kLR ((h2.2.2 (5, d, 0) (show (5 : Nat) ≠ 16 by decide)).trans (h1.2.2 (5, d, 0) (show (5 : Nat) ≠ 16 by decide)).symm), trivial⟩ ?_
  have hO2 := (xCps_ok (q := (sDrop S d, N)) (d := d) (z := nI 1) hO (N 1 0 0)).1
  have hN2 : (xCps (sDrop S d, N) d (nI 1) (N 1 0 0)).2 1 0 0 = N 1 0 0 := (xCps_ok (q := (sDrop S d, N)) (d := d) (z := nI 1) hO (N 1 0 0)).2
  refine k_aload_n X dX5_fetch_17 rfl rfl ?_
  refine k_iload_n X dX5_fetch_18 rfl rfl ?_
  refine k_aload_n X dX5_fetch_19 rfl rfl ?_
  refine k_iconst (v := (nI 0)) X dX5_fetch_20 (by decide) ?_
  refine k_callV (rest := []) X kv_X5_copyJobs kb_236 (c_copyJobs X.tr (S := (xCps (sDrop S d, N) d (nI 1) (N 1 0 0)).1) (N := (xCps (sDrop S d, N) d (nI 1) (N 1 0 0)).2) h2.1 hO2 hd (nI 0)) h2.1.1.1.1 rfl rfl rfl rfl rfl (Nat.le_of_ble_eq_true rfl) ⟨by rw [hR]; exact Nat.le_of_ble_eq_true rfl, by rw [hR]; exact Nat.le_of_ble_eq_true rfl⟩ ⟨by rw [hR]; exact Nat.le_of_ble_eq_true rfl, by rw [hR]; exact Nat.le_of_ble_eq_true rfl⟩ dX5_fetch_21 (fun v21 C9 L9 h9 => ?_)
  obtain ⟨rfl, g1, g2, g3⟩ := h9
  rw [hN2] at g1
  refine k_abs2 (fun C' L' => isX E C' L' (xCps (xCps (sDrop S d, N) d (nI 1) (N 1 0 0)) d (nI 0) (N 1 0 0)).1 (xCps (xCps (sDrop S d, N) d (nI 1) (N 1 0 0)) d (nI 0) (N 1 0 0)).2 ∧ kFr C L C' L' ∧ ∀ t : kT, t.1 ≠ 16 → L' t = L t) ⟨g1, h2.2.1.tr g2, fun t ht => (g3 t ht).trans (h2.2.2 t ht)⟩ (fun C3 L3 h3 => ?_)
  refine k_lo (lo' := [(0, .ref (L3 (1, 0, 0))), (1, .int (nI d)), (2, .ref (L3 (5, d, 0)))]) ⟨kLR ((h3.2.2 (1, 0, 0) (show (1 : Nat) ≠ 16 by decide)).trans (h2.2.2 (1, 0, 0) (show (1 : Nat) ≠ 16 by decide)).symm), rfl, kLR ((h3.2.2 (5, d, 0) (show (5 : Nat) ≠ 16 by decide)).trans (h2.2.2 (5, d, 0) (show (5 : Nat) ≠ 16 by decide)).symm), trivial⟩ ?_
  have hO3 := (xCps_ok (q := (xCps (sDrop S d, N) d (nI 1) (N 1 0 0))) (d := d) (z := nI 0) hO2 (N 1 0 0)).1
  have hN3 : (xCps (xCps (sDrop S d, N) d (nI 1) (N 1 0 0)) d (nI 0) (N 1 0 0)).2 1 0 0 = N 1 0 0 := (xCps_ok (q := (xCps (sDrop S d, N) d (nI 1) (N 1 0 0))) (d := d) (z := nI 0) hO2 (N 1 0 0)).2.trans hN2
  refine k_aload_n X dX5_fetch_24 rfl rfl ?_
  refine k_iload_n X dX5_fetch_25 rfl rfl ?_
  refine k_aload_n X dX5_fetch_26 rfl rfl ?_
  refine k_iconst (v := (nI 2)) X dX5_fetch_27 (by decide) ?_
  refine k_callV (rest := []) X kv_X5_copyJobs kb_236 (c_copyJobs X.tr (S := (xCps (xCps (sDrop S d, N) d (nI 1) (N 1 0 0)) d (nI 0) (N 1 0 0)).1) (N := (xCps (xCps (sDrop S d, N) d (nI 1) (N 1 0 0)) d (nI 0) (N 1 0 0)).2) h3.1 hO3 hd (nI 2)) h3.1.1.1.1 rfl rfl rfl rfl rfl (Nat.le_of_ble_eq_true rfl) ⟨by rw [hR]; exact Nat.le_of_ble_eq_true rfl, by rw [hR]; exact Nat.le_of_ble_eq_true rfl⟩ ⟨by rw [hR]; exact Nat.le_of_ble_eq_true rfl, by rw [hR]; exact Nat.le_of_ble_eq_true rfl⟩ dX5_fetch_28 (fun v28 C9 L9 h9 => ?_)
  obtain ⟨rfl, g1, g2, g3⟩ := h9
  rw [hN3] at g1
  refine k_abs2 (fun C' L' => isX E C' L' (xCps (xCps (xCps (sDrop S d, N) d (nI 1) (N 1 0 0)) d (nI 0) (N 1 0 0)) d (nI 2) (N 1 0 0)).1 (xCps (xCps (xCps (sDrop S d, N) d (nI 1) (N 1 0 0)) d (nI 0) (N 1 0 0)) d (nI 2) (N 1 0 0)).2 ∧ kFr C L C' L' ∧ ∀ t : kT, t.1 ≠ 16 → L' t = L t) ⟨g1, h3.2.1.tr g2, fun t ht => (g3 t ht).trans (h3.2.2 t ht)⟩ (fun C4 L4 h4 => ?_)
  refine k_lo (lo' := [(0, .ref (L4 (1, 0, 0))), (1, .int (nI d)), (2, .ref (L4 (5, d, 0)))]) ⟨kLR ((h4.2.2 (1, 0, 0) (show (1 : Nat) ≠ 16 by decide)).trans (h3.2.2 (1, 0, 0) (show (1 : Nat) ≠ 16 by decide)).symm), rfl, kLR ((h4.2.2 (5, d, 0) (show (5 : Nat) ≠ 16 by decide)).trans (h3.2.2 (5, d, 0) (show (5 : Nat) ≠ 16 by decide)).symm), trivial⟩ ?_
  have hO4 := (xCps_ok (q := (xCps (xCps (sDrop S d, N) d (nI 1) (N 1 0 0)) d (nI 0) (N 1 0 0))) (d := d) (z := nI 2) hO3 (N 1 0 0)).1
  have hN4 : (xCps (xCps (xCps (sDrop S d, N) d (nI 1) (N 1 0 0)) d (nI 0) (N 1 0 0)) d (nI 2) (N 1 0 0)).2 1 0 0 = N 1 0 0 := (xCps_ok (q := (xCps (xCps (sDrop S d, N) d (nI 1) (N 1 0 0)) d (nI 0) (N 1 0 0))) (d := d) (z := nI 2) hO3 (N 1 0 0)).2.trans hN3
  refine k_aload_n X dX5_fetch_31 rfl rfl ?_
  refine k_callV (rest := []) X kv_X1_heldCount kb_250 (c_heldCount X.tr (S := (xCps (xCps (xCps (sDrop S d, N) d (nI 1) (N 1 0 0)) d (nI 0) (N 1 0 0)) d (nI 2) (N 1 0 0)).1) (N := (xCps (xCps (xCps (sDrop S d, N) d (nI 1) (N 1 0 0)) d (nI 0) (N 1 0 0)) d (nI 2) (N 1 0 0)).2) h4.1 hO4 hd) (h4.1.2 d hd).1 rfl rfl rfl rfl rfl (Nat.le_of_ble_eq_true rfl) ⟨by rw [hR]; exact Nat.le_of_ble_eq_true rfl, by rw [hR]; exact Nat.le_of_ble_eq_true rfl⟩ ⟨by rw [hR]; exact Nat.le_of_ble_eq_true rfl, by rw [hR]; exact Nat.le_of_ble_eq_true rfl⟩ dX5_fetch_32 (fun v32 C9 L9 h9 => ?_)
  obtain ⟨rfl, rfl, rfl⟩ := h9
  exact k_iret X hE dX5_fetch_35 (by first | omega | exact Nat.le_of_ble_eq_true rfl | (dsimp only; omega)) (by first | omega | exact Nat.le_of_ble_eq_true rfl | (dsimp only; omega)) ⟨⟨d, hd, rfl, rfl, h4.1⟩, h4.2.1, h4.2.2⟩
