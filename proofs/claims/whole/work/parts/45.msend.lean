theorem xDel_n {S S' : kI4} {N N' : kN3} {d k : Nat} {r : Int32} (h : xDel S N d k r S' N') : ∀ f i j, f ≠ 1 → f ≠ 11 → N' f i j = N f i j := by
  rcases h with ⟨_, ⟨_, _, rfl, rfl⟩ | ⟨q, _, _, h4, _, rfl, rfl⟩⟩ | ⟨_, rfl, _⟩
  · exact fun _ _ _ _ _ => rfl
  · intro f i j h1 h2
    unfold nAddJ
    rw [w3_n (by omega), nHold_o h2]
  · exact fun _ _ _ _ _ => rfl
theorem xStep_n {S S' : kI4} {N N' : kN3} {d b : Nat} (h : xStep S N d b S' N') : N' 4 d 0 = N 4 d 0 + 1 ∧ N' 3 d 0 = N 3 d 0 := by
  obtain ⟨r, S1, N1, hd, hr⟩ := h
  have e := xDel_n hd
  have e4 : N1 4 d 0 = N 4 d 0 + 1 := (e 4 d 0 (by decide) (by decide)).trans w3_s
  have e3 : N1 3 d 0 = N 3 d 0 := (e 3 d 0 (by decide) (by decide)).trans (w3_n (by omega))
  rcases hr with ⟨_, _, _, rfl⟩ | ⟨_, _, _, rfl⟩
  · exact ⟨e4, e3⟩
  · rw [nRef_n (f := 4) (by decide), nRef_n (f := 3) (by decide)]
    exact ⟨e4, e3⟩
/-- a run of sends, step by step -/
theorem xSnd_seq {S : kI4} {N : kN3} {d : Nat} : ∀ {n c : Nat} {S' : kI4} {N' : kN3}, xSnd S N d n c S' N' → ∃ (Sf : Nat → kI4) (Nf : Nat → kN3) (cf bf : Nat → Nat), (Sf 0 = S ∧ Nf 0 = N ∧ cf 0 = 0) ∧ (∀ j, j < n → xStep (Sf j) (Nf j) d (bf j) (Sf (j + 1)) (Nf (j + 1)) ∧ cf (j + 1) = cf j + bf j) ∧ Sf n = S' ∧ Nf n = N' ∧ cf n = c
  | 0, c, S', N', h => ⟨fun _ => S, fun _ => N, fun _ => 0, fun _ => 0, ⟨rfl, rfl, rfl⟩, fun j hj => absurd hj (Nat.not_lt_zero j), h.2.1.symm, h.2.2.symm, h.1.symm⟩
  | n + 1, c, S', N', h => by
    obtain ⟨c1, S1, N1, b, h1, h2, h3⟩ := h
    obtain ⟨Sf, Nf, cf, bf, ⟨a1, a2, a3⟩, a4, a5, a6, a7⟩ := xSnd_seq h1
    refine ⟨fun j => if j ≤ n then Sf j else S', fun j => if j ≤ n then Nf j else N', fun j => if j ≤ n then cf j else c1 + b, fun j => if j < n then bf j else b, ⟨(if_pos (Nat.zero_le n)).trans a1, (if_pos (Nat.zero_le n)).trans a2, (if_pos (Nat.zero_le n)).trans a3⟩, fun j hj => ?_, if_neg (by omega), if_neg (by omega), (if_neg (by omega)).trans h3.symm⟩
    show xStep (if j ≤ n then Sf j else S') (if j ≤ n then Nf j else N') d (if j < n then bf j else b) (if j + 1 ≤ n then Sf (j + 1) else S') (if j + 1 ≤ n then Nf (j + 1) else N') ∧ (if j + 1 ≤ n then cf (j + 1) else c1 + b) = (if j ≤ n then cf j else c1 + b) + (if j < n then bf j else b)
    rw [if_pos (show j ≤ n by omega), if_pos (show j ≤ n by omega), if_pos (show j ≤ n by omega)]
    by_cases e : j < n
    · rw [if_pos e, if_pos (show j + 1 ≤ n from e), if_pos (show j + 1 ≤ n from e), if_pos (show j + 1 ≤ n from e)]
      exact a4 j e
    · have e2 : j = n := by omega
      rw [if_neg e, if_neg (show ¬ j + 1 ≤ n by omega), if_neg (show ¬ j + 1 ≤ n by omega), if_neg (show ¬ j + 1 ≤ n by omega), e2, a5, a6, a7]
      exact ⟨h2, rfl⟩
theorem mPost_x {M M' : kM2} {Q Q' : kQ2} {d g b : Nat} (h : mPost M Q d g b M' Q') : (b = 0 ∨ b = 1) ∧ M' 15 = M 15 ∧ Q' 14 = Q 14 ∧ (kZ M → kZ M') := by
  rcases h with ⟨k, _, _, _, ⟨_, rfl, rfl, rfl⟩ | ⟨_, rfl, rfl, rfl⟩⟩ | ⟨f0, r, _, _, _, ⟨_, rfl, rfl, rfl⟩ | ⟨_, rfl, i, _, _, rfl, rfl⟩⟩
  · unfold mRef mRefQ
    exact ⟨Or.inl rfl, by rw [w2_f (a := 23) (b := 15) (by decide), w2_f (a := 20) (b := 15) (by decide)], by rw [w2_f (a := 21) (b := 14) (by decide), w2_f (a := 22) (b := 14) (by decide)], fun z => z.of (by rw [w2_f (a := 23) (b := 7) (by decide), w2_f (a := 20) (b := 7) (by decide)])⟩
  · exact ⟨Or.inr rfl, by rw [mAdopt_f (f := 15) (by decide), w2_f (a := 20) (b := 15) (by decide)], by rw [w2_f (a := 1) (b := 14) (by decide)], fun z => (z.of (w2_f (a := 20) (b := 7) (by decide))).adopt⟩
  · unfold mRef mRefQ
    exact ⟨Or.inl rfl, by rw [w2_f (a := 23) (b := 15) (by decide), w2_f (a := 20) (b := 15) (by decide)], by rw [w2_f (a := 21) (b := 14) (by decide), w2_f (a := 22) (b := 14) (by decide)], fun z => z.of (by rw [w2_f (a := 23) (b := 7) (by decide), w2_f (a := 20) (b := 7) (by decide)])⟩
  · exact ⟨Or.inr rfl, by rw [mLay_f (f := 15) (by decide), w2_f (a := 20) (b := 15) (by decide)], rfl, fun z => z.of (by rw [mLay_f (f := 7) (by decide), w2_f (a := 20) (b := 7) (by decide)])⟩
theorem kSim.q1 {S : kI4} {N : kN3} {M : kM2} {Q : kQ2} (h : kSim S N M Q) : Q 1 0 ≤ 40 := by
  rw [h.1.1]
  exact h.1.2.1
theorem kSim.q10 {S : kI4} {N : kN3} {M : kM2} {Q : kQ2} (h : kSim S N M Q) {d : Nat} (hd : d < 4) : Q 10 d ≤ 512 := by
  rw [(h.2.2.2.1 d hd).1]
  exact Nat.le_trans (h.n2 d hd) h.q14
theorem kSim.q21 {S : kI4} {N : kN3} {M : kM2} {Q : kQ2} (h : kSim S N M Q) : Q 21 0 ≤ 512 := Nat.le_trans h.2.2.2.2.2.1.1 (Nat.le_trans (kcn_le (fun _ => kse_le) _) h.q14)
theorem kSim.hw {S : kI4} {N : kN3} {M : kM2} {Q : kQ2} (h : kSim S N M Q) {d g : Nat} (hd : d < 4) (hg : g < Q 14 0) (h15 : M 15 g = nI d) : (M 17 g = -1 ∧ ∃ k, k < Q 10 d ∧ M 16 g = nI (1000 + k)) ∨ ∃ f0, f0 ≤ 1 ∧ M 17 g = nI f0 := by
  obtain ⟨e, he, b1, c1, c2, c3, c4, c5⟩ := h.2.2.2.2.1.2.2.1 g hg
  have ee : e = d := nI_d (b1.symm.trans h15) he hd
  subst ee
  rcases c5 with ⟨d1, k, d2, d3, d4, d5⟩ | ⟨d1, d2, d3⟩
  · exact Or.inl ⟨d1, k, by rw [(h.2.2.2.1 e he).1]; exact d2, d3⟩
  · obtain ⟨f0, -, hf0, hf⟩ := d1.ex (by decide) (by decide)
    exact Or.inr ⟨f0, hf0, hf⟩
theorem kSim.wait {S : kI4} {N : kN3} {M : kM2} {Q : kQ2} (h : kSim S N M Q) {d g : Nat} (hd : d < 4) (hg : g < Q 14 0) (h15 : M 15 g = nI d) (h20 : M 20 g = nI 0) (hle : kcn (kDv (M 15) d) g ≤ N 4 d 0) : kcn (kDv (M 15) d) g = N 4 d 0 ∧ N 4 d 0 < N 3 d 0 := by
  obtain ⟨e, he, b1, c1, c2, c3, c4, c5⟩ := h.2.2.2.2.1.2.2.1 g hg
  have ee : e = d := nI_d (b1.symm.trans h15) he hd
  subst ee
  have hlt : kcn (kDv (M 15) e) g < N 3 e 0 := by
    rw [(h.2.2.2.2.1.2.1 e he).1]
    exact kcn_lt hg (if_pos h15)
  have hn : ¬ kcn (kDv (M 15) e) g < N 4 e 0 := fun w => by
    rw [if_pos w, h20] at c4
    exact absurd c4 (by decide)
  exact ⟨by omega, by omega⟩
theorem kSim.skip {S : kI4} {N : kN3} {M : kM2} {Q : kQ2} (h : kSim S N M Q) {d g : Nat} (hd : d < 4) (hg : g < Q 14 0) (hle : kcn (kDv (M 15) d) g ≤ N 4 d 0) (hn : ¬ M 15 g = nI d ∨ ¬ M 20 g = nI 0) : kcn (kDv (M 15) d) (g + 1) ≤ N 4 d 0 := by
  show kcn (kDv (M 15) d) g + kDv (M 15) d g ≤ N 4 d 0
  by_cases z : M 15 g = nI d
  · obtain ⟨e, he, b1, c1, c2, c3, c4, c5⟩ := h.2.2.2.2.1.2.2.1 g hg
    have ee : e = d := nI_d (b1.symm.trans z) he hd
    subst ee
    have w := hn.resolve_left (fun y => y z)
    have hlt : kcn (kDv (M 15) e) g < N 4 e 0 := by
      by_cases y : kcn (kDv (M 15) e) g < N 4 e 0
      · exact y
      · rw [if_neg y] at c4
        exact absurd c4 w
    rw [show kDv (M 15) e g = 1 from if_pos z]
    exact hlt
  · rw [show kDv (M 15) d g = 0 from if_neg z]
    exact hle
/-- the counts are right -/
theorem kSim.ok {S : kI4} {N : kN3} {M : kM2} {Q : kQ2} (h : kSim S N M Q) : okX S N := by
  refine ⟨h.1.2.1, fun d hd => ?_⟩
  have h3 := h.n3 d hd
  have h2 := h.n2 d hd
  have hq := h.q14
  have h43 := (h.2.2.2.2.1.2.1 d hd).2
  obtain ⟨h5, h54⟩ := h.2.2.2.2.2.1.2.1 d hd
  refine ⟨by omega, by omega, h43, by omega, fun i hi => ?_⟩
  rw [h5] at hi
  obtain ⟨r, r1, r2, r3⟩ := kcn_ex (fun _ => krf_le) hi
  have hr : M 15 (Q 22 r) = nI d := by
    by_cases z : M 15 (Q 22 r) = nI d
    · exact z
    · exact absurd ((show kRf (M 15) (Q 22) d r = 0 from if_neg z).symm.trans r2) (by decide)
  obtain ⟨g1, g2, g3⟩ := (h.2.2.2.2.2.1.2.2 r r1).2 d hd hr
  rw [r3] at g1
  omega
theorem kSim.h54 {S : kI4} {N : kN3} {M : kM2} {Q : kQ2} (h : kSim S N M Q) : ∀ d, d < 4 → N 5 d 0 ≤ N 4 d 0 := fun d hd => (h.2.2.2.2.2.1.2.1 d hd).2
theorem kcf_v {a b c : Nat} (h : b = a + c) : (some (.int (nI (a + c))) : Option Value) = some (.int (nI b)) := by rw [h]
theorem kmo_v {a j : Nat} : (some (.int (nI (a - j - 1))) : Option Value) = some (.int (nI (a - (j + 1)))) := by rw [Nat.sub_sub]

set_option maxHeartbeats 4000000 in
set_option maxRecDepth 100000 in
theorem m_send {l : Launch} (htr : l.stackTraces = false) {E : kE} {A : Nat → Prop} {C : kC} {L : kL} {R : Int32} {M : kM2} {Q : kQ2} (h : isM E C L R M Q) {S S1 : kI4} {N N1 : kN3} {c : Nat} (hs : kSim S N M Q) (dv most : Int32) (hrun : ∀ d mo, d < 4 → dv = nI d → 1 ≤ mo → mo ≤ 100 → most = nI mo → xSnd S N d (min mo (N 3 d 0 - N 4 d 0)) c S1 N1) : kM l yX6_send cX6_send 6 (some .int) 5 115 0 0 E A C L [.ref (L (30, 0, 0)), .int dv, .int most] (fun v C' L' => ((∃ M' Q', kSim S1 N1 M' Q' ∧ (kZ M → kZ M') ∧ Q' 14 0 = Q 14 0 ∧ (∃ d mo, d < 4 ∧ dv = nI d ∧ 1 ≤ mo ∧ mo ≤ 100 ∧ most = nI mo) ∧ v = some (.int (nI c)) ∧ isM E C' L (nI 0) (w2 M' 24 0 (M' 24 0 + nI c)) Q') ∨ (¬ kix dv 4 ∧ v = some (.int (nI 0)) ∧ isM E C' L (nI 1) M Q) ∨ (kix dv 4 ∧ ¬ kin most (nI 1) (nI 100) ∧ v = some (.int (nI 0)) ∧ isM E C' L (nI 2) M Q)) ∧ L = L' ∧ kFm C C') := by
  refine kM.of htr (by decide) (Nat.le_of_ble_eq_true rfl) (fun Γ hl hR hN hnm X hE => ?_)
  refine k_lo (lo' := [(0, .ref (L (30, 0, 0))), (1, .int dv), (2, .int most)]) ⟨rfl, rfl, rfl, trivial⟩ ?_
  refine k_aload_n X dX6_send_0 rfl rfl ?_
  refine k_iload_n X dX6_send_1 rfl rfl ?_
  refine k_callS (rest := [.ref (L (30, 0, 0))]) X ks_X6_isDevice kb_177 (m_isDevice X.tr dv) rfl rfl (Nat.le_of_ble_eq_true rfl) ⟨by rw [hR]; exact Nat.le_of_ble_eq_true rfl, by rw [hR]; exact Nat.le_of_ble_eq_true rfl⟩ ⟨by rw [hR]; exact Nat.le_of_ble_eq_true rfl, by rw [hR]; exact Nat.le_of_ble_eq_true rfl⟩ dX6_send_2 (fun v2 C9 L9 h9 => ?_)
  obtain ⟨(⟨pd, rfl⟩ | ⟨pd, rfl⟩), rfl, rfl⟩ := h9
  ·
    obtain ⟨d, hd, rfl⟩ := pd.ex (by decide)
    refine k_if_ne (tgt := 12) X dX6_send_5 (by decide) (fun c5 => ?_) (fun c5 => absurd c5 (show ¬ (nI 1) = 0 by decide))
    refine k_iload_n X dX6_send_12 rfl rfl ?_
    refine k_iconst (v := (nI 1)) X dX6_send_13 (by decide) ?_
    refine k_bipush (v := (nI 100)) X dX6_send_14 (by decide) ?_
    refine k_callS (rest := [.ref (L (30, 0, 0))]) X ks_X6_in kb_180 (m_in X.tr most (nI 1) (nI 100)) rfl rfl (Nat.le_of_ble_eq_true rfl) ⟨by rw [hR]; exact Nat.le_of_ble_eq_true rfl, by rw [hR]; exact Nat.le_of_ble_eq_true rfl⟩ ⟨by rw [hR]; exact Nat.le_of_ble_eq_true rfl, by rw [hR]; exact Nat.le_of_ble_eq_true rfl⟩ dX6_send_16 (fun v16 C9 L9 h9 => ?_)
    obtain ⟨(⟨pm, rfl⟩ | ⟨pm, rfl⟩), rfl, rfl⟩ := h9
    ·
      obtain ⟨mo, hm1, hm2, rfl⟩ := pm.ex (by decide) (by decide)
      refine k_if_eq (tgt := 26) X dX6_send_19 (by decide) (fun c19 => absurd c19 (show ¬ ((nI 1) = 0) by decide)) (fun c19 => ?_)
      refine k_iconst (v := (nI 0)) X dX6_send_22 (by decide) ?_
      refine k_goto (tgt := 27) X dX6_send_23 (by decide) ?_
      refine k_callV (rest := []) X kv_X6_refused kb_183 (m_refused X.tr h (nI 0) (nI 0) (by decide)) h.1 rfl rfl rfl rfl rfl (Nat.le_of_ble_eq_true rfl) ⟨by rw [hR]; exact Nat.le_of_ble_eq_true rfl, by rw [hR]; exact Nat.le_of_ble_eq_true rfl⟩ ⟨by rw [hR]; exact Nat.le_of_ble_eq_true rfl, by rw [hR]; exact Nat.le_of_ble_eq_true rfl⟩ dX6_send_27 (fun v27 C9 L9 h9 => ?_)
      obtain ⟨rfl, rfl, g6, h6⟩ := h9
      have f6 := kFm.tr kFm.rf g6
      refine k_if_eq (tgt := 35) X dX6_send_30 (by decide) (fun c30 => ?_) (fun c30 => absurd (show (nI 0) = 0 by decide) c30)
      refine k_iconst (v := (nI 0)) X dX6_send_35 (by decide) ?_
      refine k_istore_n X dX6_send_36 rfl (by rw [hN]; decide) ?_
      refine k_iload_n X dX6_send_37 rfl rfl ?_
      refine k_istore X dX6_send_38 (by rw [hN]; decide) ?_
      refine k_iconst (v := (nI 0)) X dX6_send_40 (by decide) ?_
      refine k_istore X dX6_send_41 (by rw [hN]; decide) ?_
      obtain ⟨n, hn⟩ : ∃ n, n = min mo (N 3 d 0 - N 4 d 0) := ⟨_, rfl⟩
      have hrn := hrun d mo hd rfl hm1 hm2 rfl
      rw [← hn] at hrn
      obtain ⟨Sf, Nf, cf, bf, ⟨e0, e1, e2⟩, hst, e5, e6, e7⟩ := xSnd_seq hrn
      have hq14 := hs.q14
      have hNj : ∀ j, j ≤ n → Nf j 4 d 0 = N 4 d 0 + j ∧ Nf j 3 d 0 = N 3 d 0 := by
        intro j
        induction j with
        | zero =>
          intro _
          rw [e1]
          exact ⟨rfl, rfl⟩
        | succ j ih =>
          intro hj
          have w := xStep_n (hst j hj).1
          have w2 := ih (by omega)
          rw [w.1, w.2, w2.1, w2.2]
          exact ⟨rfl, rfl⟩
      have loop : ∀ (m k j : Nat) (C1 : kC) (M1 : kM2) (Q1 : kQ2), k + m = Q 14 0 → j ≤ n → Q1 14 0 = Q 14 0 → kSim (Sf j) (Nf j) M1 Q1 → (kZ M → kZ M1) → kcn (kDv (M1 15) d) k ≤ Nf j 4 d 0 → isM E C1 L (nI 0) M1 Q1 → kFm C C1 → kW Γ E A C1 L 0 0 43 [(0, .ref (L (30, 0, 0))), (1, .int (nI d)), (2, .int (nI mo)), (3, .int (nI (cf j))), (4, .int (nI (mo - j))), (5, .int (nI k))] [] := by
        intro m
        induction m with
        | zero =>
          intro k j C1 M1 Q1 hkm hj hq1 hs1 hz1 hle h1 f1
          refine k_iload X dX6_send_43 rfl ?_
          refine k_aload_n X dX6_send_45 rfl rfl ?_
          refine k_get0 X h1.1 (q := (RX6, TX6, 25)) rfl inlX6 14 (by decide) kb_509 (Or.inl rfl) rfl rfl dX6_send_46 ?_
          refine k_icmp_ge (tgt := 104) X dX6_send_49 (by decide) (fun c49 => ?_) (fun c49 => absurd (nI_le (Nat.le_of_eq (by omega)) (by omega)) c49)
          have ek : k = Q1 14 0 := by omega
          rw [ek, ← (hs1.2.2.2.2.1.2.1 d hd).1] at hle
          have ej : j = n := by have := hNj j hj; omega
          refine k_aload_n X dX6_send_104 rfl rfl ?_
          refine k_dup X dX6_send_105 rfl ?_
          refine k_get0 X h1.1 (q := (RX6, TX6, 25)) rfl inlX6 24 (by decide) kb_600 (Or.inl rfl) rfl rfl dX6_send_106 ?_
          refine k_iload_n X dX6_send_109 rfl rfl ?_
          refine k_iadd X dX6_send_110 ?_
          refine k_put1 X h1.1 (fs9 := [.int (nI 0), .int (nI (Q1 1 0)), .ref (L (32, 0, 0)), .ref (L (33, 0, 0)), .ref (L (34, 0, 0)), .ref (L (35, 0, 0)), .ref (L (36, 0, 0)), .ref (L (37, 0, 0)), .ref (L (38, 0, 0)), .ref (L (39, 0, 0)), .ref (L (40, 0, 0)), .ref (L (41, 0, 0)), .ref (L (42, 0, 0)), .ref (L (43, 0, 0)), .int (nI (Q1 14 0)), .ref (L (45, 0, 0)), .ref (L (46, 0, 0)), .ref (L (47, 0, 0)), .ref (L (48, 0, 0)), .ref (L (49, 0, 0)), .ref (L (50, 0, 0)), .int (nI (Q1 21 0)), .ref (L (52, 0, 0)), .ref (L (53, 0, 0)), .int ((M1 24 0) + (nI (cf j)))]) (q := (RX6, TX6, 25)) rfl inlX6 tyX6 tyX6_ok nmX6 24 (by decide) kb_600 (Or.inl rfl) (Or.inl rfl) rfl rfl rfl (Nat.le_of_ble_eq_true rfl) rfl dX6_send_111 ?_
          refine k_abs (fun C' => isM E C' L (nI 0) (w2 M1 24 0 ((M1 24 0) + (nI (cf j)))) Q1 ∧ kFm C C') ⟨isM.obj (R' := (nI 0)) (M' := (w2 M1 24 0 ((M1 24 0) + (nI (cf j))))) (Q' := Q1) h1 (fun b hb => w2_row b hb) (fun _ _ _ _ => rfl), kFm.up f1 (by decide)⟩ (fun C1 g1 => ?_)
          obtain ⟨h1, f1⟩ := g1
          refine k_iload_n X dX6_send_114 rfl rfl ?_
          exact k_iret X hE dX6_send_115 (by first | omega | exact Nat.le_of_ble_eq_true rfl | (dsimp only; omega)) (by first | omega | exact Nat.le_of_ble_eq_true rfl | (dsimp only; omega)) ⟨Or.inl (⟨M1, Q1, by rw [← e5, ← e6, ← ej]; exact hs1, hz1, hq1, ⟨d, mo, hd, rfl, hm1, hm2, rfl⟩, by rw [← e7, ← ej], by rw [← e7, ← ej]; exact h1⟩), rfl, f1⟩
        | succ m ih =>
          intro k j C1 M1 Q1 hkm hj hq1 hs1 hz1 hle h1 f1
          have hk1 : k < Q1 14 0 := by omega
          refine k_iload X dX6_send_43 rfl ?_
          refine k_aload_n X dX6_send_45 rfl rfl ?_
          refine k_get0 X h1.1 (q := (RX6, TX6, 25)) rfl inlX6 14 (by decide) kb_509 (Or.inl rfl) rfl rfl dX6_send_46 ?_
          refine k_icmp_ge (tgt := 104) X dX6_send_49 (by decide) (fun c49 => absurd c49 (nI_ge (show k < Q1 14 0 by omega) (by omega))) (fun c49 => ?_)
          refine k_iload X dX6_send_52 rfl ?_
          refine k_if_le (tgt := 104) X dX6_send_54 (by decide) (fun c54 => ?_) (fun c54 => ?_)
          ·
            have z0 := (kle0 (by omega)).mp c54
            have ej : j = n := by omega
            refine k_aload_n X dX6_send_104 rfl rfl ?_
            refine k_dup X dX6_send_105 rfl ?_
            refine k_get0 X h1.1 (q := (RX6, TX6, 25)) rfl inlX6 24 (by decide) kb_600 (Or.inl rfl) rfl rfl dX6_send_106 ?_
            refine k_iload_n X dX6_send_109 rfl rfl ?_
            refine k_iadd X dX6_send_110 ?_
            refine k_put1 X h1.1 (fs9 := [.int (nI 0), .int (nI (Q1 1 0)), .ref (L (32, 0, 0)), .ref (L (33, 0, 0)), .ref (L (34, 0, 0)), .ref (L (35, 0, 0)), .ref (L (36, 0, 0)), .ref (L (37, 0, 0)), .ref (L (38, 0, 0)), .ref (L (39, 0, 0)), .ref (L (40, 0, 0)), .ref (L (41, 0, 0)), .ref (L (42, 0, 0)), .ref (L (43, 0, 0)), .int (nI (Q1 14 0)), .ref (L (45, 0, 0)), .ref (L (46, 0, 0)), .ref (L (47, 0, 0)), .ref (L (48, 0, 0)), .ref (L (49, 0, 0)), .ref (L (50, 0, 0)), .int (nI (Q1 21 0)), .ref (L (52, 0, 0)), .ref (L (53, 0, 0)), .int ((M1 24 0) + (nI (cf j)))]) (q := (RX6, TX6, 25)) rfl inlX6 tyX6 tyX6_ok nmX6 24 (by decide) kb_600 (Or.inl rfl) (Or.inl rfl) rfl rfl rfl (Nat.le_of_ble_eq_true rfl) rfl dX6_send_111 ?_
            refine k_abs (fun C' => isM E C' L (nI 0) (w2 M1 24 0 ((M1 24 0) + (nI (cf j)))) Q1 ∧ kFm C C') ⟨isM.obj (R' := (nI 0)) (M' := (w2 M1 24 0 ((M1 24 0) + (nI (cf j))))) (Q' := Q1) h1 (fun b hb => w2_row b hb) (fun _ _ _ _ => rfl), kFm.up f1 (by decide)⟩ (fun C2 g2 => ?_)
            obtain ⟨h2, f2⟩ := g2
            refine k_iload_n X dX6_send_114 rfl rfl ?_
            exact k_iret X hE dX6_send_115 (by first | omega | exact Nat.le_of_ble_eq_true rfl | (dsimp only; omega)) (by first | omega | exact Nat.le_of_ble_eq_true rfl | (dsimp only; omega)) ⟨Or.inl (⟨M1, Q1, by rw [← e5, ← e6, ← ej]; exact hs1, hz1, hq1, ⟨d, mo, hd, rfl, hm1, hm2, rfl⟩, by rw [← e7, ← ej], by rw [← e7, ← ej]; exact h2⟩), rfl, f2⟩
          ·
            refine k_aload_n X dX6_send_57 rfl rfl ?_
            refine k_get0 X h1.1 (q := (RX6, TX6, 25)) rfl inlX6 15 (by decide) kb_70 (Or.inl rfl) rfl rfl dX6_send_58 ?_
            refine k_iload X dX6_send_61 rfl ?_
            refine k_mld X h1 15 (i := k) rfl (by decide) (show k < 600 by omega) dX6_send_63 ?_
            refine k_iload_n X dX6_send_64 rfl rfl ?_
            refine k_icmp_ne (tgt := 98) X dX6_send_65 (by decide) (fun c65 => ?_) (fun c65 => ?_)
            ·
              refine k_iinc (v := (nI (k + 1))) X dX6_send_98 rfl (by rw [show Int32.ofInt 1 = nI 1 from by decide, nI_add]) (by rw [hN]; decide) ?_
              refine k_goto (tgt := 43) X dX6_send_101 (by decide) ?_
              exact k_lo (lo' := [(0, .ref (L (30, 0, 0))), (1, .int (nI d)), (2, .int (nI mo)), (3, .int (nI (cf j))), (4, .int (nI (mo - j))), (5, .int (nI (k + 1)))]) ⟨rfl, rfl, rfl, rfl, rfl, rfl, trivial⟩ (ih (k + 1) j C1 M1 Q1 (by omega) hj hq1 hs1 hz1 (hs1.skip hd hk1 hle (by first | exact Or.inl c65 | exact Or.inr c75)) h1 f1)
            ·
              refine k_aload_n X dX6_send_68 rfl rfl ?_
              refine k_get0 X h1.1 (q := (RX6, TX6, 25)) rfl inlX6 20 (by decide) kb_75 (Or.inl rfl) rfl rfl dX6_send_69 ?_
              refine k_iload X dX6_send_72 rfl ?_
              refine k_mld X h1 20 (i := k) rfl (by decide) (show k < 600 by omega) dX6_send_74 ?_
              refine k_if_ne (tgt := 98) X dX6_send_75 (by decide) (fun c75 => ?_) (fun c75 => ?_)
              ·
                refine k_iinc (v := (nI (k + 1))) X dX6_send_98 rfl (by rw [show Int32.ofInt 1 = nI 1 from by decide, nI_add]) (by rw [hN]; decide) ?_
                refine k_goto (tgt := 43) X dX6_send_101 (by decide) ?_
                exact k_lo (lo' := [(0, .ref (L (30, 0, 0))), (1, .int (nI d)), (2, .int (nI mo)), (3, .int (nI (cf j))), (4, .int (nI (mo - j))), (5, .int (nI (k + 1)))]) ⟨rfl, rfl, rfl, rfl, rfl, rfl, trivial⟩ (ih (k + 1) j C1 M1 Q1 (by omega) hj hq1 hs1 hz1 (hs1.skip hd hk1 hle (by first | exact Or.inl c65 | exact Or.inr c75)) h1 f1)
              ·
                refine k_iload_n X dX6_send_78 rfl rfl ?_
                refine k_aload_n X dX6_send_79 rfl rfl ?_
                refine k_iload X dX6_send_80 rfl ?_
                obtain ⟨ek, elt⟩ := hs1.wait hd hk1 c65 c75 hle
                have hjn : j < n := by have := hNj j hj; have z0 : ¬ mo - j = 0 := fun z => c54 ((kle0 (by omega)).mpr z); omega
                refine k_callV (rest := [.int (nI (cf j))]) X kv_X6_post kb_601 (m_post X.tr h1 hs1.q1 (Nat.lt_of_le_of_lt hs1.q21 (by decide)) hd (hs1.q10 hd) (by omega) c65 (hs1.hw hd hk1 c65)) h1.1 rfl rfl rfl rfl rfl (Nat.le_of_ble_eq_true rfl) ⟨by rw [hR]; exact Nat.le_of_ble_eq_true rfl, by rw [hR]; exact Nat.le_of_ble_eq_true rfl⟩ ⟨by rw [hR]; exact Nat.le_of_ble_eq_true rfl, by rw [hR]; exact Nat.le_of_ble_eq_true rfl⟩ dX6_send_82 (fun v82 C9 L9 h9 => ?_)
                obtain ⟨⟨b, rfl, M2, Q2, hp, g3, h3⟩, rfl⟩ := h9
                have f3 := kFm.tr f1 g3
                obtain ⟨eb, hs2⟩ := hs1.step hd hk1 c65 c75 ek (hst j hjn).1 hp
                obtain ⟨hb01, e15, e14, hz2⟩ := mPost_x hp
                rcases hb01 with rfl | rfl
                ·
                  refine k_if_eq (tgt := 92) X dX6_send_85 (by decide) (fun c85 => ?_) (fun c85 => absurd (show (nI 0) = 0 by decide) c85)
                  refine k_iconst (v := (nI 0)) X dX6_send_92 (by decide) ?_
                  refine k_iaddN X dX6_send_93 ?_
                  refine k_istore_n X dX6_send_94 rfl (by rw [hN]; decide) ?_
                  refine k_iinc (v := nI (mo - j - 1)) X dX6_send_95 rfl (kdec (by omega)) (by rw [hN]; decide) ?_
                  refine k_iinc (v := (nI (k + 1))) X dX6_send_98 rfl (by rw [show Int32.ofInt 1 = nI 1 from by decide, nI_add]) (by rw [hN]; decide) ?_
                  refine k_goto (tgt := 43) X dX6_send_101 (by decide) ?_
                  exact k_lo (lo' := [(0, .ref (L (30, 0, 0))), (1, .int (nI d)), (2, .int (nI mo)), (3, .int (nI (cf (j + 1)))), (4, .int (nI (mo - (j + 1)))), (5, .int (nI (k + 1)))]) ⟨rfl, rfl, rfl, (kcf_v (a := cf j) (c := 0) (by rw [(hst j hjn).2, eb])), kmo_v, rfl, trivial⟩ (ih (k + 1) (j + 1) _ M2 Q2 (by omega) hjn (by rw [e14]; exact hq1) hs2 (fun z => hz2 (hz1 z)) (by rw [e15, (xStep_n (hst j hjn).1).1, ← ek]; exact Nat.add_le_add_left kdv_le _) h3 f3)
                ·
                  refine k_if_eq (tgt := 92) X dX6_send_85 (by decide) (fun c85 => absurd c85 (show ¬ ((nI 1) = 0) by decide)) (fun c85 => ?_)
                  refine k_iconst (v := (nI 1)) X dX6_send_88 (by decide) ?_
                  refine k_goto (tgt := 93) X dX6_send_89 (by decide) ?_
                  refine k_iaddN X dX6_send_93 ?_
                  refine k_istore_n X dX6_send_94 rfl (by rw [hN]; decide) ?_
                  refine k_iinc (v := nI (mo - j - 1)) X dX6_send_95 rfl (kdec (by omega)) (by rw [hN]; decide) ?_
                  refine k_iinc (v := (nI (k + 1))) X dX6_send_98 rfl (by rw [show Int32.ofInt 1 = nI 1 from by decide, nI_add]) (by rw [hN]; decide) ?_
                  refine k_goto (tgt := 43) X dX6_send_101 (by decide) ?_
                  exact k_lo (lo' := [(0, .ref (L (30, 0, 0))), (1, .int (nI d)), (2, .int (nI mo)), (3, .int (nI (cf (j + 1)))), (4, .int (nI (mo - (j + 1)))), (5, .int (nI (k + 1)))]) ⟨rfl, rfl, rfl, (kcf_v (a := cf j) (c := 1) (by rw [(hst j hjn).2, eb])), kmo_v, rfl, trivial⟩ (ih (k + 1) (j + 1) _ M2 Q2 (by omega) hjn (by rw [e14]; exact hq1) hs2 (fun z => hz2 (hz1 z)) (by rw [e15, (xStep_n (hst j hjn).1).1, ← ek]; exact Nat.add_le_add_left kdv_le _) h3 f3)
      exact k_lo (lo' := [(0, .ref (L (30, 0, 0))), (1, .int (nI d)), (2, .int (nI mo)), (3, .int (nI (cf 0))), (4, .int (nI (mo - 0))), (5, .int (nI 0))]) ⟨rfl, rfl, rfl, (by rw [e2]; rfl), rfl, rfl, trivial⟩ (loop (Q 14 0) 0 0 _ M Q (by omega) (Nat.zero_le _) rfl (by rw [e0, e1]; exact hs) id (Nat.zero_le _) h6 f6)
    ·
      refine k_if_eq (tgt := 26) X dX6_send_19 (by decide) (fun c19 => ?_) (fun c19 => absurd (show (nI 0) = 0 by decide) c19)
      refine k_iconst (v := (nI 2)) X dX6_send_26 (by decide) ?_
      refine k_callV (rest := []) X kv_X6_refused kb_183 (m_refused X.tr h (nI 2) (nI 1) (by decide)) h.1 rfl rfl rfl rfl rfl (Nat.le_of_ble_eq_true rfl) ⟨by rw [hR]; exact Nat.le_of_ble_eq_true rfl, by rw [hR]; exact Nat.le_of_ble_eq_true rfl⟩ ⟨by rw [hR]; exact Nat.le_of_ble_eq_true rfl, by rw [hR]; exact Nat.le_of_ble_eq_true rfl⟩ dX6_send_27 (fun v27 C9 L9 h9 => ?_)
      obtain ⟨rfl, rfl, g7, h7⟩ := h9
      have f7 := kFm.tr kFm.rf g7
      refine k_if_eq (tgt := 35) X dX6_send_30 (by decide) (fun c30 => absurd c30 (show ¬ ((nI 1) = 0) by decide)) (fun c30 => ?_)
      refine k_iconst (v := (nI 0)) X dX6_send_33 (by decide) ?_
      exact k_iret X hE dX6_send_34 (by first | omega | exact Nat.le_of_ble_eq_true rfl | (dsimp only; omega)) (by first | omega | exact Nat.le_of_ble_eq_true rfl | (dsimp only; omega)) ⟨Or.inr (Or.inr (⟨kix.of hd (by decide), pm, rfl, h7⟩)), rfl, f7⟩
  ·
    refine k_if_ne (tgt := 12) X dX6_send_5 (by decide) (fun c5 => absurd c5 (show ¬ (¬ (nI 0) = 0) by decide)) (fun c5 => ?_)
    refine k_iconst (v := (nI 1)) X dX6_send_8 (by decide) ?_
    refine k_goto (tgt := 27) X dX6_send_9 (by decide) ?_
    refine k_callV (rest := []) X kv_X6_refused kb_183 (m_refused X.tr h (nI 1) (nI 1) (by decide)) h.1 rfl rfl rfl rfl rfl (Nat.le_of_ble_eq_true rfl) ⟨by rw [hR]; exact Nat.le_of_ble_eq_true rfl, by rw [hR]; exact Nat.le_of_ble_eq_true rfl⟩ ⟨by rw [hR]; exact Nat.le_of_ble_eq_true rfl, by rw [hR]; exact Nat.le_of_ble_eq_true rfl⟩ dX6_send_27 (fun v27 C9 L9 h9 => ?_)
    obtain ⟨rfl, rfl, g8, h8⟩ := h9
    have f8 := kFm.tr kFm.rf g8
    refine k_if_eq (tgt := 35) X dX6_send_30 (by decide) (fun c30 => absurd c30 (show ¬ ((nI 1) = 0) by decide)) (fun c30 => ?_)
    refine k_iconst (v := (nI 0)) X dX6_send_33 (by decide) ?_
    exact k_iret X hE dX6_send_34 (by first | omega | exact Nat.le_of_ble_eq_true rfl | (dsimp only; omega)) (by first | omega | exact Nat.le_of_ble_eq_true rfl | (dsimp only; omega)) ⟨Or.inr (Or.inl (⟨pd, rfl, h8⟩)), rfl, f8⟩
