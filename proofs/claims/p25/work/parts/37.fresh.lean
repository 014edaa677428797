theorem kCw_1 {S : kI4} {d k : Nat} (h : S 2 k 0 0 = nI d) (a : Nat) : a + kcn (kCw S d) k + 1 = a + kcn (kCw S d) (k + 1) := by
  show _ = a + (kcn (kCw S d) k + kCw S d k)
  rw [show kCw S d k = 1 from if_pos h]
  rfl
theorem kCw_0 {S : kI4} {d k : Nat} (h : ¬ S 2 k 0 0 = nI d) (a : Nat) : a + kcn (kCw S d) k + 0 = a + kcn (kCw S d) (k + 1) := by
  show _ = a + (kcn (kCw S d) k + kCw S d k)
  rw [show kCw S d k = 0 from if_neg h]
  rfl
theorem kCw_le {S : kI4} {d : Nat} (k : Nat) : kCw S d k ≤ 1 := by
  unfold kCw
  by_cases y : S 2 k 0 0 = nI d
  · rw [if_pos y]
    exact Nat.le_refl 1
  · rw [if_neg y]
    exact Nat.zero_le 1
theorem kMq_le1 {s : kR2} (k : Nat) : kMq s k ≤ 1 := by
  unfold kMq
  by_cases y : s k 0 = -1
  · rw [if_pos y]
    exact Nat.le_refl 1
  · rw [if_neg y]
    exact Nat.zero_le 1
theorem f_room {l : Launch} (htr : l.stackTraces = false) {E : kE} {A : Nat → Prop} {C : kC} {L : kL} {S : kI4} {N : kN3} (hX : isX E C L S N) (hO : okX S N) {d : Nat} (hd : d < 4) {r : Nat} (hr : r ≤ 40) : kMH l yL_rooms cL_rooms 4 (some .int) [(0, 6, 7, 22), (0, 6, 11, 13)] 8 128 2 12 E A C L [.ref (L (1, 0, 0)), .int (nI d), .int (nI r)] (fun v C' L' => v = some (.int (S 4 d 0 0)) ∧ isX E C' L' (w4 S 4 d 0 0 (nI r)) N ∧ kFr C L C' L' ∧ L' (1, 0, 0) = L (1, 0, 0)) := by
  refine (h_setRoom htr hX hO (nI d) (nI r)).imp (fun v C' L' h => ?_)
  rcases h with h | h | h
  · obtain ⟨⟨e, a1, a2, _, a3, a4⟩, rfl, a5⟩ := h
    have z := nI_d a2 hd a1
    subst z
    exact ⟨a3, a4, a5, rfl⟩
  · obtain ⟨_, b, _⟩ := h
    exact absurd (kix.of hd (by decide)) b
  · obtain ⟨_, b, _⟩ := h
    exact absurd (kin_ok hr (by decide)) b.2

theorem f_fetch {l : Launch} (htr : l.stackTraces = false) {E : kE} {A : Nat → Prop} {C : kC} {L : kL} {S : kI4} {N : kN3} (hX : isX E C L S N) (hO : okX S N) {d : Nat} (hd : d < 4)  : kMH l yL_fetches cL_fetches 3 (some .int) [(0, 5, 6, 22)] 8 125 121 486 E A C L [.ref (L (1, 0, 0)), .int (nI d)] (fun v C' L' => v = some (.int ((xFetch (S, N) d).1 6 d 0 0 + (xFetch (S, N) d).1 7 d 0 0)) ∧ isX E C' L' (xFetch (S, N) d).1 (xFetch (S, N) d).2 ∧ kFr C L C' L' ∧ L' (1, 0, 0) = L (1, 0, 0)) := by
  refine (h_fetch htr hX hO (nI d)).imp (fun v C' L' h => ?_)
  rcases h with h | h
  · obtain ⟨⟨e, a1, a2, a3, a4⟩, a5, a6⟩ := h
    have z := nI_d a2 hd a1
    subst z
    exact ⟨a3, a4, a5, a6 _ (by decide)⟩
  · obtain ⟨_, b, _⟩ := h
    exact absurd (kix.of hd (by decide)) b

theorem f_chg {l : Launch} (htr : l.stackTraces = false) {E : kE} {A : Nat → Prop} {C : kC} {L : kL} {S : kI4} {N : kN3} (hX : isX E C L S N) (hO : okX S N) {d : Nat} (hd : d < 4) {T : Nat} (V : vS S N T) (h512 : ∀ d, d < 4 → N 3 d 0 < 512) (h43 : N 4 d 0 = N 3 d 0) {k f w : Nat} (hk : k < N 1 0 0) (h5 : S 5 d k 0 = nI 1) (hK : kin (nI f) (nI 0) (nI 1) ∧ kin (nI w) (nI 0) (if nI f = nI 0 then nI 2 else nI 10000)) : kMH l yL_changes cL_changes 6 (some .int) [(0, 9, 10, 22), (0, 9, 15, 13), (0, 9, 20, 16)] 10 221 6 830 E A C L [.ref (L (1, 0, 0)), .int (nI d), .int (nI k), .int (nI f), .int (nI w)] (fun v C' L' => v = some (.int (nI 1)) ∧ isX E C' L' (sGo S N d k f w) (nGo N d) ∧ kFr C L C' L' ∧ L' (1, 0, 0) = L (1, 0, 0)) := by
  refine (h_change htr hX hO h512 (nI d) (nI k) (nI f) (nI w)).imp (fun v C' L' h => ?_)
  have hy := hf_yes V hO hd hk (by rw [h5]; decide)
  have ho := (hO.2 d hd).1
  rcases h with h | h | h | h
  · obtain ⟨⟨e, a1, a2, _, ff, fS, kk, b1, b2, a3, a4⟩, a5, a6⟩ := h
    have z := nI_d a2 hd a1
    subst z
    obtain ⟨rfl, rfl⟩ := kFh.c8 (b1.un ho hy) b2
    rw [h43, show N 3 d 0 + 1 - N 3 d 0 = 1 by omega] at a3
    exact ⟨a3, a4, a5, a6 _ (Nat.le_refl 1)⟩
  · obtain ⟨_, b, _⟩ := h
    exact absurd (kix.of hd (by decide)) b
  · obtain ⟨_, b, _⟩ := h
    exact absurd hK b.2
  · obtain ⟨_, ⟨e, a1, a2, _, b⟩, _⟩ := h
    have z := nI_d a2 hd a1
    subst z
    exact absurd (b.un ho hy) (by simp)

theorem fr_pure {S : kI4} {N : kN3} {T b d : Nat} (V : vS S N T) (hO : okX S N) (hd : d < 4) (h3 : ∀ e, e < 4 → N 3 e 0 ≤ b) (h43 : N 4 d 0 = N 3 d 0) :
    (xFetch (w4 S 4 d 0 0 (nI 3), N) d).1 6 d 0 0 + (xFetch (w4 S 4 d 0 0 (nI 3), N) d).1 7 d 0 0 = nI (min 3 (kcn (kCw S d) (N 1 0 0)) + kcn (kMq (S 9 d)) (N 2 d 0)) ∧
    (xFetch (w4 S 4 d 0 0 (nI 3), N) d).1 4 d 0 0 = nI 3 ∧ okX (xFetch (w4 S 4 d 0 0 (nI 3), N) d).1 (xFetch (w4 S 4 d 0 0 (nI 3), N) d).2 ∧
    ∀ F2, F2 = xFetch (w4 S 4 d 0 0 (nI 3), N) d → (xFetch (w4 F2.1 4 d 0 0 (nI 40), F2.2) d).1 6 d 0 0 + (xFetch (w4 F2.1 4 d 0 0 (nI 40), F2.2) d).1 7 d 0 0 = nI (kcn (kCw S d) (N 1 0 0) + kcn (kMq (S 9 d)) (N 2 d 0)) ∧
    (xFetch (w4 F2.1 4 d 0 0 (nI 40), F2.2) d).1 4 d 0 0 = nI 40 ∧ kFq (xFetch (w4 F2.1 4 d 0 0 (nI 40), F2.2) d).1 (xFetch (w4 F2.1 4 d 0 0 (nI 40), F2.2) d).2 b d := by
  have hj := V.1
  have V1 : vS (w4 S 4 d 0 0 (nI 3)) N T := V.room rfl (by decide)
  have f1 := fetch_spec (d := d) (r := 3) V1 w4_s (by decide)
  have hm := (V.2.2 d hd).2.2.1.2
  have c1 : kCw (w4 S 4 d 0 0 (nI 3)) d = kCw S d := by
    funext j
    unfold kCw
    rw [w4_f (show 2 ≠ 4 by decide)]
  rw [c1] at f1
  have e7 : (xFetch (w4 S 4 d 0 0 (nI 3), N) d).1 7 = S 7 := (xFetch_s (by decide) (by decide) (by decide)).trans (w4_f (by decide))
  have V2 := V1.fetch hd
  have O2 : okX (xFetch (w4 S 4 d 0 0 (nI 3), N) d).1 (xFetch (w4 S 4 d 0 0 (nI 3), N) d).2 := okX.fetch hO
  refine ⟨?_, ?_, O2, ?_⟩
  · rw [f1.1, e7, hm, nI_add]
  · rw [xFetch_s (by decide) (by decide) (by decide)]
    exact w4_s
  intro F2 hF2
  have e2 : F2.1 2 = S 2 := by rw [hF2]; exact (xFetch_s (by decide) (by decide) (by decide)).trans (w4_f (by decide))
  have e72 : F2.1 7 = S 7 := by rw [hF2]; exact e7
  have n2 : ∀ f, f ≠ 11 → F2.2 f = N f := fun f y => by rw [hF2]; exact xFetch_n y
  rw [← hF2] at V2 O2
  have V3 : vS (w4 F2.1 4 d 0 0 (nI 40)) F2.2 T := V2.room rfl (by decide)
  have f3 := fetch_spec (d := d) (r := 40) V3 w4_s (by decide)
  have c3 : kCw (w4 F2.1 4 d 0 0 (nI 40)) d = kCw S d := by
    funext j
    unfold kCw
    rw [w4_f (show 2 ≠ 4 by decide), e2]
  rw [c3, n2 1 (by decide)] at f3
  have hle : kcn (kCw S d) (N 1 0 0) ≤ 40 := Nat.le_trans (kcn_le (fun n => by
    unfold kCw
    by_cases y : S 2 n 0 0 = nI d
    · rw [if_pos y]
      exact Nat.le_refl 1
    · rw [if_neg y]
      exact Nat.zero_le 1) _) hj
  have O4 : okX (xFetch (w4 F2.1 4 d 0 0 (nI 40), F2.2) d).1 (xFetch (w4 F2.1 4 d 0 0 (nI 40), F2.2) d).2 := okX.fetch O2
  refine ⟨?_, ?_, ⟨⟨T, V3.fetch hd⟩, O4, fun e he => ?_, ?_, fun j hj2 => ?_⟩⟩
  · rw [f3.1, xFetch_s (f := 7) (by decide) (by decide) (by decide), w4_f (show 7 ≠ 4 by decide), e72, hm, nI_add]
    exact congrArg nI (by omega)
  · rw [xFetch_s (by decide) (by decide) (by decide)]
    exact w4_s
  · rw [xFetch_n (by decide), n2 3 (by decide)]
    exact h3 e he
  · rw [xFetch_n (by decide), xFetch_n (by decide), n2 3 (by decide), n2 4 (by decide)]
    exact h43
  · rw [xFetch_n (by decide), n2 1 (by decide)] at hj2
    have w := f3.2 hle j hj2
    rw [xFetch_s (f := 2) (by decide) (by decide) (by decide), xFetch_s (f := 3) (by decide) (by decide) (by decide)]
    exact w

set_option maxHeartbeats 4000000 in
set_option maxRecDepth 100000 in
theorem fr_A {Γ : kG} {E : kE} {A : Nat → Prop} (X : kX Γ E A cL_fresh RL) (hN : kNl Γ = 13) (hR : kRm Γ = ({ frames := 11, cells := 2800, slots := 200000, locals := 280 } : Room)) {C : kC} {L : kL} {S : kI4} {N : kN3} (hX : isX E C L S N) (hO : okX S N) {T : Nat} (V : vS S N T) {f : Nat → Int32} (hna : kNa E C f) (hn2 : ∀ d, d < 4 → f d = nI (N 2 d 0)) (hB : ∀ d, d < 4 → N 3 d 0 ≤ 50) {d : Nat} (hd : d < 4) {x3 x5 : Int32} : ∀ (m k cells slots : Nat), k + m = N 2 d 0 → cells + 2 * m ≤ 2800 → slots + 12 * m ≤ 200000 → (∀ c s, c ≤ cells + 2 * m → s ≤ slots + 12 * m → kW Γ E A C L c s 42 [(0, .ref (L (1, 0, 0))), (1, .ref (L (200, 0, 0))), (2, .int (nI d)), (3, .int (nI (0 + kcn (kMq (S 9 d)) (N 2 d 0))))] []) → kW Γ E A C L cells slots 5 [(0, .ref (L (1, 0, 0))), (1, .ref (L (200, 0, 0))), (2, .int (nI d)), (3, .int (nI (0 + kcn (kMq (S 9 d)) k))), (4, .int (nI k))] [] := by
  have hb := hB d hd
  have hm := V.m2 hd
  intro m
  induction m with
  | zero =>
    intro k cells slots hk hc hs kk
    have hk0 : k = N 2 d 0 := by omega
    subst hk0
    refine k_iload X dL_fresh_5 rfl ?_
    refine k_aload_n X dL_fresh_7 rfl rfl ?_
    refine k_iload_n X dL_fresh_8 rfl rfl ?_
    refine k_iald X hna rfl (pk_in d 4 hd) dL_fresh_9 ?_
    refine k_rw (y := nI (N 2 d 0)) (by rw [nI_clamp (by omega)]; exact hn2 d hd) ?_
    refine k_icmp_ge (tgt := 42) X dL_fresh_10 (by decide) (fun c10 => ?_) (fun c10 => absurd (nI_le (by omega) (by omega)) c10)
    refine k_lo (lo' := [(0, .ref (L (1, 0, 0))), (1, .ref (L (200, 0, 0))), (2, .int (nI d)), (3, .int (nI (0 + kcn (kMq (S 9 d)) (N 2 d 0))))]) ⟨rfl, rfl, rfl, rfl, trivial⟩ ?_
    exact kk _ _ (by omega) (by omega)
  | succ m ih =>
    intro k cells slots hk hc hs kk
    have hlt : k < N 2 d 0 := by omega
    refine k_iload X dL_fresh_5 rfl ?_
    refine k_aload_n X dL_fresh_7 rfl rfl ?_
    refine k_iload_n X dL_fresh_8 rfl rfl ?_
    refine k_iald X hna rfl (pk_in d 4 hd) dL_fresh_9 ?_
    refine k_rw (y := nI (N 2 d 0)) (by rw [nI_clamp (by omega)]; exact hn2 d hd) ?_
    refine k_icmp_ge (tgt := 42) X dL_fresh_10 (by decide) (fun c10 => absurd c10 (nI_ge (by omega) (by omega))) (fun c10 => ?_)
    refine k_iload_n X dL_fresh_13 rfl rfl ?_
    refine k_aload_n X dL_fresh_14 rfl rfl ?_
    refine k_iload_n X dL_fresh_15 rfl rfl ?_
    refine k_sipush (v := (nI 1000)) X dL_fresh_16 (by decide) ?_
    refine k_iload X dL_fresh_19 rfl ?_
    refine k_iaddN X dL_fresh_21 ?_
    refine k_callSH (rest := [.int (nI (0 + kcn (kMq (S 9 d)) k))]) X ksh_numberOf kb_434 (g_number X.tr hX hO hd hlt) rfl rfl (Nat.le_of_ble_eq_true rfl) ⟨by rw [hR]; exact Nat.le_of_ble_eq_true rfl, by rw [hR]; exact Nat.le_of_ble_eq_true rfl⟩ ⟨by rw [hR]; dsimp only; omega, by rw [hR]; dsimp only; omega⟩ dL_fresh_22 (fun v22 C9 L9 h9 => ?_)
    obtain ⟨rfl, rfl, rfl⟩ := h9
    refine k_iconst (v := (-1)) X dL_fresh_25 (by decide) ?_
    refine k_icmp_ne (tgt := 33) X dL_fresh_26 (by decide) (fun cb => ?_) (fun cb => ?_)
    ·
      refine k_iconst (v := (nI 0)) X dL_fresh_33 (by decide) ?_
      refine k_iaddN X dL_fresh_34 ?_
      refine k_rw (y := nI (0 + kcn (kMq (S 9 d)) (k + 1))) (congrArg nI (kMq_0 cb 0)) ?_
      refine k_istore_n X dL_fresh_35 rfl (by rw [hN]; decide) ?_
      refine k_iinc (v := (nI (k + 1))) X dL_fresh_36 rfl (by rw [show Int32.ofInt 1 = nI 1 from by decide, nI_add]) (by rw [hN]; decide) ?_
      refine k_goto (tgt := 5) X dL_fresh_39 (by decide) ?_
      refine k_lo (lo' := [(0, .ref (L (1, 0, 0))), (1, .ref (L (200, 0, 0))), (2, .int (nI d)), (3, .int (nI (0 + kcn (kMq (S 9 d)) (k + 1)))), (4, .int (nI (k + 1)))]) ⟨rfl, rfl, rfl, rfl, rfl, trivial⟩ ?_
      exact ih (k + 1) _ _ (by omega) (by omega) (by omega) (fun c s h1 h2 => kk c s (by omega) (by omega))
    ·
      refine k_iconst (v := (nI 1)) X dL_fresh_29 (by decide) ?_
      refine k_goto (tgt := 34) X dL_fresh_30 (by decide) ?_
      refine k_iaddN X dL_fresh_34 ?_
      refine k_rw (y := nI (0 + kcn (kMq (S 9 d)) (k + 1))) (congrArg nI (kMq_1 cb 0)) ?_
      refine k_istore_n X dL_fresh_35 rfl (by rw [hN]; decide) ?_
      refine k_iinc (v := (nI (k + 1))) X dL_fresh_36 rfl (by rw [show Int32.ofInt 1 = nI 1 from by decide, nI_add]) (by rw [hN]; decide) ?_
      refine k_goto (tgt := 5) X dL_fresh_39 (by decide) ?_
      refine k_lo (lo' := [(0, .ref (L (1, 0, 0))), (1, .ref (L (200, 0, 0))), (2, .int (nI d)), (3, .int (nI (0 + kcn (kMq (S 9 d)) (k + 1)))), (4, .int (nI (k + 1)))]) ⟨rfl, rfl, rfl, rfl, rfl, trivial⟩ ?_
      exact ih (k + 1) _ _ (by omega) (by omega) (by omega) (fun c s h1 h2 => kk c s (by omega) (by omega))

set_option maxHeartbeats 4000000 in
set_option maxRecDepth 100000 in
theorem fr_B {Γ : kG} {E : kE} {A : Nat → Prop} (X : kX Γ E A cL_fresh RL) (hN : kNl Γ = 13) (hR : kRm Γ = ({ frames := 11, cells := 2800, slots := 200000, locals := 280 } : Room)) {C : kC} {L : kL} {S : kI4} {N : kN3} (hX : isX E C L S N) (hO : okX S N) {T : Nat} (V : vS S N T) {f : Nat → Int32} (hna : kNa E C f) (hn2 : ∀ d, d < 4 → f d = nI (N 2 d 0)) (hB : ∀ d, d < 4 → N 3 d 0 ≤ 50) {d : Nat} (hd : d < 4) {x3 x4 x5 : Int32} : ∀ (m k cells slots : Nat), k + m = N 2 d 0 → cells + 2 * m ≤ 2800 → slots + 12 * m ≤ 200000 → (∀ c s, c ≤ cells + 2 * m → s ≤ slots + 12 * m → kW Γ E A C L c s 112 [(0, .ref (L (1, 0, 0))), (1, .ref (L (200, 0, 0))), (2, .int (nI d)), (3, .int x3), (4, .int x4), (5, .int x5), (6, .int (nI (0 + kcn (kMq (S 9 d)) (N 2 d 0))))] []) → kW Γ E A C L cells slots 73 [(0, .ref (L (1, 0, 0))), (1, .ref (L (200, 0, 0))), (2, .int (nI d)), (3, .int x3), (4, .int x4), (5, .int x5), (6, .int (nI (0 + kcn (kMq (S 9 d)) k))), (7, .int (nI k))] [] := by
  have hb := hB d hd
  have hm := V.m2 hd
  intro m
  induction m with
  | zero =>
    intro k cells slots hk hc hs kk
    have hk0 : k = N 2 d 0 := by omega
    subst hk0
    refine k_iload X dL_fresh_73 rfl ?_
    refine k_aload_n X dL_fresh_75 rfl rfl ?_
    refine k_iload_n X dL_fresh_76 rfl rfl ?_
    refine k_iald X hna rfl (pk_in d 4 hd) dL_fresh_77 ?_
    refine k_rw (y := nI (N 2 d 0)) (by rw [nI_clamp (by omega)]; exact hn2 d hd) ?_
    refine k_icmp_ge (tgt := 112) X dL_fresh_78 (by decide) (fun c78 => ?_) (fun c78 => absurd (nI_le (by omega) (by omega)) c78)
    refine k_lo (lo' := [(0, .ref (L (1, 0, 0))), (1, .ref (L (200, 0, 0))), (2, .int (nI d)), (3, .int x3), (4, .int x4), (5, .int x5), (6, .int (nI (0 + kcn (kMq (S 9 d)) (N 2 d 0))))]) ⟨rfl, rfl, rfl, rfl, rfl, rfl, rfl, trivial⟩ ?_
    exact kk _ _ (by omega) (by omega)
  | succ m ih =>
    intro k cells slots hk hc hs kk
    have hlt : k < N 2 d 0 := by omega
    refine k_iload X dL_fresh_73 rfl ?_
    refine k_aload_n X dL_fresh_75 rfl rfl ?_
    refine k_iload_n X dL_fresh_76 rfl rfl ?_
    refine k_iald X hna rfl (pk_in d 4 hd) dL_fresh_77 ?_
    refine k_rw (y := nI (N 2 d 0)) (by rw [nI_clamp (by omega)]; exact hn2 d hd) ?_
    refine k_icmp_ge (tgt := 112) X dL_fresh_78 (by decide) (fun c78 => absurd c78 (nI_ge (by omega) (by omega))) (fun c78 => ?_)
    refine k_iload X dL_fresh_81 rfl ?_
    refine k_aload_n X dL_fresh_83 rfl rfl ?_
    refine k_iload_n X dL_fresh_84 rfl rfl ?_
    refine k_sipush (v := (nI 1000)) X dL_fresh_85 (by decide) ?_
    refine k_iload X dL_fresh_88 rfl ?_
    refine k_iaddN X dL_fresh_90 ?_
    refine k_callSH (rest := [.int (nI (0 + kcn (kMq (S 9 d)) k))]) X ksh_numberOf kb_434 (g_number X.tr hX hO hd hlt) rfl rfl (Nat.le_of_ble_eq_true rfl) ⟨by rw [hR]; exact Nat.le_of_ble_eq_true rfl, by rw [hR]; exact Nat.le_of_ble_eq_true rfl⟩ ⟨by rw [hR]; dsimp only; omega, by rw [hR]; dsimp only; omega⟩ dL_fresh_91 (fun v91 C9 L9 h9 => ?_)
    obtain ⟨rfl, rfl, rfl⟩ := h9
    refine k_iconst (v := (-1)) X dL_fresh_94 (by decide) ?_
    refine k_icmp_ne (tgt := 102) X dL_fresh_95 (by decide) (fun cb => ?_) (fun cb => ?_)
    ·
      refine k_iconst (v := (nI 0)) X dL_fresh_102 (by decide) ?_
      refine k_iaddN X dL_fresh_103 ?_
      refine k_rw (y := nI (0 + kcn (kMq (S 9 d)) (k + 1))) (congrArg nI (kMq_0 cb 0)) ?_
      refine k_istore X dL_fresh_104 (by rw [hN]; decide) ?_
      refine k_iinc (v := (nI (k + 1))) X dL_fresh_106 rfl (by rw [show Int32.ofInt 1 = nI 1 from by decide, nI_add]) (by rw [hN]; decide) ?_
      refine k_goto (tgt := 73) X dL_fresh_109 (by decide) ?_
      refine k_lo (lo' := [(0, .ref (L (1, 0, 0))), (1, .ref (L (200, 0, 0))), (2, .int (nI d)), (3, .int x3), (4, .int x4), (5, .int x5), (6, .int (nI (0 + kcn (kMq (S 9 d)) (k + 1)))), (7, .int (nI (k + 1)))]) ⟨rfl, rfl, rfl, rfl, rfl, rfl, rfl, rfl, trivial⟩ ?_
      exact ih (k + 1) _ _ (by omega) (by omega) (by omega) (fun c s h1 h2 => kk c s (by omega) (by omega))
    ·
      refine k_iconst (v := (nI 1)) X dL_fresh_98 (by decide) ?_
      refine k_goto (tgt := 103) X dL_fresh_99 (by decide) ?_
      refine k_iaddN X dL_fresh_103 ?_
      refine k_rw (y := nI (0 + kcn (kMq (S 9 d)) (k + 1))) (congrArg nI (kMq_1 cb 0)) ?_
      refine k_istore X dL_fresh_104 (by rw [hN]; decide) ?_
      refine k_iinc (v := (nI (k + 1))) X dL_fresh_106 rfl (by rw [show Int32.ofInt 1 = nI 1 from by decide, nI_add]) (by rw [hN]; decide) ?_
      refine k_goto (tgt := 73) X dL_fresh_109 (by decide) ?_
      refine k_lo (lo' := [(0, .ref (L (1, 0, 0))), (1, .ref (L (200, 0, 0))), (2, .int (nI d)), (3, .int x3), (4, .int x4), (5, .int x5), (6, .int (nI (0 + kcn (kMq (S 9 d)) (k + 1)))), (7, .int (nI (k + 1)))]) ⟨rfl, rfl, rfl, rfl, rfl, rfl, rfl, rfl, trivial⟩ ?_
      exact ih (k + 1) _ _ (by omega) (by omega) (by omega) (fun c s h1 h2 => kk c s (by omega) (by omega))

set_option maxHeartbeats 4000000 in
set_option maxRecDepth 100000 in
theorem fr_C {Γ : kG} {E : kE} {A : Nat → Prop} (X : kX Γ E A cL_fresh RL) (hN : kNl Γ = 13) (hR : kRm Γ = ({ frames := 11, cells := 2800, slots := 200000, locals := 280 } : Room)) {C : kC} {L : kL} {S : kI4} {N : kN3} (hX : isX E C L S N) (hO : okX S N) {T : Nat} (V : vS S N T) {f : Nat → Int32} (hna : kNa E C f) (hn2 : ∀ d, d < 4 → f d = nI (N 2 d 0)) (hB : ∀ d, d < 4 → N 3 d 0 ≤ 50) {d : Nat} (hd : d < 4) {x3 x5 x6 : Int32} : ∀ (m k cells slots : Nat), k + m = N 1 0 0 → cells + 1 * m ≤ 2800 → slots + 6 * m ≤ 200000 → (∀ c s, c ≤ cells + 1 * m → s ≤ slots + 6 * m → kW Γ E A C L c s 153 [(0, .ref (L (1, 0, 0))), (2, .int (nI d)), (3, .int x3), (5, .int x5), (6, .int x6), (7, .int (nI (0 + kcn (kCw S d) (N 1 0 0))))] []) → kW Γ E A C L cells slots 118 [(0, .ref (L (1, 0, 0))), (2, .int (nI d)), (3, .int x3), (5, .int x5), (6, .int x6), (7, .int (nI (0 + kcn (kCw S d) k))), (8, .int (nI k))] [] := by
  have hj := hO.1
  intro m
  induction m with
  | zero =>
    intro k cells slots hk hc hs kk
    have hk0 : k = N 1 0 0 := by omega
    subst hk0
    refine k_iload X dL_fresh_118 rfl ?_
    refine k_aload_n X dL_fresh_120 rfl rfl ?_
    refine k_callV (rest := [.int (nI (N 1 0 0))]) X kv_X5_jobs kb_59 (c_jobs X.tr hX hO) hX.1.1.1 rfl rfl rfl rfl rfl (Nat.le_of_ble_eq_true rfl) ⟨by rw [hR]; exact Nat.le_of_ble_eq_true rfl, by rw [hR]; exact Nat.le_of_ble_eq_true rfl⟩ ⟨by rw [hR]; dsimp only; omega, by rw [hR]; dsimp only; omega⟩ dL_fresh_121 (fun v121 C9 L9 h9 => ?_)
    obtain ⟨rfl, rfl, rfl⟩ := h9
    refine k_icmp_ge (tgt := 153) X dL_fresh_124 (by decide) (fun c124 => ?_) (fun c124 => absurd (nI_le (by omega) (by omega)) c124)
    refine k_lo (lo' := [(0, .ref (L (1, 0, 0))), (2, .int (nI d)), (3, .int x3), (5, .int x5), (6, .int x6), (7, .int (nI (0 + kcn (kCw S d) (N 1 0 0))))]) ⟨rfl, rfl, rfl, rfl, rfl, rfl, trivial⟩ ?_
    exact kk _ _ (by omega) (by omega)
  | succ m ih =>
    intro k cells slots hk hc hs kk
    have hlt : k < N 1 0 0 := by omega
    refine k_iload X dL_fresh_118 rfl ?_
    refine k_aload_n X dL_fresh_120 rfl rfl ?_
    refine k_callV (rest := [.int (nI k)]) X kv_X5_jobs kb_59 (c_jobs X.tr hX hO) hX.1.1.1 rfl rfl rfl rfl rfl (Nat.le_of_ble_eq_true rfl) ⟨by rw [hR]; exact Nat.le_of_ble_eq_true rfl, by rw [hR]; exact Nat.le_of_ble_eq_true rfl⟩ ⟨by rw [hR]; dsimp only; omega, by rw [hR]; dsimp only; omega⟩ dL_fresh_121 (fun v121 C9 L9 h9 => ?_)
    obtain ⟨rfl, rfl, rfl⟩ := h9
    refine k_icmp_ge (tgt := 153) X dL_fresh_124 (by decide) (fun c124 => absurd c124 (nI_ge (by omega) (by omega))) (fun c124 => ?_)
    refine k_iload X dL_fresh_127 rfl ?_
    refine k_aload_n X dL_fresh_129 rfl rfl ?_
    refine k_iload X dL_fresh_130 rfl ?_
    refine k_callSH (rest := [.int (nI (0 + kcn (kCw S d) k))]) X ksh_crew kb_380 (g_crew X.tr hX hO hlt) rfl rfl (Nat.le_of_ble_eq_true rfl) ⟨by rw [hR]; exact Nat.le_of_ble_eq_true rfl, by rw [hR]; exact Nat.le_of_ble_eq_true rfl⟩ ⟨by rw [hR]; dsimp only; omega, by rw [hR]; dsimp only; omega⟩ dL_fresh_132 (fun v132 C9 L9 h9 => ?_)
    obtain ⟨rfl, rfl, rfl⟩ := h9
    refine k_iload_n X dL_fresh_135 rfl rfl ?_
    refine k_icmp_ne (tgt := 143) X dL_fresh_136 (by decide) (fun cb => ?_) (fun cb => ?_)
    ·
      refine k_iconst (v := (nI 0)) X dL_fresh_143 (by decide) ?_
      refine k_iaddN X dL_fresh_144 ?_
      refine k_rw (y := nI (0 + kcn (kCw S d) (k + 1))) (congrArg nI (kCw_0 cb 0)) ?_
      refine k_istore X dL_fresh_145 (by rw [hN]; decide) ?_
      refine k_iinc (v := (nI (k + 1))) X dL_fresh_147 rfl (by rw [show Int32.ofInt 1 = nI 1 from by decide, nI_add]) (by rw [hN]; decide) ?_
      refine k_goto (tgt := 118) X dL_fresh_150 (by decide) ?_
      refine k_lo (lo' := [(0, .ref (L (1, 0, 0))), (2, .int (nI d)), (3, .int x3), (5, .int x5), (6, .int x6), (7, .int (nI (0 + kcn (kCw S d) (k + 1)))), (8, .int (nI (k + 1)))]) ⟨rfl, rfl, rfl, rfl, rfl, rfl, rfl, trivial⟩ ?_
      exact ih (k + 1) _ _ (by omega) (by omega) (by omega) (fun c s h1 h2 => kk c s (by omega) (by omega))
    ·
      refine k_iconst (v := (nI 1)) X dL_fresh_139 (by decide) ?_
      refine k_goto (tgt := 144) X dL_fresh_140 (by decide) ?_
      refine k_iaddN X dL_fresh_144 ?_
      refine k_rw (y := nI (0 + kcn (kCw S d) (k + 1))) (congrArg nI (kCw_1 cb 0)) ?_
      refine k_istore X dL_fresh_145 (by rw [hN]; decide) ?_
      refine k_iinc (v := (nI (k + 1))) X dL_fresh_147 rfl (by rw [show Int32.ofInt 1 = nI 1 from by decide, nI_add]) (by rw [hN]; decide) ?_
      refine k_goto (tgt := 118) X dL_fresh_150 (by decide) ?_
      refine k_lo (lo' := [(0, .ref (L (1, 0, 0))), (2, .int (nI d)), (3, .int x3), (5, .int x5), (6, .int x6), (7, .int (nI (0 + kcn (kCw S d) (k + 1)))), (8, .int (nI (k + 1)))]) ⟨rfl, rfl, rfl, rfl, rfl, rfl, rfl, trivial⟩ ?_
      exact ih (k + 1) _ _ (by omega) (by omega) (by omega) (fun c s h1 h2 => kk c s (by omega) (by omega))

set_option maxHeartbeats 4000000 in
set_option maxRecDepth 100000 in
theorem fr_456 {Γ : kG} {E : kE} {A : Nat → Prop} (X : kX Γ E A cL_fresh RL) (hN : kNl Γ = 13) (hR : kRm Γ = ({ frames := 11, cells := 2800, slots := 200000, locals := 280 } : Room)) (hE : kEnd Γ E A (fun v _ _ => v = some (.int (nI 1))) 2800 200000 (some .boolean)) {d r0 : Nat} (hd : d < 4) (hr0 : r0 ≤ 40) {C : kC} {L : kL} {S : kI4} {N : kN3} {b : Nat} (hX : isX E C L S N) (K : kFq S N b d) (h40 : S 4 d 0 0 = nI 40) {cells slots : Nat} (hc : cells + 2 ≤ 2800) (hs : slots + 12 ≤ 200000) : kW Γ E A C L cells slots 456 [(0, .ref (L (1, 0, 0))), (2, .int (nI d)), (8, .int (nI r0)), (9, .int (nI 1))] [] := by
  refine k_iload X dL_fresh_456 rfl ?_
  refine k_if_eq (tgt := 477) X dL_fresh_458 (by decide) (fun c458 => absurd c458 (by decide)) (fun c458 => ?_)
  refine k_aload_n X dL_fresh_461 rfl rfl ?_
  refine k_iload_n X dL_fresh_462 rfl rfl ?_
  refine k_iload X dL_fresh_463 rfl ?_
  refine k_callSH (rest := []) X ksh_setRoom kb_213 (f_room X.tr hX K.2.1 hd hr0) rfl rfl (Nat.le_of_ble_eq_true rfl) ⟨by rw [hR]; exact Nat.le_of_ble_eq_true rfl, by rw [hR]; exact Nat.le_of_ble_eq_true rfl⟩ ⟨by rw [hR]; dsimp only; omega, by rw [hR]; dsimp only; omega⟩ dL_fresh_465 (fun v465 C9 L9 h9 => ?_)
  obtain ⟨e9, h1, h2, h3⟩ := h9
  rw [h40] at e9
  subst e9
  refine k_bipush (v := (nI 40)) X dL_fresh_468 (by decide) ?_
  refine k_icmp_ne (tgt := 477) X dL_fresh_470 (by decide) (fun c470 => absurd c470 (fun z => z rfl)) (fun c470 => ?_)
  refine k_iconst (v := (nI 1)) X dL_fresh_473 (by decide) ?_
  refine k_goto (tgt := 478) X dL_fresh_474 (by decide) ?_
  exact k_zret X hE kz1 dL_fresh_478 (by first | omega | exact Nat.le_of_ble_eq_true rfl | (dsimp only; omega)) (by first | omega | exact Nat.le_of_ble_eq_true rfl | (dsimp only; omega)) rfl

set_option maxHeartbeats 8000000 in
set_option maxRecDepth 100000 in
theorem fr_loop {Γ : kG} {E : kE} {A : Nat → Prop} (X : kX Γ E A cL_fresh RL) (hN : kNl Γ = 13) (hR : kRm Γ = ({ frames := 11, cells := 2800, slots := 200000, locals := 280 } : Room)) (hE : kEnd Γ E A (fun v _ _ => v = some (.int (nI 1))) 2800 200000 (some .boolean)) {d r0 : Nat} (hd : d < 4) (hr0 : r0 ≤ 40) : ∀ (m k : Nat) (C : kC) (L : kL) (S : kI4) (N : kN3) (b cells slots : Nat), k + m = N 1 0 0 → isX E C L S N → kFq S N b d → b + 2 * m ≤ 400 → S 4 d 0 0 = nI 40 → cells + 46 * m + 2 ≤ 2800 → slots + 3600 * m + 12 ≤ 200000 → kW Γ E A C L cells slots 242 [(0, .ref (L (1, 0, 0))), (2, .int (nI d)), (8, .int (nI r0)), (9, .int (nI 1)), (10, .int (nI k))] [] := by
  intro m
  induction m with
  | zero =>
    intro k C L S N b cells slots hk hX K hb h40 hc hs
    have hj := K.2.1.1
    refine k_iload X dL_fresh_242 rfl ?_
    refine k_aload_n X dL_fresh_244 rfl rfl ?_
    refine k_callV (rest := [.int (nI k)]) X kv_X5_jobs kb_59 (c_jobs X.tr hX K.2.1) hX.1.1.1 rfl rfl rfl rfl rfl (Nat.le_of_ble_eq_true rfl) ⟨by rw [hR]; exact Nat.le_of_ble_eq_true rfl, by rw [hR]; exact Nat.le_of_ble_eq_true rfl⟩ ⟨by rw [hR]; dsimp only; omega, by rw [hR]; dsimp only; omega⟩ dL_fresh_245 (fun v245 C9 L9 h9 => ?_)
    obtain ⟨rfl, rfl, rfl⟩ := h9
    refine k_icmp_ge (tgt := 456) X dL_fresh_248 (by decide) (fun c248 => ?_) (fun c248 => absurd (nI_le (by omega) (by omega)) c248)
    refine k_lo (lo' := [(0, .ref (L (1, 0, 0))), (2, .int (nI d)), (8, .int (nI r0)), (9, .int (nI 1))]) ⟨rfl, rfl, rfl, rfl, trivial⟩ ?_
    exact fr_456 X hN hR hE hd hr0 hX K h40 (by omega) (by omega)
  | succ m ih =>
    intro k C L S N b cells slots hk hX K hb h40 hc hs
    have hj := K.2.1.1
    have hlt : k < N 1 0 0 := by omega
    obtain ⟨T, V⟩ := K.1
    obtain ⟨⟨st, a1, a2⟩, _⟩ := V.2.1 k hlt
    refine k_iload X dL_fresh_242 rfl ?_
    refine k_aload_n X dL_fresh_244 rfl rfl ?_
    refine k_callV (rest := [.int (nI k)]) X kv_X5_jobs kb_59 (c_jobs X.tr hX K.2.1) hX.1.1.1 rfl rfl rfl rfl rfl (Nat.le_of_ble_eq_true rfl) ⟨by rw [hR]; exact Nat.le_of_ble_eq_true rfl, by rw [hR]; exact Nat.le_of_ble_eq_true rfl⟩ ⟨by rw [hR]; dsimp only; omega, by rw [hR]; dsimp only; omega⟩ dL_fresh_245 (fun v245 C9 L9 h9 => ?_)
    obtain ⟨rfl, rfl, rfl⟩ := h9
    refine k_icmp_ge (tgt := 456) X dL_fresh_248 (by decide) (fun c248 => absurd c248 (nI_ge (by omega) (by omega))) (fun c248 => ?_)
    refine k_iload X dL_fresh_251 rfl ?_
    refine k_if_eq (tgt := 456) X dL_fresh_253 (by decide) (fun c253 => absurd c253 (by decide)) (fun c253 => ?_)
    refine k_aload_n X dL_fresh_256 rfl rfl ?_
    refine k_iload X dL_fresh_257 rfl ?_
    refine k_callSH (rest := []) X ksh_crew kb_380 (g_crew X.tr hX K.2.1 hlt) rfl rfl (Nat.le_of_ble_eq_true rfl) ⟨by rw [hR]; exact Nat.le_of_ble_eq_true rfl, by rw [hR]; exact Nat.le_of_ble_eq_true rfl⟩ ⟨by rw [hR]; dsimp only; omega, by rw [hR]; dsimp only; omega⟩ dL_fresh_259 (fun v259 C9 L9 h9 => ?_)
    obtain ⟨rfl, rfl, rfl⟩ := h9
    refine k_iload_n X dL_fresh_262 rfl rfl ?_
    refine k_icmp_ne (tgt := 270) X dL_fresh_263 (by decide) (fun cb => ?_) (fun cb => ?_)
    ·
      have h50 := (K.2.2.2.2 k hlt).2 cb
      refine k_iconst (v := (nI 0)) X dL_fresh_270 (by decide) ?_
      refine k_istore X dL_fresh_271 (by rw [hN]; decide) ?_
      refine k_aload_n X dL_fresh_273 rfl rfl ?_
      refine k_iload_n X dL_fresh_274 rfl rfl ?_
      refine k_iload X dL_fresh_275 rfl ?_
      refine k_callSH (rest := []) X ksh_holds kb_420 (g_holds X.tr hX K.2.1 V hd hlt) rfl rfl (Nat.le_of_ble_eq_true rfl) ⟨by rw [hR]; exact Nat.le_of_ble_eq_true rfl, by rw [hR]; exact Nat.le_of_ble_eq_true rfl⟩ ⟨by rw [hR]; dsimp only; omega, by rw [hR]; dsimp only; omega⟩ dL_fresh_277 (fun v277 C9 L9 h9 => ?_)
      obtain ⟨rfl, rfl, rfl⟩ := h9
      refine k_iload X dL_fresh_280 rfl ?_
      refine k_if_eq (tgt := 289) X dL_fresh_282 (by decide) (fun c282 => ?_) (fun c282 => absurd (rfl : nI 0 = 0) c282)
      refine k_iconst (v := (nI 0)) X dL_fresh_289 (by decide) ?_
      refine k_icmp_ne (tgt := 338) X dL_fresh_290 (by decide) (fun c290 => absurd c290 (fun z => z (congrArg nI (if_pos h50)))) (fun c290 => ?_)
      refine k_iload X dL_fresh_293 rfl ?_
      refine k_if_eq (tgt := 334) X dL_fresh_295 (by decide) (fun c295 => ?_) (fun c295 => absurd (rfl : nI 0 = 0) c295)
      refine k_iconst (v := (nI 1)) X dL_fresh_334 (by decide) ?_
      refine k_goto (tgt := 339) X dL_fresh_335 (by decide) ?_
      refine k_istore X dL_fresh_339 (by rw [hN]; decide) ?_
      refine k_aload_n X dL_fresh_341 rfl rfl ?_
      refine k_iload X dL_fresh_342 rfl ?_
      refine k_iconst (v := (nI 0)) X dL_fresh_344 (by decide) ?_
      refine k_callSH (rest := []) X ksh_value kb_395 (g_value0 X.tr hX K.2.1 hlt) rfl rfl (Nat.le_of_ble_eq_true rfl) ⟨by rw [hR]; exact Nat.le_of_ble_eq_true rfl, by rw [hR]; exact Nat.le_of_ble_eq_true rfl⟩ ⟨by rw [hR]; dsimp only; omega, by rw [hR]; dsimp only; omega⟩ dL_fresh_345 (fun v345 C9 L9 h9 => ?_)
      obtain ⟨e9, rfl, rfl⟩ := h9
      rw [a2] at e9
      subst e9
      refine k_istore X dL_fresh_348 (by rw [hN]; decide) ?_
      refine k_iload X dL_fresh_350 rfl ?_
      refine k_if_eq (tgt := 450) X dL_fresh_352 (by decide) (fun c352 => absurd c352 (by decide)) (fun c352 => ?_)
      refine k_iload X dL_fresh_355 rfl ?_
      refine k_if_eq (tgt := 450) X dL_fresh_357 (by decide) (fun c357 => ?_) (fun c357 => absurd (rfl : nI 0 = 0) c357)
      refine k_iinc (v := (nI (k + 1))) X dL_fresh_450 rfl (by rw [show Int32.ofInt 1 = nI 1 from by decide, nI_add]) (by rw [hN]; decide) ?_
      refine k_goto (tgt := 242) X dL_fresh_453 (by decide) ?_
      refine k_lo (lo' := [(0, .ref (L (1, 0, 0))), (2, .int (nI d)), (8, .int (nI r0)), (9, .int (nI 1)), (10, .int (nI (k + 1)))]) ⟨rfl, rfl, rfl, rfl, rfl, trivial⟩ ?_
      exact (ih (k + 1) C L S N b _ _ (by omega) hX K (by omega) h40 (by omega) (by omega))
    ·
      have h51 := (K.2.2.2.2 k hlt).1 cb
      have h5n : ¬ S 5 d k 0 = nI 0 := by
        rw [h51.1]
        decide
      refine k_iconst (v := (nI 1)) X dL_fresh_266 (by decide) ?_
      refine k_goto (tgt := 271) X dL_fresh_267 (by decide) ?_
      refine k_istore X dL_fresh_271 (by rw [hN]; decide) ?_
      refine k_aload_n X dL_fresh_273 rfl rfl ?_
      refine k_iload_n X dL_fresh_274 rfl rfl ?_
      refine k_iload X dL_fresh_275 rfl ?_
      refine k_callSH (rest := []) X ksh_holds kb_420 (g_holds X.tr hX K.2.1 V hd hlt) rfl rfl (Nat.le_of_ble_eq_true rfl) ⟨by rw [hR]; exact Nat.le_of_ble_eq_true rfl, by rw [hR]; exact Nat.le_of_ble_eq_true rfl⟩ ⟨by rw [hR]; dsimp only; omega, by rw [hR]; dsimp only; omega⟩ dL_fresh_277 (fun v277 C9 L9 h9 => ?_)
      obtain ⟨rfl, rfl, rfl⟩ := h9
      refine k_iload X dL_fresh_280 rfl ?_
      refine k_if_eq (tgt := 289) X dL_fresh_282 (by decide) (fun c282 => absurd c282 (by decide)) (fun c282 => ?_)
      refine k_iconst (v := (nI 1)) X dL_fresh_285 (by decide) ?_
      refine k_goto (tgt := 290) X dL_fresh_286 (by decide) ?_
      refine k_icmp_ne (tgt := 338) X dL_fresh_290 (by decide) (fun c290 => absurd c290 (fun z => z (congrArg nI (if_neg h5n)))) (fun c290 => ?_)
      refine k_iload X dL_fresh_293 rfl ?_
      refine k_if_eq (tgt := 334) X dL_fresh_295 (by decide) (fun c295 => absurd c295 (by decide)) (fun c295 => ?_)
      refine k_aload_n X dL_fresh_298 rfl rfl ?_
      refine k_iload_n X dL_fresh_299 rfl rfl ?_
      refine k_iload X dL_fresh_300 rfl ?_
      refine k_iconst (v := (nI 0)) X dL_fresh_302 (by decide) ?_
      refine k_callSH (rest := []) X ksh_heldValue kb_427 (g_hv0 X.tr hX K.2.1 V hd hlt) rfl rfl (Nat.le_of_ble_eq_true rfl) ⟨by rw [hR]; exact Nat.le_of_ble_eq_true rfl, by rw [hR]; exact Nat.le_of_ble_eq_true rfl⟩ ⟨by rw [hR]; dsimp only; omega, by rw [hR]; dsimp only; omega⟩ dL_fresh_303 (fun v303 C9 L9 h9 => ?_)
      obtain ⟨rfl, rfl, rfl⟩ := h9
      refine k_aload_n X dL_fresh_306 rfl rfl ?_
      refine k_iload X dL_fresh_307 rfl ?_
      refine k_iconst (v := (nI 0)) X dL_fresh_309 (by decide) ?_
      refine k_callSH (rest := [.int (kHv S d k 0)]) X ksh_value kb_395 (g_value0 X.tr hX K.2.1 hlt) rfl rfl (Nat.le_of_ble_eq_true rfl) ⟨by rw [hR]; exact Nat.le_of_ble_eq_true rfl, by rw [hR]; exact Nat.le_of_ble_eq_true rfl⟩ ⟨by rw [hR]; dsimp only; omega, by rw [hR]; dsimp only; omega⟩ dL_fresh_310 (fun v310 C9 L9 h9 => ?_)
      obtain ⟨rfl, rfl, rfl⟩ := h9
      refine k_icmp_ne (tgt := 338) X dL_fresh_313 (by decide) (fun c313 => absurd c313 (fun z => z ((if_neg h5n).trans (h51.2 0 (by decide))))) (fun c313 => ?_)
      refine k_aload_n X dL_fresh_316 rfl rfl ?_
      refine k_iload_n X dL_fresh_317 rfl rfl ?_
      refine k_iload X dL_fresh_318 rfl ?_
      refine k_iconst (v := (nI 1)) X dL_fresh_320 (by decide) ?_
      refine k_callSH (rest := []) X ksh_heldValue kb_427 (g_hv1 X.tr hX K.2.1 V hd hlt) rfl rfl (Nat.le_of_ble_eq_true rfl) ⟨by rw [hR]; exact Nat.le_of_ble_eq_true rfl, by rw [hR]; exact Nat.le_of_ble_eq_true rfl⟩ ⟨by rw [hR]; dsimp only; omega, by rw [hR]; dsimp only; omega⟩ dL_fresh_321 (fun v321 C9 L9 h9 => ?_)
      obtain ⟨rfl, rfl, rfl⟩ := h9
      refine k_aload_n X dL_fresh_324 rfl rfl ?_
      refine k_iload X dL_fresh_325 rfl ?_
      refine k_iconst (v := (nI 1)) X dL_fresh_327 (by decide) ?_
      refine k_callSH (rest := [.int (kHv S d k 1)]) X ksh_value kb_395 (g_value1 X.tr hX K.2.1 hlt) rfl rfl (Nat.le_of_ble_eq_true rfl) ⟨by rw [hR]; exact Nat.le_of_ble_eq_true rfl, by rw [hR]; exact Nat.le_of_ble_eq_true rfl⟩ ⟨by rw [hR]; dsimp only; omega, by rw [hR]; dsimp only; omega⟩ dL_fresh_328 (fun v328 C9 L9 h9 => ?_)
      obtain ⟨rfl, rfl, rfl⟩ := h9
      refine k_icmp_ne (tgt := 338) X dL_fresh_331 (by decide) (fun c331 => absurd c331 (fun z => z ((if_neg h5n).trans (h51.2 1 (by decide))))) (fun c331 => ?_)
      refine k_iconst (v := (nI 1)) X dL_fresh_334 (by decide) ?_
      refine k_goto (tgt := 339) X dL_fresh_335 (by decide) ?_
      refine k_istore X dL_fresh_339 (by rw [hN]; decide) ?_
      refine k_aload_n X dL_fresh_341 rfl rfl ?_
      refine k_iload X dL_fresh_342 rfl ?_
      refine k_iconst (v := (nI 0)) X dL_fresh_344 (by decide) ?_
      refine k_callSH (rest := []) X ksh_value kb_395 (g_value0 X.tr hX K.2.1 hlt) rfl rfl (Nat.le_of_ble_eq_true rfl) ⟨by rw [hR]; exact Nat.le_of_ble_eq_true rfl, by rw [hR]; exact Nat.le_of_ble_eq_true rfl⟩ ⟨by rw [hR]; dsimp only; omega, by rw [hR]; dsimp only; omega⟩ dL_fresh_345 (fun v345 C9 L9 h9 => ?_)
      obtain ⟨e9, rfl, rfl⟩ := h9
      rw [a2] at e9
      subst e9
      refine k_istore X dL_fresh_348 (by rw [hN]; decide) ?_
      refine k_iload X dL_fresh_350 rfl ?_
      refine k_if_eq (tgt := 450) X dL_fresh_352 (by decide) (fun c352 => absurd c352 (by decide)) (fun c352 => ?_)
      refine k_iload X dL_fresh_355 rfl ?_
      refine k_if_eq (tgt := 450) X dL_fresh_357 (by decide) (fun c357 => absurd c357 (by decide)) (fun c357 => ?_)
      refine k_iload X dL_fresh_360 rfl ?_
      refine k_iconst (v := (nI 2)) X dL_fresh_362 (by decide) ?_
      refine k_icmp_ge (tgt := 450) X dL_fresh_363 (by decide) (fun c363 => ?_) (fun c363 => ?_)
      ·
        refine k_iinc (v := (nI (k + 1))) X dL_fresh_450 rfl (by rw [show Int32.ofInt 1 = nI 1 from by decide, nI_add]) (by rw [hN]; decide) ?_
        refine k_goto (tgt := 242) X dL_fresh_453 (by decide) ?_
        refine k_lo (lo' := [(0, .ref (L (1, 0, 0))), (2, .int (nI d)), (8, .int (nI r0)), (9, .int (nI 1)), (10, .int (nI (k + 1)))]) ⟨rfl, rfl, rfl, rfl, rfl, trivial⟩ ?_
        exact (ih (k + 1) C L S N b _ _ (by omega) hX K (by omega) h40 (by omega) (by omega))
      ·
        have hst2 : st < 2 := by
          rcases Nat.lt_or_ge st 2 with y | y
          · exact y
          · exact absurd (nI_le y (by omega)) c363
        have hK1 : kin (nI 0) (nI 0) (nI 1) ∧ kin (nI (st + 1)) (nI 0) (if nI 0 = nI 0 then nI 2 else nI 10000) := ⟨kin_ok (by decide) (by decide), by rw [if_pos rfl]; exact kin_ok (by omega) (by decide)⟩
        have hK2 : kin (nI 1) (nI 0) (nI 1) ∧ kin (nI 77) (nI 0) (if nI 1 = nI 0 then nI 2 else nI 10000) := ⟨kin_ok (by decide) (by decide), by rw [if_neg (by decide)]; exact kin_ok (by decide) (by decide)⟩
        have hgo : kStep (S 3 k 0 0) (nI (st + 1)) := by
          rw [a2]
          rcases (show st = 0 ∨ st = 1 by omega) with rfl | rfl
          · exact Or.inl ⟨rfl, rfl⟩
          · exact Or.inr ⟨rfl, rfl⟩
        refine k_aload_n X dL_fresh_366 rfl rfl ?_
        refine k_iload_n X dL_fresh_367 rfl rfl ?_
        refine k_iload X dL_fresh_368 rfl ?_
        refine k_iconst (v := (nI 0)) X dL_fresh_370 (by decide) ?_
        refine k_iload X dL_fresh_371 rfl ?_
        refine k_iconst (v := (nI 1)) X dL_fresh_373 (by decide) ?_
        refine k_iaddN X dL_fresh_374 ?_
        refine k_callSH (rest := []) X ksh_change kb_254 (f_chg X.tr hX K.2.1 hd V (fun e he => by have := K.2.2.1 e he; omega) K.2.2.2.1 hlt h51.1 hK1) rfl rfl (Nat.le_of_ble_eq_true rfl) ⟨by rw [hR]; exact Nat.le_of_ble_eq_true rfl, by rw [hR]; exact Nat.le_of_ble_eq_true rfl⟩ ⟨by rw [hR]; dsimp only; omega, by rw [hR]; dsimp only; omega⟩ dL_fresh_375 (fun v375 Cc1 Lc1 h9 => ?_)
        obtain ⟨rfl, hXc1, hFc1, hLc1⟩ := h9
        refine k_lo (lo' := [(0, .ref (Lc1 (1, 0, 0))), (2, .int (nI d)), (8, .int (nI r0)), (10, .int (nI k)), (12, .int (nI st))]) ⟨congrArg (fun q => some (Value.ref q)) hLc1.symm, rfl, rfl, rfl, rfl, trivial⟩ ?_
        refine k_iconst (v := (nI 1)) X dL_fresh_378 (by decide) ?_
        refine k_icmp_ne (tgt := 447) X dL_fresh_379 (by decide) (fun c379 => absurd c379 (fun z => z rfl)) (fun c379 => ?_)
        refine k_aload_n X dL_fresh_382 rfl rfl ?_
        refine k_iload_n X dL_fresh_383 rfl rfl ?_
        refine k_bipush (v := (nI 9)) X dL_fresh_384 (by decide) ?_
        have O1 : okX (sGo S N d k 0 (st + 1)) (nGo N d) := K.2.1.n3 hd (by have := K.2.2.1 d hd; omega)
        have t1 : min 9 (nGo N d 3 d 0 - nGo N d 4 d 0) = 1 := by
          rw [show nGo N d 3 d 0 = N 3 d 0 + 1 from w3_s, show nGo N d 4 d 0 = N 3 d 0 from (w3_n (by omega)).trans K.2.2.2.1]
          omega
        have u1 : ∀ e, e < 4 → nGo N d 5 e 0 ≤ nGo N d 4 e 0 := fun e he => by
          obtain ⟨T9, V9⟩ := K.1
          rw [show nGo N d 5 e 0 = N 5 e 0 from w3_n (by omega), show nGo N d 4 e 0 = N 4 e 0 from w3_n (by omega)]
          exact V9.h5 he
        refine k_callSH (rest := []) X ksh_send kb_331 (a_send X.tr hXc1 O1 u1 hd (mo := 9) (by decide) (by decide) 1 (by omega)) rfl rfl (Nat.le_of_ble_eq_true rfl) ⟨by rw [hR]; exact Nat.le_of_ble_eq_true rfl, by rw [hR]; exact Nat.le_of_ble_eq_true rfl⟩ ⟨by rw [hR]; dsimp only; omega, by rw [hR]; dsimp only; omega⟩ dL_fresh_386 (fun v386 Cs1 Ls1 h9 => ?_)
        obtain ⟨c1, S1, N1, e9, g1, hXs1, hFs1, hLs1⟩ := h9
        rw [t1] at g1
        obtain ⟨rfl, K1, j1, p21, p41, p31, _⟩ := K.go hd (by omega) hlt cb (Or.inl ⟨rfl, by omega, hgo⟩) g1
        subst e9
        have K1d := K1.dn (u := S1 12 0 0 0 + nI 1)
        obtain ⟨T1, V1⟩ := K1d.1
        refine k_lo (lo' := [(0, .ref (Ls1 (1, 0, 0))), (2, .int (nI d)), (8, .int (nI r0)), (10, .int (nI k)), (12, .int (nI st))]) ⟨congrArg (fun q => some (Value.ref q)) hLs1.symm, rfl, rfl, rfl, rfl, trivial⟩ ?_
        have hl1 : k < N1 1 0 0 := by
          rw [j1]
          exact hlt
        refine k_iconst (v := (nI 1)) X dL_fresh_389 (by decide) ?_
        refine k_icmp_ne (tgt := 447) X dL_fresh_390 (by decide) (fun c390 => absurd c390 (fun z => z rfl)) (fun c390 => ?_)
        refine k_aload_n X dL_fresh_393 rfl rfl ?_
        refine k_iload X dL_fresh_394 rfl ?_
        refine k_iconst (v := (nI 0)) X dL_fresh_396 (by decide) ?_
        refine k_callSH (rest := []) X ksh_value kb_395 (g_value0 X.tr hXs1 K1d.2.1 hl1) rfl rfl (Nat.le_of_ble_eq_true rfl) ⟨by rw [hR]; exact Nat.le_of_ble_eq_true rfl, by rw [hR]; exact Nat.le_of_ble_eq_true rfl⟩ ⟨by rw [hR]; dsimp only; omega, by rw [hR]; dsimp only; omega⟩ dL_fresh_397 (fun v397 C9 L9 h9 => ?_)
        obtain ⟨e9, rfl, rfl⟩ := h9
        rw [s12_n (by decide), p31] at e9
        subst e9
        refine k_iload X dL_fresh_400 rfl ?_
        refine k_iconst (v := (nI 1)) X dL_fresh_402 (by decide) ?_
        refine k_iaddN X dL_fresh_403 ?_
        refine k_icmp_ne (tgt := 447) X dL_fresh_404 (by decide) (fun c404 => absurd c404 (fun z => z rfl)) (fun c404 => ?_)
        refine k_aload_n X dL_fresh_407 rfl rfl ?_
        refine k_iload_n X dL_fresh_408 rfl rfl ?_
        refine k_iload X dL_fresh_409 rfl ?_
        refine k_iconst (v := (nI 1)) X dL_fresh_411 (by decide) ?_
        refine k_bipush (v := (nI 77)) X dL_fresh_412 (by decide) ?_
        have q2 : s12 S1 (S1 12 0 0 0 + nI 1) 2 k 0 0 = nI d := by
          rw [s12_n (by decide), p21]
          exact cb
        have q51 := (K1d.2.2.2.2 k hl1).1 q2
        refine k_callSH (rest := []) X ksh_change kb_254 (f_chg X.tr hXs1 K1d.2.1 hd V1 (fun e he => by have := K1d.2.2.1 e he; omega) K1d.2.2.2.1 hl1 q51.1 hK2) rfl rfl (Nat.le_of_ble_eq_true rfl) ⟨by rw [hR]; exact Nat.le_of_ble_eq_true rfl, by rw [hR]; exact Nat.le_of_ble_eq_true rfl⟩ ⟨by rw [hR]; dsimp only; omega, by rw [hR]; dsimp only; omega⟩ dL_fresh_414 (fun v414 Cc2 Lc2 h9 => ?_)
        obtain ⟨rfl, hXc2, hFc2, hLc2⟩ := h9
        refine k_lo (lo' := [(0, .ref (Lc2 (1, 0, 0))), (2, .int (nI d)), (8, .int (nI r0)), (10, .int (nI k)), (12, .int (nI st))]) ⟨congrArg (fun q => some (Value.ref q)) hLc2.symm, rfl, rfl, rfl, rfl, trivial⟩ ?_
        refine k_iconst (v := (nI 1)) X dL_fresh_417 (by decide) ?_
        refine k_icmp_ne (tgt := 447) X dL_fresh_418 (by decide) (fun c418 => absurd c418 (fun z => z rfl)) (fun c418 => ?_)
        refine k_aload_n X dL_fresh_421 rfl rfl ?_
        refine k_iload_n X dL_fresh_422 rfl rfl ?_
        refine k_iconst (v := (nI 1)) X dL_fresh_423 (by decide) ?_
        have O2 : okX (sGo (s12 S1 (S1 12 0 0 0 + nI 1)) N1 d k 1 77) (nGo N1 d) := K1d.2.1.n3 hd (by have := K1d.2.2.1 d hd; omega)
        have t2 : min 1 (nGo N1 d 3 d 0 - nGo N1 d 4 d 0) = 1 := by
          rw [show nGo N1 d 3 d 0 = N1 3 d 0 + 1 from w3_s, show nGo N1 d 4 d 0 = N1 3 d 0 from (w3_n (by omega)).trans K1d.2.2.2.1]
          omega
        have u2 : ∀ e, e < 4 → nGo N1 d 5 e 0 ≤ nGo N1 d 4 e 0 := fun e he => by
          obtain ⟨T9, V9⟩ := K1d.1
          rw [show nGo N1 d 5 e 0 = N1 5 e 0 from w3_n (by omega), show nGo N1 d 4 e 0 = N1 4 e 0 from w3_n (by omega)]
          exact V9.h5 he
        refine k_callSH (rest := []) X ksh_send kb_331 (a_send X.tr hXc2 O2 u2 hd (mo := 1) (by decide) (by decide) 1 (by omega)) rfl rfl (Nat.le_of_ble_eq_true rfl) ⟨by rw [hR]; exact Nat.le_of_ble_eq_true rfl, by rw [hR]; exact Nat.le_of_ble_eq_true rfl⟩ ⟨by rw [hR]; dsimp only; omega, by rw [hR]; dsimp only; omega⟩ dL_fresh_424 (fun v424 Cs2 Ls2 h9 => ?_)
        obtain ⟨c2, S2, N2, e9, g2, hXs2, hFs2, hLs2⟩ := h9
        rw [t2] at g2
        obtain ⟨rfl, K2, j2, p22, p42, p32, _⟩ := K1d.go hd (by omega) hl1 q2 (Or.inr ⟨rfl, by decide⟩) g2
        subst e9
        have K2d := K2.dn (u := S2 12 0 0 0 + nI 1)
        obtain ⟨T2, V2⟩ := K2d.1
        refine k_lo (lo' := [(0, .ref (Ls2 (1, 0, 0))), (2, .int (nI d)), (8, .int (nI r0)), (10, .int (nI k)), (12, .int (nI st))]) ⟨congrArg (fun q => some (Value.ref q)) hLs2.symm, rfl, rfl, rfl, rfl, trivial⟩ ?_
        have hl2 : k < N2 1 0 0 := by
          rw [j2]
          exact hl1
        refine k_iconst (v := (nI 1)) X dL_fresh_427 (by decide) ?_
        refine k_icmp_ne (tgt := 447) X dL_fresh_428 (by decide) (fun c428 => absurd c428 (fun z => z rfl)) (fun c428 => ?_)
        refine k_aload_n X dL_fresh_431 rfl rfl ?_
        refine k_iload X dL_fresh_432 rfl ?_
        refine k_iconst (v := (nI 1)) X dL_fresh_434 (by decide) ?_
        refine k_callSH (rest := []) X ksh_value kb_395 (g_value1 X.tr hXs2 K2d.2.1 hl2) rfl rfl (Nat.le_of_ble_eq_true rfl) ⟨by rw [hR]; exact Nat.le_of_ble_eq_true rfl, by rw [hR]; exact Nat.le_of_ble_eq_true rfl⟩ ⟨by rw [hR]; dsimp only; omega, by rw [hR]; dsimp only; omega⟩ dL_fresh_435 (fun v435 C9 L9 h9 => ?_)
        obtain ⟨e9, rfl, rfl⟩ := h9
        rw [s12_n (by decide), p32] at e9
        subst e9
        refine k_bipush (v := (nI 77)) X dL_fresh_438 (by decide) ?_
        refine k_icmp_ne (tgt := 447) X dL_fresh_440 (by decide) (fun c440 => absurd c440 (fun z => z rfl)) (fun c440 => ?_)
        refine k_iconst (v := (nI 1)) X dL_fresh_443 (by decide) ?_
        refine k_goto (tgt := 448) X dL_fresh_444 (by decide) ?_
        refine k_istore X dL_fresh_448 (by rw [hN]; decide) ?_
        refine k_iinc (v := (nI (k + 1))) X dL_fresh_450 rfl (by rw [show Int32.ofInt 1 = nI 1 from by decide, nI_add]) (by rw [hN]; decide) ?_
        refine k_goto (tgt := 242) X dL_fresh_453 (by decide) ?_
        have h402 : s12 S2 (S2 12 0 0 0 + nI 1) 4 d 0 0 = nI 40 := by
          rw [s12_n (by decide), p42, s12_n (by decide), p41]
          exact h40
        have jj : N2 1 0 0 = N 1 0 0 := j2.trans j1
        refine k_lo (lo' := [(0, .ref (Ls2 (1, 0, 0))), (2, .int (nI d)), (8, .int (nI r0)), (9, .int (nI 1)), (10, .int (nI (k + 1)))]) ⟨rfl, rfl, rfl, rfl, rfl, trivial⟩ ?_
        exact (ih (k + 1) Cs2 Ls2 _ N2 (b + 2) _ _ (by rw [jj]; omega) hXs2 K2d (by omega) h402 (by omega) (by omega))

set_option maxHeartbeats 8000000 in
set_option maxRecDepth 100000 in
theorem fr_65 {Γ : kG} {E : kE} {A : Nat → Prop} (X : kX Γ E A cL_fresh RL) (hN : kNl Γ = 13) (hR : kRm Γ = ({ frames := 11, cells := 2800, slots := 200000, locals := 280 } : Room)) {C : kC} {L : kL} {S : kI4} {N : kN3} (hX : isX E C L S N) (hO : okX S N) {T : Nat} (V : vS S N T) {f : Nat → Int32} (hna : kNa E C f) (hn2 : ∀ d, d < 4 → f d = nI (N 2 d 0)) (hB : ∀ d, d < 4 → N 3 d 0 ≤ 50) {d : Nat} (hd : d < 4) (hE : kEnd Γ E A (fun v _ _ => v = some (.int (nI 1))) 2800 200000 (some .boolean)) {kp sn r0 : Nat} {x4 : Int32} (hr0 : r0 ≤ 40) (hr : S 4 d 0 0 = nI r0) (h43 : N 4 d 0 = N 3 d 0) (hkp : kcn (kMq (S 9 d)) (N 2 d 0) ≤ kp) (hkp2 : kp < 2 ^ 30) (hsn : sn < 2 ^ 30) {cells slots : Nat} (hc : cells ≤ 410) (hs : slots ≤ 46000) : kW Γ E A C L cells slots 65 [(0, .ref (L (1, 0, 0))), (1, .ref (L (200, 0, 0))), (2, .int (nI d)), (3, .int (nI kp)), (4, .int x4)] [.int (nI sn)] := by
  have hj := hO.1
  have hb := hB d hd
  have hm := V.m2 hd
  obtain ⟨u1, u2, u3, u4⟩ := fr_pure (b := 50) V hO hd hB h43
  replace u4 := u4 _ rfl
  have hal : kcn (kCw S d) (N 1 0 0) ≤ 40 := Nat.le_trans (kcn_le kCw_le _) hj
  have hop : kcn (kMq (S 9 d)) (N 2 d 0) ≤ 50 := Nat.le_trans (kcn_le kMq_le1 _) (by omega)
  refine k_istore X dL_fresh_65 (by rw [hN]; decide) ?_
  refine k_iconst (v := (nI 0)) X dL_fresh_67 (by decide) ?_
  refine k_istore X dL_fresh_68 (by rw [hN]; decide) ?_
  refine k_iconst (v := (nI 0)) X dL_fresh_70 (by decide) ?_
  refine k_istore X dL_fresh_71 (by rw [hN]; decide) ?_
  refine k_lo (lo' := [(0, .ref (L (1, 0, 0))), (1, .ref (L (200, 0, 0))), (2, .int (nI d)), (3, .int (nI kp)), (4, .int x4), (5, .int (nI sn)), (6, .int (nI (0 + kcn (kMq (S 9 d)) 0))), (7, .int (nI 0))]) ⟨rfl, rfl, rfl, rfl, rfl, rfl, rfl, rfl, trivial⟩ ?_
  refine fr_B X hN hR hX hO V hna hn2 hB hd (N 2 d 0) 0 _ _ (by omega) (by omega) (by omega) (fun c7 s7 h71 h72 => ?_)
  refine k_iconst (v := (nI 0)) X dL_fresh_112 (by decide) ?_
  refine k_istore X dL_fresh_113 (by rw [hN]; decide) ?_
  refine k_iconst (v := (nI 0)) X dL_fresh_115 (by decide) ?_
  refine k_istore X dL_fresh_116 (by rw [hN]; decide) ?_
  refine k_lo (lo' := [(0, .ref (L (1, 0, 0))), (2, .int (nI d)), (3, .int (nI kp)), (5, .int (nI sn)), (6, .int (nI (0 + kcn (kMq (S 9 d)) (N 2 d 0)))), (7, .int (nI (0 + kcn (kCw S d) 0))), (8, .int (nI 0))]) ⟨rfl, rfl, rfl, rfl, rfl, rfl, rfl, trivial⟩ ?_
  refine fr_C X hN hR hX hO V hna hn2 hB hd (N 1 0 0) 0 _ _ (by omega) (by omega) (by omega) (fun c8 s8 h81 h82 => ?_)
  refine k_aload_n X dL_fresh_153 rfl rfl ?_
  refine k_iload_n X dL_fresh_154 rfl rfl ?_
  refine k_iconst (v := (nI 3)) X dL_fresh_155 (by decide) ?_
  refine k_callSH (rest := []) X ksh_setRoom kb_213 (f_room X.tr hX hO hd (by decide)) rfl rfl (Nat.le_of_ble_eq_true rfl) ⟨by rw [hR]; exact Nat.le_of_ble_eq_true rfl, by rw [hR]; exact Nat.le_of_ble_eq_true rfl⟩ ⟨by rw [hR]; dsimp only; omega, by rw [hR]; dsimp only; omega⟩ dL_fresh_156 (fun v156 Ca La h9 => ?_)
  obtain ⟨e9, hXa, hFa, hLa⟩ := h9
  rw [hr] at e9
  subst e9
  refine k_lo (lo' := [(0, .ref (La (1, 0, 0))), (2, .int (nI d)), (3, .int (nI kp)), (5, .int (nI sn)), (6, .int (nI (0 + kcn (kMq (S 9 d)) (N 2 d 0)))), (7, .int (nI (0 + kcn (kCw S d) (N 1 0 0))))]) ⟨congrArg (fun q => some (Value.ref q)) hLa.symm, rfl, rfl, rfl, rfl, rfl, trivial⟩ ?_
  refine k_istore X dL_fresh_159 (by rw [hN]; decide) ?_
  refine k_iload X dL_fresh_161 rfl ?_
  refine k_if_lt (tgt := 236) X dL_fresh_163 (by decide) (fun c163 => absurd c163 (nI_pos (by omega))) (fun c163 => ?_)
  refine k_iload X dL_fresh_166 rfl ?_
  refine k_iload_n X dL_fresh_168 rfl rfl ?_
  refine k_icmp_gt (tgt := 236) X dL_fresh_169 (by decide) (fun c169 => absurd c169 (nI_nlt (by omega) (by omega))) (fun c169 => ?_)
  refine k_aload_n X dL_fresh_172 rfl rfl ?_
  refine k_iload_n X dL_fresh_173 rfl rfl ?_
  refine k_callSH (rest := []) X ksh_waiting kb_324 (g_waiting X.tr hXa (show okX _ _ from hO) hd) rfl rfl (Nat.le_of_ble_eq_true rfl) ⟨by rw [hR]; exact Nat.le_of_ble_eq_true rfl, by rw [hR]; exact Nat.le_of_ble_eq_true rfl⟩ ⟨by rw [hR]; dsimp only; omega, by rw [hR]; dsimp only; omega⟩ dL_fresh_174 (fun v174 C9 L9 h9 => ?_)
  obtain ⟨rfl, rfl, rfl⟩ := h9
  refine k_if_ne (tgt := 236) X dL_fresh_177 (by decide) (fun c177 => absurd c177 (fun z => z (congrArg nI (show N 3 d 0 - N 4 d 0 = 0 by omega)))) (fun c177 => ?_)
  refine k_iload X dL_fresh_180 rfl ?_
  refine k_if_lt (tgt := 236) X dL_fresh_182 (by decide) (fun c182 => absurd c182 (nI_pos (by omega))) (fun c182 => ?_)
  refine k_aload_n X dL_fresh_185 rfl rfl ?_
  refine k_iload_n X dL_fresh_186 rfl rfl ?_
  refine k_callSH (rest := []) X ksh_fetch kb_225 (f_fetch X.tr hXa (show okX _ _ from hO) hd) rfl rfl (Nat.le_of_ble_eq_true rfl) ⟨by rw [hR]; exact Nat.le_of_ble_eq_true rfl, by rw [hR]; exact Nat.le_of_ble_eq_true rfl⟩ ⟨by rw [hR]; dsimp only; omega, by rw [hR]; dsimp only; omega⟩ dL_fresh_187 (fun v187 Cb Lb h9 => ?_)
  obtain ⟨e9, hXb, hFb, hLb⟩ := h9
  rw [u1] at e9
  subst e9
  refine k_lo (lo' := [(0, .ref (Lb (1, 0, 0))), (2, .int (nI d)), (3, .int (nI kp)), (5, .int (nI sn)), (6, .int (nI (0 + kcn (kMq (S 9 d)) (N 2 d 0)))), (7, .int (nI (0 + kcn (kCw S d) (N 1 0 0)))), (8, .int (nI r0))]) ⟨congrArg (fun q => some (Value.ref q)) hLb.symm, rfl, rfl, rfl, rfl, rfl, rfl, trivial⟩ ?_
  refine k_iload X dL_fresh_190 rfl ?_
  refine k_iload X dL_fresh_192 rfl ?_
  refine k_iconst (v := (nI 3)) X dL_fresh_194 (by decide) ?_
  refine k_icmp_ge (tgt := 203) X dL_fresh_195 (by decide) (fun c195 => ?_) (fun c195 => ?_)
  ·
    have ha3 : 3 ≤ kcn (kCw S d) (N 1 0 0) := by
      rcases Nat.lt_or_ge (kcn (kCw S d) (N 1 0 0)) 3 with y | y
      · exact absurd c195 (nI_ge (by omega) (by omega))
      · exact y
    refine k_iconst (v := (nI 3)) X dL_fresh_203 (by decide) ?_
    refine k_iaddN X dL_fresh_204 ?_
    refine k_icmp_ne (tgt := 236) X dL_fresh_205 (by decide) (fun c205 => absurd c205 (fun z => z (congrArg nI (by omega)))) (fun c205 => ?_)
    refine k_aload_n X dL_fresh_208 rfl rfl ?_
    refine k_iload_n X dL_fresh_209 rfl rfl ?_
    refine k_bipush (v := (nI 40)) X dL_fresh_210 (by decide) ?_
    refine k_callSH (rest := []) X ksh_setRoom kb_213 (f_room X.tr hXb u3 hd (Nat.le_refl 40)) rfl rfl (Nat.le_of_ble_eq_true rfl) ⟨by rw [hR]; exact Nat.le_of_ble_eq_true rfl, by rw [hR]; exact Nat.le_of_ble_eq_true rfl⟩ ⟨by rw [hR]; dsimp only; omega, by rw [hR]; dsimp only; omega⟩ dL_fresh_212 (fun v212 Cc Lc h9 => ?_)
    obtain ⟨e9, hXc, hFc, hLc⟩ := h9
    rw [u2] at e9
    subst e9
    refine k_lo (lo' := [(0, .ref (Lc (1, 0, 0))), (2, .int (nI d)), (3, .int (nI kp)), (5, .int (nI sn)), (6, .int (nI (0 + kcn (kMq (S 9 d)) (N 2 d 0)))), (7, .int (nI (0 + kcn (kCw S d) (N 1 0 0)))), (8, .int (nI r0))]) ⟨congrArg (fun q => some (Value.ref q)) hLc.symm, rfl, rfl, rfl, rfl, rfl, rfl, trivial⟩ ?_
    refine k_iconst (v := (nI 3)) X dL_fresh_215 (by decide) ?_
    refine k_icmp_ne (tgt := 236) X dL_fresh_216 (by decide) (fun c216 => absurd c216 (fun z => z rfl)) (fun c216 => ?_)
    refine k_aload_n X dL_fresh_219 rfl rfl ?_
    refine k_iload_n X dL_fresh_220 rfl rfl ?_
    refine k_callSH (rest := []) X ksh_fetch kb_225 (f_fetch X.tr hXc (show okX _ _ from u3) hd) rfl rfl (Nat.le_of_ble_eq_true rfl) ⟨by rw [hR]; exact Nat.le_of_ble_eq_true rfl, by rw [hR]; exact Nat.le_of_ble_eq_true rfl⟩ ⟨by rw [hR]; dsimp only; omega, by rw [hR]; dsimp only; omega⟩ dL_fresh_221 (fun v221 Ce Le h9 => ?_)
    obtain ⟨e9, hXe, hFe, hLe⟩ := h9
    rw [u4.1] at e9
    subst e9
    refine k_lo (lo' := [(0, .ref (Le (1, 0, 0))), (2, .int (nI d)), (3, .int (nI kp)), (5, .int (nI sn)), (6, .int (nI (0 + kcn (kMq (S 9 d)) (N 2 d 0)))), (7, .int (nI (0 + kcn (kCw S d) (N 1 0 0)))), (8, .int (nI r0))]) ⟨congrArg (fun q => some (Value.ref q)) hLe.symm, rfl, rfl, rfl, rfl, rfl, rfl, trivial⟩ ?_
    refine k_iload X dL_fresh_224 rfl ?_
    refine k_iload X dL_fresh_226 rfl ?_
    refine k_iaddN X dL_fresh_228 ?_
    refine k_icmp_ne (tgt := 236) X dL_fresh_229 (by decide) (fun c229 => absurd c229 (fun z => z (congrArg nI (by omega)))) (fun c229 => ?_)
    refine k_iconst (v := (nI 1)) X dL_fresh_232 (by decide) ?_
    refine k_goto (tgt := 237) X dL_fresh_233 (by decide) ?_
    refine k_istore X dL_fresh_237 (by rw [hN]; decide) ?_
    refine k_iconst (v := (nI 0)) X dL_fresh_239 (by decide) ?_
    refine k_istore X dL_fresh_240 (by rw [hN]; decide) ?_
    refine k_lo (lo' := [(0, .ref (Le (1, 0, 0))), (2, .int (nI d)), (8, .int (nI r0)), (9, .int (nI 1)), (10, .int (nI 0))]) ⟨rfl, rfl, rfl, rfl, rfl, trivial⟩ ?_
    refine fr_loop X hN hR hE hd hr0 (N 1 0 0) 0 Ce Le _ _ 50 _ _ ?_ hXe u4.2.2 (by omega) u4.2.1 (by omega) (by omega)
    rw [xFetch_n (by decide), xFetch_n (by decide)]
    exact Nat.zero_add _
  ·
    have ha3 : kcn (kCw S d) (N 1 0 0) < 3 := by
      rcases Nat.lt_or_ge (kcn (kCw S d) (N 1 0 0)) 3 with y | y
      · exact y
      · exact absurd (nI_le (by omega) (by omega)) c195
    refine k_iload X dL_fresh_198 rfl ?_
    refine k_goto (tgt := 204) X dL_fresh_200 (by decide) ?_
    refine k_iaddN X dL_fresh_204 ?_
    refine k_icmp_ne (tgt := 236) X dL_fresh_205 (by decide) (fun c205 => absurd c205 (fun z => z (congrArg nI (by omega)))) (fun c205 => ?_)
    refine k_aload_n X dL_fresh_208 rfl rfl ?_
    refine k_iload_n X dL_fresh_209 rfl rfl ?_
    refine k_bipush (v := (nI 40)) X dL_fresh_210 (by decide) ?_
    refine k_callSH (rest := []) X ksh_setRoom kb_213 (f_room X.tr hXb u3 hd (Nat.le_refl 40)) rfl rfl (Nat.le_of_ble_eq_true rfl) ⟨by rw [hR]; exact Nat.le_of_ble_eq_true rfl, by rw [hR]; exact Nat.le_of_ble_eq_true rfl⟩ ⟨by rw [hR]; dsimp only; omega, by rw [hR]; dsimp only; omega⟩ dL_fresh_212 (fun v212 Cc Lc h9 => ?_)
    obtain ⟨e9, hXc, hFc, hLc⟩ := h9
    rw [u2] at e9
    subst e9
    refine k_lo (lo' := [(0, .ref (Lc (1, 0, 0))), (2, .int (nI d)), (3, .int (nI kp)), (5, .int (nI sn)), (6, .int (nI (0 + kcn (kMq (S 9 d)) (N 2 d 0)))), (7, .int (nI (0 + kcn (kCw S d) (N 1 0 0)))), (8, .int (nI r0))]) ⟨congrArg (fun q => some (Value.ref q)) hLc.symm, rfl, rfl, rfl, rfl, rfl, rfl, trivial⟩ ?_
    refine k_iconst (v := (nI 3)) X dL_fresh_215 (by decide) ?_
    refine k_icmp_ne (tgt := 236) X dL_fresh_216 (by decide) (fun c216 => absurd c216 (fun z => z rfl)) (fun c216 => ?_)
    refine k_aload_n X dL_fresh_219 rfl rfl ?_
    refine k_iload_n X dL_fresh_220 rfl rfl ?_
    refine k_callSH (rest := []) X ksh_fetch kb_225 (f_fetch X.tr hXc (show okX _ _ from u3) hd) rfl rfl (Nat.le_of_ble_eq_true rfl) ⟨by rw [hR]; exact Nat.le_of_ble_eq_true rfl, by rw [hR]; exact Nat.le_of_ble_eq_true rfl⟩ ⟨by rw [hR]; dsimp only; omega, by rw [hR]; dsimp only; omega⟩ dL_fresh_221 (fun v221 Ce Le h9 => ?_)
    obtain ⟨e9, hXe, hFe, hLe⟩ := h9
    rw [u4.1] at e9
    subst e9
    refine k_lo (lo' := [(0, .ref (Le (1, 0, 0))), (2, .int (nI d)), (3, .int (nI kp)), (5, .int (nI sn)), (6, .int (nI (0 + kcn (kMq (S 9 d)) (N 2 d 0)))), (7, .int (nI (0 + kcn (kCw S d) (N 1 0 0)))), (8, .int (nI r0))]) ⟨congrArg (fun q => some (Value.ref q)) hLe.symm, rfl, rfl, rfl, rfl, rfl, rfl, trivial⟩ ?_
    refine k_iload X dL_fresh_224 rfl ?_
    refine k_iload X dL_fresh_226 rfl ?_
    refine k_iaddN X dL_fresh_228 ?_
    refine k_icmp_ne (tgt := 236) X dL_fresh_229 (by decide) (fun c229 => absurd c229 (fun z => z (congrArg nI (by omega)))) (fun c229 => ?_)
    refine k_iconst (v := (nI 1)) X dL_fresh_232 (by decide) ?_
    refine k_goto (tgt := 237) X dL_fresh_233 (by decide) ?_
    refine k_istore X dL_fresh_237 (by rw [hN]; decide) ?_
    refine k_iconst (v := (nI 0)) X dL_fresh_239 (by decide) ?_
    refine k_istore X dL_fresh_240 (by rw [hN]; decide) ?_
    refine k_lo (lo' := [(0, .ref (Le (1, 0, 0))), (2, .int (nI d)), (8, .int (nI r0)), (9, .int (nI 1)), (10, .int (nI 0))]) ⟨rfl, rfl, rfl, rfl, rfl, trivial⟩ ?_
    refine fr_loop X hN hR hE hd hr0 (N 1 0 0) 0 Ce Le _ _ 50 _ _ ?_ hXe u4.2.2 (by omega) u4.2.1 (by omega) (by omega)
    rw [xFetch_n (by decide), xFetch_n (by decide)]
    exact Nat.zero_add _

set_option maxHeartbeats 4000000 in
set_option maxRecDepth 100000 in
theorem l_fresh {l : Launch} (htr : l.stackTraces = false) {E : kE} {A : Nat → Prop} {C : kC} {L : kL} {S : kI4} {N : kN3} (hX : isX E C L S N) (hO : okX S N) {T : Nat} (V : vS S N T) {f : Nat → Int32} (hna : kNa E C f) (hn2 : ∀ d, d < 4 → f d = nI (N 2 d 0)) (hB : ∀ d, d < 4 → N 3 d 0 ≤ 50) {d : Nat} (hd : d < 4) : kM l yL_fresh cL_fresh 13 (some .boolean) 11 280 2800 200000 E A C L [.ref (L (1, 0, 0)), .ref (L (200, 0, 0)), .int (nI d)] (fun v _ _ => v = some (.int (nI 1))) := by
  have hj := hO.1
  have hb := hB d hd
  have hm := V.m2 hd
  have h34 := (hO.2 d hd).2.2.1
  have hop : kcn (kMq (S 9 d)) (N 2 d 0) ≤ 50 := Nat.le_trans (kcn_le kMq_le1 _) (by omega)
  obtain ⟨r1, hr1, hr2⟩ := (V.2.2 d hd).1
  refine kM.of htr (by decide) (Nat.le_of_ble_eq_true rfl) (fun Γ hl hR hN hnm X hE => ?_)
  refine k_lo (lo' := [(0, .ref (L (1, 0, 0))), (1, .ref (L (200, 0, 0))), (2, .int (nI d))]) ⟨rfl, rfl, rfl, trivial⟩ ?_
  refine k_iconst (v := (nI 0)) X dL_fresh_0 (by decide) ?_
  refine k_istore_n X dL_fresh_1 rfl (by rw [hN]; decide) ?_
  refine k_iconst (v := (nI 0)) X dL_fresh_2 (by decide) ?_
  refine k_istore X dL_fresh_3 (by rw [hN]; decide) ?_
  refine k_lo (lo' := [(0, .ref (L (1, 0, 0))), (1, .ref (L (200, 0, 0))), (2, .int (nI d)), (3, .int (nI (0 + kcn (kMq (S 9 d)) 0))), (4, .int (nI 0))]) ⟨rfl, rfl, rfl, rfl, rfl, trivial⟩ ?_
  refine fr_A X hN hR hX hO V hna hn2 hB hd (x3 := 0) (x5 := 0) (N 2 d 0) 0 _ _ (by omega) (by omega) (by omega) (fun c7 s7 h71 h72 => ?_)
  refine k_aload_n X dL_fresh_42 rfl rfl ?_
  refine k_iload_n X dL_fresh_43 rfl rfl ?_
  refine k_callSH (rest := []) X ksh_waiting kb_324 (g_waiting X.tr hX hO hd) rfl rfl (Nat.le_of_ble_eq_true rfl) ⟨by rw [hR]; exact Nat.le_of_ble_eq_true rfl, by rw [hR]; exact Nat.le_of_ble_eq_true rfl⟩ ⟨by rw [hR]; dsimp only; omega, by rw [hR]; dsimp only; omega⟩ dL_fresh_44 (fun v44 C9 L9 h9 => ?_)
  obtain ⟨rfl, rfl, rfl⟩ := h9
  refine k_istore X dL_fresh_47 (by rw [hN]; decide) ?_
  refine k_iload X dL_fresh_49 rfl ?_
  refine k_if_ne (tgt := 58) X dL_fresh_51 (by decide) (fun c51 => ?_) (fun c51 => ?_)
  ·
    refine k_aload_n X dL_fresh_58 rfl rfl ?_
    refine k_iload_n X dL_fresh_59 rfl rfl ?_
    refine k_bipush (v := (nI 100)) X dL_fresh_60 (by decide) ?_
    refine k_callSH (rest := []) X ksh_send kb_331 (a_send X.tr hX hO (fun e he => V.h5 he) hd (mo := 100) (by decide) (by decide) 50 (by omega)) rfl rfl (Nat.le_of_ble_eq_true rfl) ⟨by rw [hR]; exact Nat.le_of_ble_eq_true rfl, by rw [hR]; exact Nat.le_of_ble_eq_true rfl⟩ ⟨by rw [hR]; dsimp only; omega, by rw [hR]; dsimp only; omega⟩ dL_fresh_62 (fun v62 C9 L9 h9 => ?_)
    obtain ⟨cn, S9, N9, rfl, g9, hX9, hF9, hL9⟩ := h9
    have hmn : min 100 (N 3 d 0 - N 4 d 0) = N 3 d 0 - N 4 d 0 := by omega
    rw [hmn] at g9
    obtain ⟨y1, y2, y3, y4⟩ := V.snd hO hd (by omega) g9
    obtain ⟨x1, x2, x3, x4, x5, x6⟩ := xSnd.ok2 hj g9
    obtain ⟨r9, hr9, hr8⟩ := (y1.2.2 d hd).1
    have e43 : N9 4 d 0 = N9 3 d 0 := by
      rw [x5, x6, w3_s]
      omega
    have hkp : kcn (kMq (S9 9 d)) (N9 2 d 0) ≤ kcn (kMq (S 9 d)) (N 2 d 0) := by
      rw [x4]
      exact kMq_le (fun k hk => xSnd.n9 hj g9 d k hk) _
    refine k_lo (lo' := [(0, .ref (L9 (1, 0, 0))), (1, .ref (L9 (200, 0, 0))), (2, .int (nI d)), (3, .int (nI (0 + kcn (kMq (S 9 d)) (N 2 d 0)))), (4, .int (nI (N 3 d 0 - N 4 d 0)))]) ⟨congrArg (fun q => some (Value.ref q)) hL9.symm, congrArg (fun q => some (Value.ref q)) hF9.l200.1.symm, rfl, rfl, rfl, trivial⟩ ?_
    refine fr_65 X hN hR hX9 (show okX _ _ from y2) y1.dn (hna.fr hF9) (fun e he => by rw [x4]; exact hn2 e he) (fun e he => by rw [x5]; exact hB e he) hd hE hr9 ?_ e43 ?_ (by omega) (by omega) (by omega) (by omega)
    · rw [s12_n (by decide)]
      exact hr8
    · rw [show s12 S9 (S9 12 0 0 0 + nI cn) 9 d = S9 9 d from by funext i j; exact s12_n (by decide)]
      omega
  ·
    refine k_iconst (v := (nI 0)) X dL_fresh_54 (by decide) ?_
    refine k_goto (tgt := 65) X dL_fresh_55 (by decide) ?_
    have e43 : N 4 d 0 = N 3 d 0 := by
      have z : N 3 d 0 - N 4 d 0 = 0 := nI_inj c51 (by omega) (by decide)
      omega
    refine k_lo (lo' := [(0, .ref (L (1, 0, 0))), (1, .ref (L (200, 0, 0))), (2, .int (nI d)), (3, .int (nI (0 + kcn (kMq (S 9 d)) (N 2 d 0)))), (4, .int (nI (N 3 d 0 - N 4 d 0)))]) ⟨rfl, rfl, rfl, rfl, rfl, trivial⟩ ?_
    exact fr_65 X hN hR hX hO V hna hn2 hB hd hE hr1 hr2 e43 (by omega) (by omega) (by decide) (by omega) (by omega)
