theorem kS5.c11 {s9 s11 s11' : kR3} {n2 n3 n4 : Nat → Nat → Nat} {m15 m16 m17 m18 m19 m20 : kR1} {q : Nat} (h : kS5 s9 s11 n2 n3 n4 m15 m16 m17 m18 m19 m20 q) (o : ∀ a b j, j < 4 → s11' a b j = s11 a b j) : kS5 s9 s11' n2 n3 n4 m15 m16 m17 m18 m19 m20 q := by
  refine ⟨h.1, h.2.1, fun g hg => ?_, h.2.2.2⟩
  obtain ⟨e, he, b1, b2⟩ := h.2.2.1 g hg
  refine ⟨e, he, b1, ?_⟩
  unfold kAc at b2 ⊢
  rw [o e (kcn (kDv m15 e) g) 0 (by decide), o e (kcn (kDv m15 e) g) 1 (by decide), o e (kcn (kDv m15 e) g) 2 (by decide), o e (kcn (kDv m15 e) g) 3 (by decide)]
  exact b2
theorem kSim.sent {S : kI4} {N : kN3} {M : kM2} {Q : kQ2} (h : kSim S N M Q) {d g : Nat} (hd : d < 4) (hg : g < Q 14 0) (h15 : M 15 g = nI d) (h20 : M 20 g = nI 0) (hk : kcn (kDv (M 15) d) g = N 4 d 0) : kSim S (w3 N 4 d 0 (N 4 d 0 + 1)) (w2 M 20 g (nI 1)) Q ∧ Q 21 0 + 1 ≤ kcn (kSe (w2 M 20 g (nI 1) 20)) (Q 14 0) := by
  obtain ⟨h1, h2, h3, h4, h5, h6, h7⟩ := h
  have n4s : w3 N 4 d 0 (N 4 d 0 + 1) 4 d 0 = N 4 d 0 + 1 := w3_s
  have n4n : ∀ e, e ≠ d → w3 N 4 d 0 (N 4 d 0 + 1) 4 e 0 = N 4 e 0 := fun e z => w3_n (by omega)
  have n4le : ∀ e, N 4 e 0 ≤ w3 N 4 d 0 (N 4 d 0 + 1) 4 e 0 := fun e => by
    by_cases z : e = d
    · rw [z, n4s]
      exact Nat.le_succ _
    · rw [n4n e z]
      exact Nat.le_refl _
  have hlt : N 4 d 0 < N 3 d 0 := by
    rw [(h5.2.1 d hd).1, ← hk]
    exact kcn_lt hg (if_pos h15)
  have hse : kcn (kSe (w2 M 20 g (nI 1) 20)) (Q 14 0) = kcn (kSe (M 20)) (Q 14 0) + 1 := by
    refine kcn_up (i := g) ⟨?_, ?_⟩ (fun j hj => ?_) hg
    · unfold kSe
      rw [h20]
      exact if_neg (by decide)
    · unfold kSe
      rw [w2_s]
      exact if_pos rfl
    · unfold kSe
      rw [w2_i hj]
  refine ⟨⟨(by rw [w3_f (f' := 1) (by decide), w2_f (a := 20) (b := 2) (by decide), w2_f (a := 20) (b := 3) (by decide), w2_f (a := 20) (b := 4) (by decide), w2_f (a := 20) (b := 5) (by decide)]; exact h1), (by rw [w2_f (a := 20) (b := 6) (by decide)]; exact h2), (by rw [w3_f (f' := 11) (by decide), w3_f (f' := 1) (by decide), w2_f (a := 20) (b := 7) (by decide), w2_f (a := 20) (b := 8) (by decide), w2_f (a := 20) (b := 9) (by decide)]; exact h3), (by rw [w3_f (f' := 1) (by decide), w3_f (f' := 2) (by decide), w3_f (f' := 3) (by decide), w2_f (a := 20) (b := 11) (by decide), w2_f (a := 20) (b := 12) (by decide), w2_f (a := 20) (b := 13) (by decide)]; exact h4), ?_, ?_, (by rw [w2_f (a := 20) (b := 24) (by decide)]; exact h7)⟩, ?_⟩
  · rw [w3_f (f' := 2) (by decide), w3_f (f' := 3) (by decide), w2_f (a := 20) (b := 15) (by decide), w2_f (a := 20) (b := 16) (by decide), w2_f (a := 20) (b := 17) (by decide), w2_f (a := 20) (b := 18) (by decide), w2_f (a := 20) (b := 19) (by decide)]
    refine ⟨h5.1, fun e he => ⟨(h5.2.1 e he).1, ?_⟩, fun i hi => ?_, h5.2.2.2.1, fun i hi hi2 => ?_⟩
    · by_cases z : e = d
      · rw [z, n4s]
        exact hlt
      · rw [n4n e z]
        exact (h5.2.1 e he).2
    · obtain ⟨e, he, b1, c1, c2, c3, c4, c5⟩ := h5.2.2.1 i hi
      refine ⟨e, he, b1, c1, c2, c3, ?_, ?_⟩
      · by_cases z : i = g
        · subst z
          have ee : e = d := nI_d (b1.symm.trans h15) he hd
          subst ee
          rw [w2_s, n4s, hk]
          exact (if_pos (Nat.lt_succ_self _)).symm
        · rw [w2_i z, c4]
          by_cases y : e = d
          · subst y
            rw [n4s]
            have hne : kcn (kDv (M 15) e) i ≠ N 4 e 0 := fun w => z (kcn_inj (f := kDv (M 15) e) (if_pos b1) (if_pos h15) (w.trans hk.symm))
            by_cases x : kcn (kDv (M 15) e) i < N 4 e 0
            · rw [if_pos x, if_pos (by omega)]
            · rw [if_neg x, if_neg (by omega)]
          · rw [n4n e y]
      · rcases c5 with ⟨d1, k, d2, d3, d4, d5⟩ | c5
        · exact Or.inl ⟨d1, k, d2, d3, d4, fun w => d5 (Nat.le_trans (n4le e) w)⟩
        · exact Or.inr c5
    · rw [w2_i (by omega)]
      exact h5.2.2.2.2 i hi hi2
  · rw [w3_f (f' := 5) (by decide), w3_f (f' := 6) (by decide), w2_f (a := 20) (b := 15) (by decide), w2_f (a := 20) (b := 23) (by decide)]
    obtain ⟨g1, g2, g3⟩ := h6
    refine ⟨by rw [hse]; omega, fun e he => ⟨(g2 e he).1, Nat.le_trans (g2 e he).2 (n4le e)⟩, fun r hr => ⟨(g3 r hr).1, fun e he w => ?_⟩⟩
    obtain ⟨f1, f2, f3⟩ := (g3 r hr).2 e he w
    exact ⟨f1, Nat.lt_of_lt_of_le f2 (n4le e), f3⟩
  · rw [hse]
    exact Nat.succ_le_succ h6.1
theorem nRef_f {N : kN3} {d k f : Nat} (h : f ≠ 5 ∧ f ≠ 6) : nRef N d k f = N f := by
  funext a b
  exact nRef_n h
theorem kSim.ref {S : kI4} {N : kN3} {M : kM2} {Q : kQ2} (h : kSim S N M Q) {d g : Nat} (hd : d < 4) (hg : g < Q 14 0) (h15 : M 15 g = nI d) (h20 : M 20 g = nI 0) (hk : kcn (kDv (M 15) d) g = N 4 d 0) (r : Int32) : kSim (w4 S 11 d (N 4 d 0) 4 r) (nRef (w3 N 4 d 0 (N 4 d 0 + 1)) d (N 4 d 0)) (mRef M Q g r) (mRefQ Q g) := by
  have h6o := h.2.2.2.2.2.1
  obtain ⟨⟨h1, h2, h3, h4, h5, h6, h7⟩, hs⟩ := h.sent hd hg h15 h20 hk
  have n4s : w3 N 4 d 0 (N 4 d 0 + 1) 4 d 0 = N 4 d 0 + 1 := w3_s
  have n4n : ∀ e, e ≠ d → w3 N 4 d 0 (N 4 d 0 + 1) 4 e 0 = N 4 e 0 := fun e z => w3_n (by omega)
  unfold mRef mRefQ
  refine ⟨(by rw [w4_f (f' := 1) (by decide), w4_f (f' := 2) (by decide), w4_f (f' := 3) (by decide), nRef_f (f := 1) (by decide), w2_f (a := 23) (b := 2) (by decide), w2_f (a := 23) (b := 3) (by decide), w2_f (a := 23) (b := 4) (by decide), w2_f (a := 23) (b := 5) (by decide), w2_f (a := 21) (b := 1) (by decide), w2_f (a := 22) (b := 1) (by decide)]; exact h1), (by rw [w4_f (f' := 4) (by decide), w2_f (a := 23) (b := 6) (by decide)]; exact h2), (by rw [w4_f (f' := 5) (by decide), w4_f (f' := 6) (by decide), w4_f (f' := 8) (by decide), nRef_f (f := 11) (by decide), nRef_f (f := 1) (by decide), w2_f (a := 23) (b := 7) (by decide), w2_f (a := 23) (b := 8) (by decide), w2_f (a := 23) (b := 9) (by decide)]; exact h3), (by rw [w4_f (f' := 7) (by decide), w4_f (f' := 9) (by decide), w4_f (f' := 10) (by decide), nRef_f (f := 1) (by decide), nRef_f (f := 2) (by decide), nRef_f (f := 3) (by decide), w2_f (a := 23) (b := 11) (by decide), w2_f (a := 23) (b := 12) (by decide), w2_f (a := 23) (b := 13) (by decide), w2_f (a := 21) (b := 10) (by decide), w2_f (a := 22) (b := 10) (by decide)]; exact h4), ?_, ?_, (by rw [w4_f (f' := 12) (by decide), w2_f (a := 23) (b := 24) (by decide)]; exact h7)⟩
  · rw [w4_f (f' := 9) (by decide), nRef_f (f := 2) (by decide), nRef_f (f := 3) (by decide), nRef_f (f := 4) (by decide), w2_f (a := 23) (b := 15) (by decide), w2_f (a := 23) (b := 16) (by decide), w2_f (a := 23) (b := 17) (by decide), w2_f (a := 23) (b := 18) (by decide), w2_f (a := 23) (b := 19) (by decide), w2_f (a := 23) (b := 20) (by decide), w2_f (a := 21) (b := 14) (by decide), w2_f (a := 22) (b := 14) (by decide)]
    exact h5.c11 (fun a b j hj => w4_n (by omega))
  · rw [nRef_f (f := 4) (by decide), w2_f (a := 23) (b := 15) (by decide), w2_f (a := 23) (b := 20) (by decide), w2_f (a := 21) (b := 14) (by decide), w2_f (a := 22) (b := 14) (by decide), w2_f (a := 21) (b := 22) (by decide), w2_s, w2_f (a := 20) (b := 15) (by decide)]
    obtain ⟨g1, g2, g3⟩ := h6o
    have e22s : w2 Q 22 (Q 21 0) g 22 (Q 21 0) = g := w2_s
    have e22n : ∀ r, r ≠ Q 21 0 → w2 Q 22 (Q 21 0) g 22 r = Q 22 r := fun r z => w2_i z
    have n5 : w3 N 4 d 0 (N 4 d 0 + 1) 5 d 0 = N 5 d 0 := w3_n (by omega)
    have n5s : nRef (w3 N 4 d 0 (N 4 d 0 + 1)) d (N 4 d 0) 5 d 0 = N 5 d 0 + 1 := by
      rw [show nRef (w3 N 4 d 0 (N 4 d 0 + 1)) d (N 4 d 0) 5 d 0 = w3 N 4 d 0 (N 4 d 0 + 1) 5 d 0 + 1 from w3_s, n5]
    have n5n : ∀ e, e ≠ d → nRef (w3 N 4 d 0 (N 4 d 0 + 1)) d (N 4 d 0) 5 e 0 = N 5 e 0 := fun e z => (w3_n (by omega)).trans ((w3_n (by omega)).trans (w3_n (by omega)))
    have n6s : nRef (w3 N 4 d 0 (N 4 d 0 + 1)) d (N 4 d 0) 6 d (N 5 d 0) = N 4 d 0 := by
      rw [← n5]
      exact (w3_n (by omega)).trans w3_s
    have n6n : ∀ e p, ¬ (e = d ∧ p = N 5 d 0) → nRef (w3 N 4 d 0 (N 4 d 0 + 1)) d (N 4 d 0) 6 e p = N 6 e p := fun e p z => by
      rw [← n5] at z
      exact (w3_n (by omega)).trans ((w3_n (by omega)).trans (w3_n (by omega)))
    have hrf : ∀ e r, r ≤ Q 21 0 → kcn (kRf (M 15) (w2 Q 22 (Q 21 0) g 22) e) r = kcn (kRf (M 15) (Q 22) e) r := fun e r hr => kcn_cg fun i hi => by
      unfold kRf
      rw [e22n i (by omega)]
    have hrs : ∀ e, kcn (kRf (M 15) (w2 Q 22 (Q 21 0) g 22) e) (Q 21 0 + 1) = kcn (kRf (M 15) (Q 22) e) (Q 21 0) + (if M 15 g = nI e then 1 else 0) := fun e => by
      show kcn (kRf (M 15) (w2 Q 22 (Q 21 0) g 22) e) (Q 21 0) + kRf (M 15) (w2 Q 22 (Q 21 0) g 22) e (Q 21 0) = _
      rw [hrf e _ (Nat.le_refl _)]
      refine congrArg (fun z => kcn (kRf (M 15) (Q 22) e) (Q 21 0) + z) ?_
      unfold kRf
      rw [e22s]
    refine ⟨hs, fun e he => ?_, fun i hi => ?_⟩
    · rw [hrs e, ← (g2 e he).1]
      by_cases z : e = d
      · subst z
        rw [if_pos h15, n5s, n4s]
        exact ⟨rfl, Nat.succ_le_succ (g2 e he).2⟩
      · rw [if_neg (fun w => z (nI_d (w.symm.trans h15) he hd)), n5n e z, n4n e z]
        exact ⟨rfl, (g2 e he).2⟩
    · by_cases c : i = Q 21 0
      · subst c
        rw [e22s]
        refine ⟨hg, fun e he w => ?_⟩
        have ee : e = d := nI_d (w.symm.trans h15) he hd
        subst ee
        rw [hrf e _ (Nat.le_refl _), ← (g2 e he).1, n6s, hk, n4s, w2_s]
        exact ⟨rfl, Nat.lt_succ_self _, w4_s.symm⟩
      · rw [e22n i c]
        refine ⟨(g3 i (by omega)).1, fun e he w => ?_⟩
        obtain ⟨f1, f2, f3⟩ := (g3 i (by omega)).2 e he w
        have hlt : kcn (kRf (M 15) (Q 22) e) i < N 5 e 0 := by
          rw [(g2 e he).1]
          exact kcn_lt (by omega) (if_pos w)
        rw [hrf e i (by omega), n6n e _ (fun y => by
          obtain ⟨y1, y2⟩ := y
          rw [← y1] at y2
          omega), w2_i c, w2_f (a := 20) (b := 23) (by decide), w4_n (fun y => by
          obtain ⟨y1, y2, y3, y4⟩ := y
          rw [← y2] at y3
          omega)]
        refine ⟨f1, ?_, f3⟩
        by_cases z : e = d
        · subst z
          rw [n4s]
          omega
        · rw [n4n e z]
          exact f2
theorem kS4.num {s7 s7' s9 s9' s10 : kR3} {nj : Nat} {n2 n3 : Nat → Nat → Nat} {m11 m12 m13 m11' : kR1} {q10 : Nat → Nat} (h : kS4 s7 s9 s10 nj n2 n3 m11 m12 m13 q10) (hb : ∀ e, e < 4 → n2 e 0 ≤ 512) {d k : Nat} (hd : d < 4) (hk : k < n2 d 0) (hj : nj < 40) (h9 : s9 d k 0 = -1)
    (a7 : s7' d 0 0 = s7 d 0 0 - nI 1) (o7 : ∀ e, e ≠ d → s7' e 0 0 = s7 e 0 0)
    (a9 : s9' d k 0 = nI nj) (o9 : ∀ a b, ¬ (a = d ∧ b = k) → s9' a b 0 = s9 a b 0)
    (a11 : m11' (600 * d + k) = nI nj) (o11 : ∀ p, p ≠ 600 * d + k → m11' p = m11 p) : kS4 s7' s9' s10 (nj + 1) n2 n3 m11' m12 m13 q10 := by
  intro e he
  obtain ⟨h1, h2, h3, h4, h5⟩ := h e he
  have b1 := hb e he
  have b2 := hb d hd
  refine ⟨h1, h2, ?_, fun j hj2 => ?_, h5⟩
  · by_cases c : e = d
    · subst c
      have hc : kcn (kUn m11 e) (n2 e 0) = kcn (kUn m11' e) (n2 e 0) + 1 := by
        refine kcn_up (i := k) ⟨?_, ?_⟩ (fun j hj3 => ?_) hk
        · unfold kUn
          rw [a11]
          exact if_neg (nI_n1 (by omega))
        · unfold kUn
          rw [(h4 k hk).1, h9]
          exact if_pos rfl
        · unfold kUn
          rw [o11 _ (by omega)]
      rw [a7, h3, hc, pk_sub (Nat.le_add_left 1 _), Nat.add_sub_cancel]
    · rw [o7 e c, h3]
      refine congrArg nI (kcn_cg fun j hj3 => ?_)
      unfold kUn
      rw [o11 _ (by omega)]
  · by_cases c : e = d ∧ j = k
    · obtain ⟨rfl, rfl⟩ := c
      rw [a11, a9]
      exact ⟨rfl, Or.inr ⟨nj, Nat.lt_succ_self _, rfl⟩, (h4 j hj2).2.2⟩
    · rw [o11 _ (by omega), o9 e j c]
      refine ⟨(h4 j hj2).1, ?_, (h4 j hj2).2.2⟩
      rcases (h4 j hj2).2.1 with z | ⟨i, z1, z2⟩
      · exact Or.inl z
      · exact Or.inr ⟨i, by omega, z2⟩
theorem kS5.num {s9 s9' s11 : kR3} {n2 n3 n4 : Nat → Nat → Nat} {m15 m16 m17 m18 m19 m20 : kR1} {q : Nat} (h : kS5 s9 s11 n2 n3 n4 m15 m16 m17 m18 m19 m20 q) {d k : Nat} (h9 : s9 d k 0 = -1) (o9 : ∀ a b, ¬ (a = d ∧ b = k) → s9' a b 0 = s9 a b 0) (hw : ∀ i, i < q → m15 i = nI d → m17 i = -1 → m16 i = nI (1000 + k) → kcn (kDv m15 d) i < n4 d 0) : kS5 s9' s11 n2 n3 n4 m15 m16 m17 m18 m19 m20 q := by
  refine ⟨h.1, h.2.1, fun g hg => ?_, h.2.2.2⟩
  obtain ⟨e, he, b1, c1, c2, c3, c4, c5⟩ := h.2.2.1 g hg
  refine ⟨e, he, b1, c1, c2, c3, c4, ?_⟩
  rcases c5 with ⟨d1, j, d2, d3, d4, d5⟩ | ⟨d1, d2, d3⟩
  · refine Or.inl ⟨d1, j, d2, d3, d4, fun w => ?_⟩
    by_cases z : e = d ∧ j = k
    · obtain ⟨rfl, rfl⟩ := z
      exact absurd (hw g hg b1 d1 d3) (Nat.not_lt.mpr w)
    · rw [o9 e j z]
      exact d5 w
  · refine Or.inr ⟨d1, d2, ?_⟩
    rcases d3 with e1 | ⟨j, e1, e2, e3, e4⟩
    · exact Or.inl e1
    · have z : ¬ (e = d ∧ j = k) := by
        rintro ⟨rfl, rfl⟩
        exact e3 h9
      exact Or.inr ⟨j, e1, e2, by rw [o9 e j z]; exact e3, by rw [o9 e j z]; exact e4⟩
theorem sNum0_f {S : kI4} {d k n f : Nat} (h : f ≠ 7 ∧ f ≠ 9) : sNum0 S d k n f = S f := by
  unfold sNum0
  rw [w4_f h.1, w4_f h.2]
theorem sNum_f {S : kI4} {d k n f : Nat} (h : f ≠ 5 ∧ f ≠ 6 ∧ f ≠ 7 ∧ f ≠ 8 ∧ f ≠ 9) : sNum S d k n f = S f := by
  unfold sNum
  rw [sHold_f (by omega), sNum0_f (by omega)]
theorem mAdopt_f {M : kM2} {Q : kQ2} {d g k f : Nat} (h : f ≠ 2 ∧ f ≠ 3 ∧ f ≠ 7 ∧ f ≠ 8 ∧ f ≠ 9 ∧ f ≠ 11) : mAdopt M Q d g k f = M f := by
  unfold mAdopt
  rw [w2_f h.2.2.2.2.1, w2_f h.2.2.2.1, w2_f h.2.2.2.2.1, w2_f h.2.2.2.1, w2_f h.2.2.1, w2_f h.2.2.2.2.2, w2_f h.2.1, w2_f h.1]
theorem mAdopt_2 {M : kM2} {Q : kQ2} {d g k : Nat} : mAdopt M Q d g k 2 (Q 1 0) = nI d ∧ mAdopt M Q d g k 3 (Q 1 0) = M 18 g := by
  simp [mAdopt, w2]
theorem mAdopt_2n {M : kM2} {Q : kQ2} {d g k i : Nat} (h : i ≠ Q 1 0) : mAdopt M Q d g k 2 i = M 2 i ∧ mAdopt M Q d g k 3 i = M 3 i := by
  simp [mAdopt, w2, h]
theorem mAdopt_7 {M : kM2} {Q : kQ2} {d g k : Nat} : mAdopt M Q d g k 7 (40 * d + Q 1 0) = nI 1 := by
  simp [mAdopt, w2]
theorem mAdopt_7n {M : kM2} {Q : kQ2} {d g k p : Nat} (h : p ≠ 40 * d + Q 1 0) : mAdopt M Q d g k 7 p = M 7 p := by
  simp [mAdopt, w2, h]
theorem mAdopt_11 {M : kM2} {Q : kQ2} {d g k : Nat} : mAdopt M Q d g k 11 (600 * d + k) = nI (Q 1 0) := by
  simp [mAdopt, w2]
theorem mAdopt_11n {M : kM2} {Q : kQ2} {d g k p : Nat} (h : p ≠ 600 * d + k) : mAdopt M Q d g k 11 p = M 11 p := by
  simp [mAdopt, w2, h]
theorem mAdopt_m {M : kM2} {Q : kQ2} {d g k f : Nat} (hf : f < 2) : mAdopt M Q d g k 8 (2 * (40 * d + Q 1 0) + f) = M 12 (2 * (600 * d + k) + f) ∧ mAdopt M Q d g k 9 (2 * (40 * d + Q 1 0) + f) = M 13 (2 * (600 * d + k) + f) := by
  rcases (show f = 0 ∨ f = 1 by omega) with rfl | rfl <;> simp [mAdopt, w2]
theorem mAdopt_n {M : kM2} {Q : kQ2} {d g k p : Nat} (h1 : p ≠ 2 * (40 * d + Q 1 0)) (h2 : p ≠ 2 * (40 * d + Q 1 0) + 1) : mAdopt M Q d g k 8 p = M 8 p ∧ mAdopt M Q d g k 9 p = M 9 p := by
  simp [mAdopt, w2, h1, h2]
theorem kZ.adopt {M : kM2} (h : kZ M) {Q : kQ2} {d g k : Nat} : kZ (mAdopt M Q d g k) := fun p => by
  by_cases e : p = 40 * d + Q 1 0
  · subst e
    exact Or.inr mAdopt_7
  · rw [mAdopt_7n e]
    exact h p
theorem kSim.adopt {S : kI4} {N : kN3} {M : kM2} {Q : kQ2} (h : kSim S N M Q) {d k g : Nat} (hd : d < 4) (hn : N 1 0 0 < 40) (hk : k < N 2 d 0) (h9 : S 9 d k 0 = -1) {si : Int32} (hsi : M 18 g = si) (hw : ∀ i, i < Q 14 0 → M 15 i = nI d → M 17 i = -1 → M 16 i = nI (1000 + k) → kcn (kDv (M 15) d) i < N 4 d 0) : kSim (sAddJ (sNum S d k (N 1 0 0)) (N 1 0 0) (nI d) si) (nAddJ (nHold N d (N 1 0 0))) (mAdopt M Q d g k) (w2 Q 1 0 (Q 1 0 + 1)) := by
  have hb : ∀ e, e < 4 → N 2 e 0 ≤ 512 := fun e he => Nat.le_trans (h.n2 e he) h.q14
  obtain ⟨h1, h2, h3, h4, h5, h6, h7⟩ := h
  have hq : Q 1 0 = N 1 0 0 := h1.1
  have e1 : nAddJ (nHold N d (N 1 0 0)) 1 0 0 = N 1 0 0 + 1 := by
    rw [show nAddJ (nHold N d (N 1 0 0)) 1 0 0 = nHold N d (N 1 0 0) 1 0 0 + 1 from w3_s, nHold_f (f := 1) (by decide)]
  have h0 : S 5 d (N 1 0 0) 0 = nI 0 := by
    rcases ((h3 d hd).2 _ hn).2 with z | z
    · exact z
    · exact absurd z.2.1 (Nat.lt_irrefl _)
  refine ⟨?_, (by rw [sAddJ_f (f := 4) (by decide), sNum_f (f := 4) (by decide), mAdopt_f (f := 6) (by decide)]; exact h2), ?_, ?_, ?_, (by rw [sAddJ_f (f := 11) (by decide), sNum_f (f := 11) (by decide), nAddJ_f (f := 4) (by decide), nHold_f (f := 4) (by decide), nAddJ_f (f := 5) (by decide), nHold_f (f := 5) (by decide), nAddJ_f (f := 6) (by decide), nHold_f (f := 6) (by decide), mAdopt_f (f := 15) (by decide), mAdopt_f (f := 20) (by decide), mAdopt_f (f := 23) (by decide), w2_f (a := 1) (b := 14) (by decide), w2_f (a := 1) (b := 21) (by decide), w2_f (a := 1) (b := 22) (by decide)]; exact h6), (by rw [sAddJ_f (f := 12) (by decide), sNum_f (f := 12) (by decide), mAdopt_f (f := 24) (by decide)]; exact h7)⟩
  · have h1' : kS1 (sNum S d k (N 1 0 0) 1) (sNum S d k (N 1 0 0) 2) (sNum S d k (N 1 0 0) 3) (N 1 0 0) (M 2) (M 3) (M 4) (M 5) (Q 1 0) := by
      rw [sNum_f (f := 1) (by decide), sNum_f (f := 2) (by decide), sNum_f (f := 3) (by decide)]
      exact h1
    rw [e1, w2_s, mAdopt_f (f := 4) (by decide), mAdopt_f (f := 5) (by decide)]
    refine h1'.add (cr := nI d) (si := si) hn (fun i hi => ?_) ⟨by simp [sAddJ], by simp [sAddJ], fun j hj => by simp [sAddJ, hj], ?_, ?_⟩
    · have := mAdopt_2n (M := M) (Q := Q) (d := d) (g := g) (k := k) (i := i) (by rw [hq]; exact hi)
      exact ⟨sAddJ_n (by omega), sAddJ_n (by omega), fun j => sAddJ_n (by omega), this.1, this.2⟩
    · rw [← hq]
      exact mAdopt_2.1
    · rw [← hq]
      exact mAdopt_2.2.trans hsi
  · rw [e1, sAddJ_f (f := 5) (by decide), sAddJ_f (f := 6) (by decide), sAddJ_f (f := 8) (by decide), nAddJ_f (f := 11) (by decide)]
    refine (kS3.sH (S := sNum0 S d k (N 1 0 0)) (nj := N 1 0 0) (m7 := M 7) (m8 := M 8) (m9 := M 9) ?_ hd hn (Nat.lt_succ_self _) (Nat.le_succ _) ?_ (fun j => S 10 d k j) ?_ (fun p z => ?_) (fun f hf => ?_) (fun p z1 z2 => ?_)).1
    · rw [sNum0_f (f := 5) (by decide), sNum0_f (f := 6) (by decide), sNum0_f (f := 8) (by decide)]
      exact h3
    · rw [sNum0_f (f := 5) (by decide)]
      exact h0
    · rw [← hq]
      exact mAdopt_7
    · rw [← hq] at z
      exact mAdopt_7n z
    · rw [← hq, (mAdopt_m hf).1, (mAdopt_m hf).2]
      exact ((h4 d hd).2.2.2.1 k hk).2.2 f hf
    · rw [← hq] at z1 z2
      exact mAdopt_n z1 z2
  · rw [e1, sAddJ_f (f := 7) (by decide), sAddJ_f (f := 9) (by decide), sAddJ_f (f := 10) (by decide), nAddJ_f (f := 2) (by decide), nAddJ_f (f := 3) (by decide), nHold_f (f := 2) (by decide), nHold_f (f := 3) (by decide), mAdopt_f (f := 12) (by decide), mAdopt_f (f := 13) (by decide), w2_f (a := 1) (b := 10) (by decide), sNum_f (f := 10) (by decide)]
    unfold sNum
    rw [sHold_f (f := 7) (by decide), sHold_f (f := 9) (by decide)]
    refine h4.num hb hd hk hn h9 w4_s (fun e z => (w4_n (by omega)).trans (w4_n (by omega))) ((w4_n (by omega)).trans w4_s) (fun a b z => (w4_n (by omega)).trans (w4_n (by omega))) ?_ (fun p z => mAdopt_11n z)
    rw [← hq]
    exact mAdopt_11
  · rw [sAddJ_f (f := 9) (by decide), sAddJ_f (f := 11) (by decide), sNum_f (f := 11) (by decide), nAddJ_f (f := 2) (by decide), nAddJ_f (f := 3) (by decide), nAddJ_f (f := 4) (by decide), nHold_f (f := 2) (by decide), nHold_f (f := 3) (by decide), nHold_f (f := 4) (by decide), mAdopt_f (f := 15) (by decide), mAdopt_f (f := 16) (by decide), mAdopt_f (f := 17) (by decide), mAdopt_f (f := 18) (by decide), mAdopt_f (f := 19) (by decide), mAdopt_f (f := 20) (by decide), w2_f (a := 1) (b := 14) (by decide)]
    unfold sNum
    rw [sHold_f (f := 9) (by decide)]
    exact h5.num h9 (fun a b z => (w4_n (by omega)).trans (w4_n (by omega))) hw
theorem kstep {x y : Int32} (hx : kin x (nI 0) (nI 2)) (hy : kin y (nI 0) (nI 2)) : x + nI 1 = y ↔ kStep x y := by
  obtain ⟨a, _, ha, rfl⟩ := hx.ex (by decide) (by decide)
  obtain ⟨b, _, hb, rfl⟩ := hy.ex (by decide) (by decide)
  rcases (show a = 0 ∨ a = 1 ∨ a = 2 by omega) with rfl | rfl | rfl <;> rcases (show b = 0 ∨ b = 1 ∨ b = 2 by omega) with rfl | rfl | rfl <;> (unfold kStep; decide)
theorem nkix {j n : Nat} (h : n ≤ j) (hj : j < 2 ^ 31) : ¬ kix (nI j) n := fun w => absurd ((nI_ltI hj (by omega)).mp w.2) (by omega)
theorem nkix1 {n : Nat} : ¬ kix (-1) n := fun w => w.1 (by decide)
/-- the job that an act names, class and reference -/
theorem kSim.cn {S : kI4} {N : kN3} {M : kM2} {Q : kQ2} (h : kSim S N M Q) {d : Nat} (hd : d < 4) {job num x y : Int32} (hj : num = job ∨ ∃ k, k < N 2 d 0 ∧ job = nI (1000 + k) ∧ S 9 d k 0 ≠ -1 ∧ num = S 9 d k 0) (hx : kCn S N d job x) (hy : mNm M Q d num y) : x = y ∨ (¬ kix x (N 1 0 0) ∧ ¬ kix y (N 1 0 0)) := by
  have hb : N 2 d 0 ≤ 512 := Nat.le_trans (h.n2 d hd) h.q14
  have hn40 : N 1 0 0 ≤ 40 := h.1.2.1
  obtain ⟨hq, -, -, h4, -⟩ := h.2.2.2.1 d hd
  rcases hj with rfl | ⟨k, k1, rfl, k3, rfl⟩
  · rcases hx with ⟨k, k1, rfl, rfl⟩ | ⟨k1, rfl⟩
    · rcases hy with ⟨i, i1, i2, i3, rfl⟩ | ⟨i1, rfl⟩
      · rw [hq] at i1
        have e := kown_inj i2 (by omega) (by omega)
        subst e
        exact Or.inl (h4 k k1).1.symm
      · have e := i1 k (by rw [hq]; exact k1) rfl
        rw [(h4 k k1).1] at e
        rw [e]
        exact Or.inr ⟨nkix1, nkix (by omega) (by omega)⟩
    · rcases hy with ⟨i, i1, i2, i3, rfl⟩ | ⟨i1, rfl⟩
      · rw [hq] at i1
        exact absurd i2 (k1 i i1)
      · exact Or.inl rfl
  · rcases hx with ⟨i, i1, i2, rfl⟩ | ⟨i1, rfl⟩
    · have e := kown_inj i2 (by omega) (by omega)
      subst e
      rcases (h4 k k1).2.1 with z | ⟨j, j1, j2⟩
      · exact absurd z k3
      · rcases hy with ⟨a, a1, a2, a3, rfl⟩ | ⟨a1, rfl⟩
        · rw [j2] at a2
          rw [hq] at a1
          have := nI_inj a2 (by omega) (by omega)
          omega
        · exact Or.inl rfl
    · exact absurd rfl (i1 k k1)
theorem kSim.step {S S' : kI4} {N N' : kN3} {M M' : kM2} {Q Q' : kQ2} (h : kSim S N M Q) {d g b c : Nat} (hd : d < 4) (hg : g < Q 14 0) (h15 : M 15 g = nI d) (h20 : M 20 g = nI 0) (hk : kcn (kDv (M 15) d) g = N 4 d 0) (hx : xStep S N d b S' N') (hm : mPost M Q d g c M' Q') : b = c ∧ kSim S' N' M' Q' := by
  have hb : N 2 d 0 ≤ 512 := Nat.le_trans (h.n2 d hd) h.q14
  have hn40 : N 1 0 0 ≤ 40 := h.1.2.1
  have hs := (h.sent hd hg h15 h20 hk).1
  have hr := h.ref hd hg h15 h20 hk
  have hq : Q 1 0 = N 1 0 0 := h.1.1
  have hq10 : Q 10 d = N 2 d 0 := (h.2.2.2.1 d hd).1
  have hu := h.2.2.2.2.1.2.2.2.1
  obtain ⟨e, he, b1, c1, c2, c3, c4, c5⟩ := h.2.2.2.2.1.2.2.1 g hg
  have ee : e = d := nI_d (b1.symm.trans h15) he hd
  subst ee
  rw [hk] at c1 c2 c3 c5
  have n1 : w3 N 4 e 0 (N 4 e 0 + 1) 1 0 0 = N 1 0 0 := w3_n (by omega)
  have n2 : w3 N 4 e 0 (N 4 e 0 + 1) 2 e 0 = N 2 e 0 := w3_n (by omega)
  obtain ⟨r, S1, N1, hdel, hres⟩ := hx
  rcases c5 with ⟨d1, k, d2, d3, d4, d5⟩ | ⟨d1, d2, d3⟩
  · have d9 := d5 (Nat.le_refl _)
    rcases hdel with ⟨-, hmk⟩ | ⟨hne, -⟩
    · rcases hm with ⟨k2, hk2, m16, m17, hm⟩ | ⟨f0, r2, hf0, m17, -⟩
      · rw [hq10] at hk2
        have ek : k2 = k := kown_inj (m16.symm.trans d3) (by omega) (by omega)
        subst ek
        rcases hmk with ⟨x1, rfl, rfl, rfl⟩ | ⟨q, x1, x2, x3, rfl, rfl, rfl⟩
        · have x4 : N 1 0 0 = 40 := by
            rcases x1 with x1 | x1
            · exact n1.symm.trans x1
            · exact absurd d4 (x1 k2 (by rw [n2]; exact d2))
          rcases hres with ⟨w, -⟩ | ⟨-, rfl, rfl, rfl⟩
          · exact absurd w (by decide)
          · rcases hm with ⟨-, rfl, rfl, rfl⟩ | ⟨w, -⟩
            · exact ⟨rfl, hr _⟩
            · omega
        · rw [n1] at x3
          rw [n2] at x1
          have eq : q = k2 := kown_inj (x2.symm.trans d4) (by omega) (by omega)
          subst eq
          rcases hres with ⟨-, rfl, rfl, rfl⟩ | ⟨w, -⟩
          · rcases hm with ⟨w, -⟩ | ⟨-, rfl, rfl, rfl⟩
            · omega
            · refine ⟨rfl, ?_⟩
              refine hs.adopt he (by rw [n1]; exact x3) (by rw [n2]; exact d2) d9 ?_ (fun i hi i15 i17 i16 => ?_)
              · rw [w2_a (by decide)]
                exact c2
              · rw [w2_a (by decide)] at i15 i17 i16
                have ei := hu i g hi hg i17 d1 (i15.trans h15.symm) (i16.trans d3.symm)
                subst ei
                rw [w2_f (a := 20) (b := 15) (by decide), hk, w3_s]
                exact Nat.lt_succ_self _
          · exact absurd rfl w
      · rw [d1] at m17
        exact absurd m17.symm (nI_n1 (by omega))
    · exact absurd (c1.symm.trans d1) hne
  · obtain ⟨f0, -, hf0, hf⟩ := d1.ex (by decide) (by decide)
    have s1 : S 11 e (N 4 e 0) 1 = nI f0 := c1.symm.trans hf
    rcases hdel with ⟨w, -⟩ | ⟨-, rfl, x, hx, hcl⟩
    · exact absurd (s1.symm.trans w) (nI_n1 (by omega))
    · rcases hm with ⟨k2, -, -, m17, -⟩ | ⟨f1, r2, hf1, m17, ⟨y, hy, hag⟩, hm⟩
      · exact absurd (hf.symm.trans m17) (nI_n1 (by omega))
      · have ef : f1 = f0 := nI_inj (m17.symm.trans hf) (by omega) (by omega)
        subst ef
        have hx' : kCn S N e (S 11 e (N 4 e 0) 0) x := by
          unfold kCn at hx ⊢
          rw [n2] at hx
          exact hx
        rw [n1] at hcl
        rw [hq] at hag
        have hxy := h.cn he d3 hx' hy
        have key : r = r2 ∧ ((r ≠ -1 ∧ S1 = S) ∨ (r = -1 ∧ ∃ i, i < N 1 0 0 ∧ y = nI i ∧ S1 = sPut S 3 i 0 (nI f1) (M 18 g))) := by
          rcases hcl with ⟨x1, rfl, rfl⟩ | ⟨i, x1, rfl, hch⟩
          · refine ⟨?_, Or.inl ⟨by decide, rfl⟩⟩
            rcases hag with ⟨y1, rfl⟩ | ⟨i, y1, rfl, -⟩
            · rfl
            · exfalso
              rcases hxy with rfl | w
              · exact x1 (kix.of y1 (by omega))
              · exact w.2 (kix.of y1 (by omega))
          · have exy : nI i = y := by
              rcases hxy with w | w
              · exact w
              · exact absurd (kix.of x1 (by omega)) w.1
            subst exy
            rcases hag with ⟨y1, -⟩ | ⟨i2, y1, y2, hag⟩
            · exact absurd (kix.of x1 (by omega)) y1
            · have ei : i = i2 := nI_inj y2 (by omega) (by omega)
              subst ei
              obtain ⟨q2, -, q4, qf⟩ := h.1.2.2.1 i x1
              unfold xChi xVer at hch
              rw [s1, kver hf1, ← (qf f1 (by omega)).2, ← q2, ← c2, ← c3] at hch
              have hcc : (nI f1 = nI 1 ∨ M 4 (2 * i + f1) + nI 1 = M 18 g) ↔ (nI f1 ≠ 0 ∨ kStep (S 3 i 0 0) (M 18 g)) := by
                rcases (show f1 = 0 ∨ f1 = 1 by omega) with rfl | rfl
                · rw [(qf 0 (by decide)).1, kstep q4 (d2 hf)]
                  exact ⟨fun w => w.elim (fun u => absurd u (by decide)) Or.inr, fun w => w.elim (fun u => absurd rfl u) Or.inr⟩
                · exact ⟨fun _ => Or.inl (by decide), fun _ => Or.inl rfl⟩
              rcases hch with ⟨a1, a2, a3⟩ | ⟨a1, a2, a3, a4⟩ | ⟨a1, a2, a3, a4, a5, a6⟩ | ⟨a1, a2, a3, a4, a5⟩
              · refine ⟨?_, Or.inl ⟨by rw [a2]; decide, a3⟩⟩
                rcases hag with ⟨g1, g2⟩ | ⟨g1, g2, g3⟩ | ⟨g1, g2, g3, g4⟩ | ⟨g1, g2, g3, g4⟩
                · exact a2.trans g2.symm
                · exact absurd g1 a1
                · exact absurd g1 a1
                · exact absurd g1 a1
              · refine ⟨?_, Or.inl ⟨by rw [a3]; decide, a4⟩⟩
                rcases hag with ⟨g1, g2⟩ | ⟨g1, g2, g3⟩ | ⟨g1, g2, g3, g4⟩ | ⟨g1, g2, g3, g4⟩
                · exact absurd a1 g1
                · exact a3.trans g3.symm
                · exact absurd g2 a2
                · exact absurd g2 a2
              · refine ⟨?_, Or.inl ⟨by rw [a5]; decide, a6⟩⟩
                rcases hag with ⟨g1, g2⟩ | ⟨g1, g2, g3⟩ | ⟨g1, g2, g3, g4⟩ | ⟨g1, g2, g3, g4⟩
                · exact absurd a1 g1
                · exact absurd a2 g2
                · exact a5.trans g4.symm
                · exact absurd (hcc.mp g3) (fun w => w.elim (fun u => u a3) a4)
              · refine ⟨?_, Or.inr ⟨a4, i, x1, rfl, a5⟩⟩
                rcases hag with ⟨g1, g2⟩ | ⟨g1, g2, g3⟩ | ⟨g1, g2, g3, g4⟩ | ⟨g1, g2, g3, g4⟩
                · exact absurd a1 g1
                · exact absurd a2 g2
                · exact absurd (hcc.mpr a3) g3
                · exact a4.trans g4.symm
        obtain ⟨er, key⟩ := key
        subst er
        rcases key with ⟨z1, z2⟩ | ⟨z1, i, z2, z3, z4⟩
        · subst z2
          rcases hres with ⟨w, -⟩ | ⟨-, rfl, rfl, rfl⟩
          · exact absurd w z1
          · rcases hm with ⟨-, rfl, rfl, rfl⟩ | ⟨w, -⟩
            · exact ⟨rfl, hr _⟩
            · exact absurd w z1
        · rcases hres with ⟨-, rfl, rfl, rfl⟩ | ⟨w, -⟩
          · rcases hm with ⟨w, -⟩ | ⟨-, rfl, i2, i3, i4, rfl, rfl⟩
            · exact absurd z1 w
            · have ei : i = i2 := by
                have w := mNm.un (by rw [hq10]; exact hb) hy i4
                exact nI_inj (z3.symm.trans w) (by omega) (by omega)
              subst ei
              refine ⟨rfl, ?_⟩
              subst z4
              exact hs.set (by rw [n1]; exact z2) hf1 (fun z => by
                subst z
                exact d2 hf)
          · exact absurd z1 w
