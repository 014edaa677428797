theorem sDr_f {S : kI4} {d i f : Nat} (h : f ≠ 5) : sDr S d i f = S f := by
  funext a b c
  exact sDr_n (by omega)
theorem sDrop_f {S : kI4} {d f : Nat} (h : f ≠ 5 ∧ f ≠ 6) : sDrop S d f = S f := by
  unfold sDrop
  rw [w4_f h.2, sDr_f h.1]
theorem mClr_f {M : kM2} {d n f : Nat} (h : f ≠ 7) : mClr M d n f = M f := by
  funext i
  exact if_neg (by omega)
theorem sHold_f {S : kI4} {d n f : Nat} {g : Nat → Int32} (h : f ≠ 5 ∧ f ≠ 6 ∧ f ≠ 8) : sHold S d n g f = S f := by
  funext a b c
  exact sHold_n (by omega)
theorem nHold_f {N : kN3} {d n f : Nat} (h : f ≠ 11) : nHold N d n f = N f := by
  funext a b
  exact nHold_n (by omega)
theorem mHold_f {M : kM2} {d j f : Nat} (h : f ≠ 7 ∧ f ≠ 8 ∧ f ≠ 9) : mHold M d j f = M f := by
  unfold mHold
  rw [w2_f h.2.2, w2_f h.2.1, w2_f h.2.2, w2_f h.2.1, w2_f h.1]
theorem sHold_e {S : kI4} {d n : Nat} {g : Nat → Int32} (h : S 5 d n 0 = nI 0) : sHold S d n g = w4 (w4 (sCopy S d n g) 5 d n 0 (nI 1)) 6 d 0 0 (S 6 d 0 0 + nI 1) := if_pos h
theorem mHold_7 {M : kM2} {d j : Nat} : mHold M d j 7 (40 * d + j) = nI 1 := by
  simp [mHold, w2]
theorem mHold_7n {M : kM2} {d j p : Nat} (h : p ≠ 40 * d + j) : mHold M d j 7 p = M 7 p := by
  simp [mHold, w2, h]
theorem mHold_m {M : kM2} {d j f : Nat} (hf : f < 2) : mHold M d j 8 (2 * (40 * d + j) + f) = M 4 (2 * j + f) ∧ mHold M d j 9 (2 * (40 * d + j) + f) = M 5 (2 * j + f) := by
  rcases (show f = 0 ∨ f = 1 by omega) with rfl | rfl <;> simp [mHold, w2]
theorem mHold_n {M : kM2} {d j p : Nat} (h1 : p ≠ 2 * (40 * d + j)) (h2 : p ≠ 2 * (40 * d + j) + 1) : mHold M d j 8 p = M 8 p ∧ mHold M d j 9 p = M 9 p := by
  simp [mHold, w2, h1, h2]
theorem kS3.hold {s5 s6 s8 s5' s6' s8' : kR3} {n11 n11' : Nat → Nat → Nat} {nj nk : Nat} {m7 m8 m9 m7' m8' m9' : kR1} (h : kS3 s5 s6 s8 n11 nj m7 m8 m9) {d i : Nat} (hd : d < 4) (hi : i < 40) (hn : i < nk) (hk : nj ≤ nk) (h0 : s5 d i 0 = nI 0) (g : Nat → Int32)
    (a5 : s5' d i 0 = nI 1) (o5 : ∀ a b, ¬ (a = d ∧ b = i) → s5' a b 0 = s5 a b 0)
    (a6 : s6' d 0 0 = s6 d 0 0 + nI 1) (o6 : ∀ a, a ≠ d → s6' a 0 0 = s6 a 0 0)
    (a8 : ∀ j, j < 4 → s8' d i j = g j) (o8 : ∀ a b j, ¬ (a = d ∧ b = i) → s8' a b j = s8 a b j)
    (a11 : n11' d i ≠ 0) (o11 : ∀ a b, n11 a b ≠ 0 → n11' a b ≠ 0)
    (a7 : m7' (40 * d + i) = nI 1) (b7 : ∀ p, p ≠ 40 * d + i → m7' p = m7 p)
    (am : ∀ f, f < 2 → m8' (2 * (40 * d + i) + f) = g f ∧ m9' (2 * (40 * d + i) + f) = g (2 + f))
    (bm : ∀ p, p ≠ 2 * (40 * d + i) → p ≠ 2 * (40 * d + i) + 1 → m8' p = m8 p ∧ m9' p = m9 p) : kS3 s5' s6' s8' n11' nk m7' m8' m9' ∧ kcn (kHd m7' d) 40 = kcn (kHd m7 d) 40 + 1 := by
  have hc : kcn (kHd m7' d) 40 = kcn (kHd m7 d) 40 + 1 := by
    refine kcn_up (i := i) ⟨?_, ?_⟩ (fun j hj => ?_) hi
    · unfold kHd
      rw [((h d hd).2 i hi).1, h0]
      exact if_pos rfl
    · unfold kHd
      rw [a7]
      exact if_neg (by decide)
    · unfold kHd
      rw [b7 _ (by omega)]
  refine ⟨fun e he => ⟨?_, fun n hn2 => ?_⟩, hc⟩
  · by_cases e1 : e = d
    · subst e1
      rw [a6, (h e he).1, hc, nI_add]
    · rw [o6 e e1, (h e he).1]
      refine congrArg nI (kcn_cg fun j hj => ?_)
      unfold kHd
      rw [b7 _ (by omega)]
  · by_cases e1 : e = d ∧ n = i
    · obtain ⟨rfl, rfl⟩ := e1
      refine ⟨by rw [a7, a5], Or.inr ⟨a5, hn, a11, fun f hf => ?_⟩⟩
      rw [(am f hf).1, (am f hf).2, a8 f (by omega), a8 (2 + f) (by omega)]
      exact ⟨rfl, rfl⟩
    · rw [b7 _ (by omega), o5 e n e1]
      refine ⟨((h e he).2 n hn2).1, ?_⟩
      rcases ((h e he).2 n hn2).2 with z | ⟨z1, z2, z3, z4⟩
      · exact Or.inl z
      · refine Or.inr ⟨z1, by omega, o11 e n z3, fun f hf => ?_⟩
        rw [(bm _ (by omega) (by omega)).1, (bm _ (by omega) (by omega)).2, o8 e n _ e1, o8 e n _ e1]
        exact z4 f hf
theorem kS3.sH {S : kI4} {N : kN3} {nj nk : Nat} {m7 m8 m9 m7' m8' m9' : kR1} (h : kS3 (S 5) (S 6) (S 8) (N 11) nj m7 m8 m9) {d i : Nat} (hd : d < 4) (hi : i < 40) (hn : i < nk) (hk : nj ≤ nk) (h0 : S 5 d i 0 = nI 0) (g : Nat → Int32)
    (a7 : m7' (40 * d + i) = nI 1) (b7 : ∀ p, p ≠ 40 * d + i → m7' p = m7 p)
    (am : ∀ f, f < 2 → m8' (2 * (40 * d + i) + f) = g f ∧ m9' (2 * (40 * d + i) + f) = g (2 + f))
    (bm : ∀ p, p ≠ 2 * (40 * d + i) → p ≠ 2 * (40 * d + i) + 1 → m8' p = m8 p ∧ m9' p = m9 p) : kS3 (sHold S d i g 5) (sHold S d i g 6) (sHold S d i g 8) (nHold N d i 11) nk m7' m8' m9' ∧ kcn (kHd m7' d) 40 = kcn (kHd m7 d) 40 + 1 := by
  rw [sHold_e h0]
  refine h.hold hd hi hn hk h0 g ((w4_n (by omega)).trans w4_s) (fun a b z => (w4_n (by omega)).trans ((w4_n (by omega)).trans (sCopy_n (by omega)))) w4_s (fun a z => (w4_n (by omega)).trans ((w4_n (by omega)).trans (sCopy_n (by omega)))) (fun j hj => (w4_n (by omega)).trans ((w4_n (by omega)).trans (sCopy_s hj))) (fun a b j z => (w4_n (by omega)).trans ((w4_n (by omega)).trans (sCopy_n (by omega)))) ?_ (fun a b z => ?_) a7 b7 am bm
  · unfold nHold
    by_cases e : N 11 d i = 0
    · rw [if_pos e, w3_s]
      decide
    · rw [if_neg e]
      exact e
  · unfold nHold
    by_cases e : N 11 d i = 0
    · rw [if_pos e]
      by_cases e2 : a = d ∧ b = i
      · obtain ⟨rfl, rfl⟩ := e2
        rw [w3_s]
        decide
      · rw [w3_n (by omega)]
        exact z
    · rw [if_neg e]
      exact z
theorem kSim.drop {S : kI4} {N : kN3} {M : kM2} {Q : kQ2} (h : kSim S N M Q) {d : Nat} (hd : d < 4) : kSim (sDrop S d) N (mClr M d 40) Q ∧ kcn (kHd (mClr M d 40 7) d) 40 = 0 := by
  obtain ⟨h1, h2, h3, h4, h5, h6, h7⟩ := h
  have ec : ∀ k, k < 40 → mClr M d 40 7 (40 * d + k) = nI 0 := fun k hk => if_pos (by omega)
  have eo : ∀ e k, e ≠ d → k < 40 → mClr M d 40 7 (40 * e + k) = M 7 (40 * e + k) := fun e k he hk => if_neg (by omega)
  have hc : kcn (kHd (mClr M d 40 7) d) 40 = 0 := kcn_0 (fun k hk => by
    unfold kHd
    rw [ec k hk]
    exact if_pos rfl)
  refine ⟨⟨(by rw [sDrop_f (f := 1) (by decide), sDrop_f (f := 2) (by decide), sDrop_f (f := 3) (by decide), mClr_f (f := 2) (by decide), mClr_f (f := 3) (by decide), mClr_f (f := 4) (by decide), mClr_f (f := 5) (by decide)]; exact h1), (by rw [sDrop_f (f := 4) (by decide), mClr_f (f := 6) (by decide)]; exact h2), ?_, (by rw [sDrop_f (f := 7) (by decide), sDrop_f (f := 9) (by decide), sDrop_f (f := 10) (by decide), mClr_f (f := 11) (by decide), mClr_f (f := 12) (by decide), mClr_f (f := 13) (by decide)]; exact h4), (by rw [sDrop_f (f := 9) (by decide), sDrop_f (f := 11) (by decide), mClr_f (f := 15) (by decide), mClr_f (f := 16) (by decide), mClr_f (f := 17) (by decide), mClr_f (f := 18) (by decide), mClr_f (f := 19) (by decide), mClr_f (f := 20) (by decide)]; exact h5), (by rw [sDrop_f (f := 11) (by decide), mClr_f (f := 15) (by decide), mClr_f (f := 20) (by decide), mClr_f (f := 23) (by decide)]; exact h6), (by rw [sDrop_f (f := 12) (by decide), mClr_f (f := 24) (by decide)]; exact h7)⟩, hc⟩
  rw [sDrop_f (f := 8) (by decide), mClr_f (f := 8) (by decide), mClr_f (f := 9) (by decide)]
  intro e he
  refine ⟨?_, fun n hn => ?_⟩
  · by_cases e1 : e = d
    · subst e1
      rw [hc]
      exact w4_s
    · rw [show sDrop S d 6 e 0 0 = S 6 e 0 0 from (w4_n (by omega)).trans (sDr_n (by omega)), (h3 e he).1]
      refine congrArg nI (kcn_cg fun k hk => ?_)
      unfold kHd
      rw [eo e k e1 hk]
  · by_cases e1 : e = d
    · subst e1
      have e5 : sDrop S e 5 e n 0 = nI 0 := (w4_n (by omega)).trans (if_pos (by omega))
      rw [ec n hn, e5]
      exact ⟨rfl, Or.inl rfl⟩
    · rw [eo e n e1 hn, show sDrop S d 5 e n 0 = S 5 e n 0 from (w4_n (by omega)).trans (sDr_n (by omega))]
      exact (h3 e he).2 n hn
theorem kSim.hold {S : kI4} {N : kN3} {M : kM2} {Q : kQ2} (h : kSim S N M Q) {d i : Nat} (hd : d < 4) (hi : i < N 1 0 0) (h0 : S 5 d i 0 = nI 0) : kSim (sHold S d i (fun j => S 3 i 0 j)) (nHold N d i) (mHold M d i) Q ∧ kcn (kHd (mHold M d i 7) d) 40 = kcn (kHd (M 7) d) 40 + 1 := by
  obtain ⟨h1, h2, h3, h4, h5, h6, h7⟩ := h
  have hi4 : i < 40 := Nat.lt_of_lt_of_le hi h1.2.1
  have hf := (h1.2.2.1 i hi).2.2.2
  have k3 := kS3.sH (m7' := mHold M d i 7) (m8' := mHold M d i 8) (m9' := mHold M d i 9) h3 hd hi4 hi (Nat.le_refl _) h0 (fun j => S 3 i 0 j) mHold_7 (fun p z => mHold_7n z) (fun f hf2 => by
    rw [(mHold_m hf2).1, (mHold_m hf2).2]
    exact hf f hf2) (fun p z1 z2 => mHold_n z1 z2)
  refine ⟨⟨(by rw [sHold_f (f := 1) (by decide), sHold_f (f := 2) (by decide), sHold_f (f := 3) (by decide), nHold_f (f := 1) (by decide), mHold_f (f := 2) (by decide), mHold_f (f := 3) (by decide), mHold_f (f := 4) (by decide), mHold_f (f := 5) (by decide)]; exact h1), (by rw [sHold_f (f := 4) (by decide), mHold_f (f := 6) (by decide)]; exact h2), ?_, (by rw [sHold_f (f := 7) (by decide), sHold_f (f := 9) (by decide), sHold_f (f := 10) (by decide), nHold_f (f := 1) (by decide), nHold_f (f := 2) (by decide), nHold_f (f := 3) (by decide), mHold_f (f := 11) (by decide), mHold_f (f := 12) (by decide), mHold_f (f := 13) (by decide)]; exact h4), (by rw [sHold_f (f := 9) (by decide), sHold_f (f := 11) (by decide), nHold_f (f := 2) (by decide), nHold_f (f := 3) (by decide), nHold_f (f := 4) (by decide), mHold_f (f := 15) (by decide), mHold_f (f := 16) (by decide), mHold_f (f := 17) (by decide), mHold_f (f := 18) (by decide), mHold_f (f := 19) (by decide), mHold_f (f := 20) (by decide)]; exact h5), (by rw [sHold_f (f := 11) (by decide), nHold_f (f := 4) (by decide), nHold_f (f := 5) (by decide), nHold_f (f := 6) (by decide), mHold_f (f := 15) (by decide), mHold_f (f := 20) (by decide), mHold_f (f := 23) (by decide)]; exact h6), (by rw [sHold_f (f := 12) (by decide), mHold_f (f := 24) (by decide)]; exact h7)⟩, k3.2⟩
  rw [nHold_f (f := 1) (by decide)]
  exact k3.1
def kFe (S : kI4) (N : kN3) (Q : kQ2) (d ro : Nat) (q : kI4 × kN3) (r : kM2 × Nat) (P : Nat → Prop) : Prop := kSim q.1 q.2 r.1 Q ∧ q.2 1 0 0 = N 1 0 0 ∧ q.1 3 = S 3 ∧ q.1 2 = S 2 ∧ q.1 4 = S 4 ∧ r.2 + kcn (kHd (r.1 7) d) 40 = ro ∧ ∀ n, n < 40 → q.1 5 d n 0 ≠ nI 0 → P n
theorem kFe.step {S : kI4} {N : kN3} {Q : kQ2} {d ro : Nat} {q : kI4 × kN3} {r : kM2 × Nat} {P P' : Nat → Prop} (h : kFe S N Q d ro q r P) (hd : d < 4) (hro : S 4 d 0 0 = nI ro) (hr : ro ≤ 40) {z : Int32} {i : Nat} (hi : i < N 1 0 0) (hP : S 3 i 0 0 = z → ¬ P i) (hP1 : ∀ n, P n → P' n) (hP2 : S 3 i 0 0 = z → P' i) : kFe S N Q d ro (xCp q d z i) (mCp r d z i) P' := by
  obtain ⟨h1, h2, h3, h4, h5, h6, h7⟩ := h
  have hi4 : i < 40 := Nat.lt_of_lt_of_le hi (by rw [← h2]; exact h1.1.2.1)
  have a1 := h1.1.2.2.1 i (by rw [h2]; exact hi)
  have a2 : r.1 4 (2 * i) = q.1 3 i 0 0 := (a1.2.2.2 0 (by decide)).1
  have a3 : q.1 6 d 0 0 = nI (kcn (kHd (r.1 7) d) 40) := (h1.2.2.1 d hd).1
  have e : (q.1 6 d 0 0 < q.1 4 d 0 0 ∧ q.1 2 i 0 0 = nI d ∧ q.1 3 i 0 0 = z) ↔ (0 < r.2 ∧ r.1 2 i = nI d ∧ r.1 4 (2 * i) = z) := by
    rw [a2, a1.1, a3, h5, hro, nI_ltI (by omega) (by omega)]
    constructor
    · rintro ⟨x, y⟩
      exact ⟨by omega, y⟩
    · rintro ⟨x, y⟩
      exact ⟨by omega, y⟩
  unfold xCp mCp
  by_cases c : 0 < r.2 ∧ r.1 2 i = nI d ∧ r.1 4 (2 * i) = z
  · rw [if_pos (e.mpr c), if_pos c]
    have hz : S 3 i 0 0 = z := by
      rw [← h3, ← a2]
      exact c.2.2
    have h0 : q.1 5 d i 0 = nI 0 := by
      by_cases y : q.1 5 d i 0 = nI 0
      · exact y
      · exact absurd (h7 i hi4 y) (hP hz)
    obtain ⟨k1, k2⟩ := h1.hold hd (by rw [h2]; exact hi) h0
    refine ⟨k1, ?_, ?_, ?_, ?_, ?_, fun n hn hne => ?_⟩
    · show nHold q.2 d i 1 0 0 = _
      rw [nHold_f (by decide)]
      exact h2
    · exact (sHold_f (by decide)).trans h3
    · exact (sHold_f (by decide)).trans h4
    · exact (sHold_f (by decide)).trans h5
    · show r.2 - 1 + kcn (kHd (mHold r.1 d i 7) d) 40 = ro
      rw [k2]
      omega
    · by_cases y : n = i
      · subst y
        exact hP2 hz
      · refine hP1 n (h7 n hn fun w => hne ?_)
        show sHold q.1 d i (fun j => q.1 3 i 0 j) 5 d n 0 = nI 0
        rw [sHold_e h0]
        exact ((w4_n (by omega)).trans ((w4_n (by omega)).trans (sCopy_n (by omega)))).trans w
  · rw [if_neg (fun x => c (e.mp x)), if_neg c]
    exact ⟨h1, h2, h3, h4, h5, h6, fun n hn hne => hP1 n (h7 n hn hne)⟩
theorem kFe.run {S : kI4} {N : kN3} {Q : kQ2} {d ro : Nat} {q : kI4 × kN3} {r : kM2 × Nat} {P : Nat → Prop} (h : kFe S N Q d ro q r P) (hd : d < 4) (hro : S 4 d 0 0 = nI ro) (hr : ro ≤ 40) {z : Int32} (hP : ∀ n, S 3 n 0 0 = z → ¬ P n) : ∀ i, i ≤ N 1 0 0 → kFe S N Q d ro (xCps q d z i) (mCps r d z i) (fun n => P n ∨ (S 3 n 0 0 = z ∧ n < i))
  | 0, _ => by
    obtain ⟨h1, h2, h3, h4, h5, h6, h7⟩ := h
    exact ⟨h1, h2, h3, h4, h5, h6, fun n hn hne => Or.inl (h7 n hn hne)⟩
  | i + 1, hi => by
    refine (kFe.run h hd hro hr hP i (by omega)).step hd hro hr (by omega) (fun hz => ?_) (fun n hn => ?_) (fun hz => Or.inr ⟨hz, by omega⟩)
    · rintro (y | y)
      · exact hP i hz y
      · exact absurd y.2 (Nat.lt_irrefl _)
    · rcases hn with y | y
      · exact Or.inl y
      · exact Or.inr ⟨y.1, by omega⟩
theorem kSim.fetch {S : kI4} {N : kN3} {M : kM2} {Q : kQ2} (h : kSim S N M Q) {d : Nat} (hd : d < 4) {ro : Nat} (hr : ro ≤ 40) (hm : M 6 d = nI ro) : kSim (xFetch (S, N) d).1 (xFetch (S, N) d).2 (mFe M d ro (Q 1 0)).1 Q := by
  have hro : S 4 d 0 0 = nI ro := by
    rw [← (h.2.1 d hd).1]
    exact hm
  obtain ⟨k1, k2⟩ := h.drop hd
  have hq : Q 1 0 = N 1 0 0 := h.1.1
  have g0 : kFe S N Q d ro (sDrop S d, N) (mClr M d 40, ro) (fun _ => False) := by
    refine ⟨k1, rfl, sDrop_f (S := S) (d := d) (f := 3) (by decide), sDrop_f (S := S) (d := d) (f := 2) (by decide), sDrop_f (S := S) (d := d) (f := 4) (by decide), ?_, fun n hn hne => hne ?_⟩
    · show ro + kcn (kHd (mClr M d 40 7) d) 40 = ro
      rw [k2]
      rfl
    · exact (show sDrop S d 5 d n 0 = nI 0 from (w4_n (by omega)).trans (if_pos (by omega)))
  have g1 := g0.run hd hro hr (z := nI 1) (fun _ _ z => z) (N 1 0 0) (Nat.le_refl _)
  have g2 := g1.run hd hro hr (z := nI 0) (fun n hz => by
    rintro (y | y)
    · exact y
    · rw [hz] at y
      exact absurd y.1 (by decide)) (N 1 0 0) (Nat.le_refl _)
  have g3 := g2.run hd hro hr (z := nI 2) (fun n hz => by
    rintro ((y | y) | y)
    · exact y
    · rw [hz] at y
      exact absurd y.1 (by decide)
    · rw [hz] at y
      exact absurd y.1 (by decide)) (N 1 0 0) (Nat.le_refl _)
  rw [hq]
  exact g3.1
/-- what is held: a row of 0 and 1 -/
def kZ (M : kM2) : Prop := ∀ p, M 7 p = nI 0 ∨ M 7 p = nI 1
theorem kZ.of {M M' : kM2} (h : kZ M) (e : M' 7 = M 7) : kZ M' := fun p => by
  rw [e]
  exact h p
theorem kZ.hold {M : kM2} (h : kZ M) {d j : Nat} : kZ (mHold M d j) := fun p => by
  by_cases e : p = 40 * d + j
  · subst e
    exact Or.inr mHold_7
  · rw [mHold_7n e]
    exact h p
theorem kZ.clr {M : kM2} (h : kZ M) {d n : Nat} : kZ (mClr M d n) := fun p => by
  unfold mClr
  by_cases e : 7 = 7 ∧ 40 * d ≤ p ∧ p < 40 * d + n
  · rw [if_pos e]
    exact Or.inl rfl
  · rw [if_neg e]
    exact h p
theorem kZ.cps {q : kM2 × Nat} (h : kZ q.1) {d : Nat} {z : Int32} : ∀ i, kZ (mCps q d z i).1
  | 0 => h
  | i + 1 => by
    have ih := kZ.cps h (d := d) (z := z) i
    show kZ (mCp (mCps q d z i) d z i).1
    unfold mCp
    by_cases c : 0 < (mCps q d z i).2 ∧ (mCps q d z i).1 2 i = nI d ∧ (mCps q d z i).1 4 (2 * i) = z
    · rw [if_pos c]
      exact ih.hold
    · rw [if_neg c]
      exact ih
theorem kZ.fetch {M : kM2} (h : kZ M) {d ro n : Nat} : kZ (mFe M d ro n).1 := ((h.clr.cps (q := (mClr M d 40, ro)) n).cps n).cps n
