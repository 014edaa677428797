theorem sAddJ_f {S : kI4} {n : Nat} {cr si : Int32} {f : Nat} (h : f ≠ 1 ∧ f ≠ 2 ∧ f ≠ 3) : sAddJ S n cr si f = S f := by
  funext a b c
  exact sAddJ_n (by omega)

theorem sPut_f {S : kI4} {fS a b : Nat} {g x : Int32} {f : Nat} (h : f ≠ fS) : sPut S fS a b g x f = S f := by
  funext a b c
  exact sPut_n (by omega)

theorem nAddJ_f {N : kN3} {f : Nat} (h : f ≠ 1) : nAddJ N f = N f := by
  exact w3_f h

theorem mLay_f {M : kM2} {i g : Nat} {x : Int32} {f : Nat} (h : f ≠ 4 ∧ f ≠ 5) : mLay M i g x f = M f := by
  unfold mLay
  rw [w2_f h.2, w2_f h.1]

theorem kS3.mono {s5 s6 s8 : kR3} {n11 : Nat → Nat → Nat} {nj nk : Nat} {m7 m8 m9 : kR1} (h : kS3 s5 s6 s8 n11 nj m7 m8 m9) (hn : nj ≤ nk) : kS3 s5 s6 s8 n11 nk m7 m8 m9 := by
  intro d hd
  refine ⟨(h d hd).1, fun n hn2 => ⟨((h d hd).2 n hn2).1, ?_⟩⟩
  rcases ((h d hd).2 n hn2).2 with z | z
  · exact Or.inl z
  · exact Or.inr ⟨z.1, Nat.lt_of_lt_of_le z.2.1 hn, z.2.2⟩
theorem kS4.mono {s7 s9 s10 : kR3} {nj nk : Nat} {n2 n3 : Nat → Nat → Nat} {m11 m12 m13 : kR1} {q10 : Nat → Nat} (h : kS4 s7 s9 s10 nj n2 n3 m11 m12 m13 q10) (hn : nj ≤ nk) : kS4 s7 s9 s10 nk n2 n3 m11 m12 m13 q10 := by
  intro d hd
  obtain ⟨h1, h2, h3, h4, h5⟩ := h d hd
  refine ⟨h1, h2, h3, fun k hk => ⟨(h4 k hk).1, ?_, (h4 k hk).2.2⟩, h5⟩
  rcases (h4 k hk).2.1 with z | ⟨j, z1, z2⟩
  · exact Or.inl z
  · exact Or.inr ⟨j, by omega, z2⟩
theorem kS1.add {s1 s2 s3 s1' s2' s3' : kR3} {nj : Nat} {m2 m3 m4 m5 m2' m3' : kR1} {qj : Nat} (h : kS1 s1 s2 s3 nj m2 m3 m4 m5 qj) (hn : nj < 40) {cr si : Int32} (o : ∀ i, i ≠ nj → s1' i 0 0 = s1 i 0 0 ∧ s2' i 0 0 = s2 i 0 0 ∧ (∀ j, s3' i 0 j = s3 i 0 j) ∧ m2' i = m2 i ∧ m3' i = m3 i) (a : s1' nj 0 0 = si ∧ s2' nj 0 0 = cr ∧ (∀ j, j < 4 → s3' nj 0 j = nI 0) ∧ m2' nj = cr ∧ m3' nj = si) : kS1 s1' s2' s3' (nj + 1) m2' m3' m4 m5 (qj + 1) := by
  obtain ⟨h1, h2, h3, h4⟩ := h
  refine ⟨by rw [h1], hn, fun i hi => ?_, fun i hi hi2 => h4 i (by omega) hi2⟩
  by_cases e : i = nj
  · subst e
    obtain ⟨a1, a2, a3, a4, a5⟩ := a
    refine ⟨by rw [a4, a2], by rw [a5, a1], by rw [a3 0 (by decide)]; exact ⟨by decide, by decide⟩, fun f hf => ?_⟩
    rw [a3 f (by omega), a3 (2 + f) (by omega)]
    exact h4 i (Nat.le_refl _) hn f hf
  · obtain ⟨o1, o2, o3, o4, o5⟩ := o i e
    obtain ⟨b1, b2, b3, b4⟩ := h3 i (by omega)
    refine ⟨by rw [o4, o2, b1], by rw [o5, o1, b2], by rw [o3]; exact b3, fun f hf => ?_⟩
    rw [o3, o3]
    exact b4 f hf
theorem kS1.fld {s1 s2 s3 s3' : kR3} {nj : Nat} {m2 m3 m4 m5 m4' m5' : kR1} {qj i : Nat} (h : kS1 s1 s2 s3 nj m2 m3 m4 m5 qj) (hi : i < nj) (oS : ∀ a, a ≠ i → ∀ j, s3' a 0 j = s3 a 0 j) (oM : ∀ p, p ≠ 2 * i → p ≠ 2 * i + 1 → m4' p = m4 p ∧ m5' p = m5 p) (hv : kin (s3' i 0 0) (nI 0) (nI 2)) (hf : ∀ f, f < 2 → m4' (2 * i + f) = s3' i 0 f ∧ m5' (2 * i + f) = s3' i 0 (2 + f)) : kS1 s1 s2 s3' nj m2 m3 m4' m5' qj := by
  obtain ⟨h1, h2, h3, h4⟩ := h
  refine ⟨h1, h2, fun a ha => ?_, fun a ha ha2 f hf2 => ?_⟩
  · obtain ⟨b1, b2, b3, b4⟩ := h3 a ha
    by_cases e : a = i
    · subst e
      exact ⟨b1, b2, hv, hf⟩
    · refine ⟨b1, b2, by rw [oS a e]; exact b3, fun f hf2 => ?_⟩
      rw [(oM (2 * a + f) (by omega) (by omega)).1, (oM (2 * a + f) (by omega) (by omega)).2, oS a e, oS a e]
      exact b4 f hf2
  · rw [(oM (2 * a + f) (by omega) (by omega)).1, (oM (2 * a + f) (by omega) (by omega)).2]
    exact h4 a ha ha2 f hf2
theorem sPut_v {S : kI4} {fS a b f0 : Nat} {x : Int32} (h0 : f0 ≤ 1) {f : Nat} (hf : f < 2) : sPut S fS a b (nI f0) x fS a b f = (if f = f0 then x else S fS a b f) ∧ sPut S fS a b (nI f0) x fS a b (2 + f) = (if f = f0 then S fS a b (2 + f) + nI 1 else S fS a b (2 + f)) := by
  rcases (show f0 = 0 ∨ f0 = 1 by omega) with rfl | rfl <;> rcases (show f = 0 ∨ f = 1 by omega) with rfl | rfl <;> constructor <;> simp [sPut, w4, show ¬ nI 1 = nI 0 by decide, show (1 : Int32) = nI 1 by decide]
/-- rows of fields, one more writing at place p -/
theorem w2_v {M : kM2} {a c p f0 : Nat} {x y : Int32} (hac : a ≠ c) (h0 : f0 ≤ 1) {f : Nat} (hf : f < 2) : w2 (w2 M a (2 * p + f0) x) c (2 * p + f0) y a (2 * p + f) = (if f = f0 then x else M a (2 * p + f)) ∧ w2 (w2 M a (2 * p + f0) x) c (2 * p + f0) y c (2 * p + f) = (if f = f0 then y else M c (2 * p + f)) := by
  by_cases e : f = f0
  · subst e
    rw [if_pos rfl, if_pos rfl, w2_a hac, w2_s, w2_s]
    exact ⟨rfl, rfl⟩
  · rw [if_neg e, if_neg e, w2_a hac, w2_i (by omega), w2_i (by omega), w2_a hac.symm]
    exact ⟨rfl, rfl⟩
theorem kSim.add {S : kI4} {N : kN3} {M : kM2} {Q : kQ2} (h : kSim S N M Q) {cr si : Int32} (hn : N 1 0 0 < 40) : kSim (sAddJ S (N 1 0 0) cr si) (nAddJ N) (w2 (w2 M 2 (Q 1 0) cr) 3 (Q 1 0) si) (w2 Q 1 0 (Q 1 0 + 1)) := by
  obtain ⟨h1, h2, h3, h4, h5, h6, h7⟩ := h
  have e1 : nAddJ N 1 0 0 = N 1 0 0 + 1 := w3_s
  refine ⟨?_, (by rw [sAddJ_f (f := 4) (by decide), w2_f (b := 6) (by decide)]; exact h2), ?_, ?_, (by rw [sAddJ_f (f := 9) (by decide), sAddJ_f (f := 11) (by decide), nAddJ_f (f := 2) (by decide), nAddJ_f (f := 3) (by decide), nAddJ_f (f := 4) (by decide), w2_f (b := 15) (by decide), w2_f (b := 16) (by decide), w2_f (b := 17) (by decide), w2_f (b := 18) (by decide), w2_f (b := 19) (by decide), w2_f (b := 20) (by decide), w2_f (b := 14) (by decide)]; exact h5), (by rw [sAddJ_f (f := 11) (by decide), nAddJ_f (f := 4) (by decide), nAddJ_f (f := 5) (by decide), nAddJ_f (f := 6) (by decide), w2_f (b := 15) (by decide), w2_f (b := 20) (by decide), w2_f (b := 23) (by decide), w2_f (b := 14) (by decide), w2_f (b := 21) (by decide), w2_f (b := 22) (by decide)]; exact h6), (by rw [sAddJ_f (f := 12) (by decide), w2_f (b := 24) (by decide)]; exact h7)⟩
  · have hq : Q 1 0 = N 1 0 0 := h1.1
    rw [e1, w2_s, w2_f (b := 4) (show 4 ≠ 3 by decide), w2_f (b := 4) (show 4 ≠ 2 by decide), w2_f (b := 5) (show 5 ≠ 3 by decide), w2_f (b := 5) (show 5 ≠ 2 by decide)]
    rw [hq] at h1 ⊢
    exact h1.add (cr := cr) (si := si) hn (fun i hi => ⟨sAddJ_n (by omega), sAddJ_n (by omega), fun j => sAddJ_n (by omega), (w2_a (by decide)).trans (w2_i hi), w2_i hi⟩) ⟨by simp [sAddJ], by simp [sAddJ], fun j hj => by simp [sAddJ, hj], (w2_a (by decide)).trans w2_s, w2_s⟩
  · rw [e1, sAddJ_f (f := 5) (by decide), sAddJ_f (f := 6) (by decide), sAddJ_f (f := 8) (by decide), nAddJ_f (f := 11) (by decide), w2_f (b := 7) (by decide), w2_f (b := 8) (by decide), w2_f (b := 9) (by decide)]
    exact h3.mono (Nat.le_succ _)
  · rw [e1, sAddJ_f (f := 7) (by decide), sAddJ_f (f := 9) (by decide), sAddJ_f (f := 10) (by decide), nAddJ_f (f := 2) (by decide), nAddJ_f (f := 3) (by decide), w2_f (b := 11) (by decide), w2_f (b := 12) (by decide), w2_f (b := 13) (by decide), w2_f (b := 10) (by decide)]
    exact h4.mono (Nat.le_succ _)
theorem kSim.give {S : kI4} {N : kN3} {M : kM2} {Q : kQ2} (h : kSim S N M Q) {cr : Int32} {i : Nat} (hi : i < N 1 0 0) : kSim (w4 S 2 i 0 0 cr) N (w2 M 2 i cr) Q := by
  obtain ⟨h1, h2, h3, h4, h5, h6, h7⟩ := h
  refine ⟨?_, (by rw [w4_f (f' := 4) (by decide), w2_f (b := 6) (by decide)]; exact h2), (by rw [w4_f (f' := 5) (by decide), w4_f (f' := 6) (by decide), w4_f (f' := 8) (by decide), w2_f (b := 7) (by decide), w2_f (b := 8) (by decide), w2_f (b := 9) (by decide)]; exact h3), (by rw [w4_f (f' := 7) (by decide), w4_f (f' := 9) (by decide), w4_f (f' := 10) (by decide), w2_f (b := 11) (by decide), w2_f (b := 12) (by decide), w2_f (b := 13) (by decide)]; exact h4), (by rw [w4_f (f' := 9) (by decide), w4_f (f' := 11) (by decide), w2_f (b := 15) (by decide), w2_f (b := 16) (by decide), w2_f (b := 17) (by decide), w2_f (b := 18) (by decide), w2_f (b := 19) (by decide), w2_f (b := 20) (by decide)]; exact h5), (by rw [w4_f (f' := 11) (by decide), w2_f (b := 15) (by decide), w2_f (b := 20) (by decide), w2_f (b := 23) (by decide)]; exact h6), (by rw [w4_f (f' := 12) (by decide), w2_f (b := 24) (by decide)]; exact h7)⟩
  rw [w4_f (f' := 1) (by decide), w4_f (f' := 3) (by decide), w2_f (b := 3) (by decide), w2_f (b := 4) (by decide), w2_f (b := 5) (by decide)]
  obtain ⟨b1, b2, b3, b4⟩ := h1
  refine ⟨b1, b2, fun a ha => ⟨?_, (b3 a ha).2⟩, b4⟩
  by_cases e : a = i
  · subst e
    rw [w2_s, w4_s]
  · rw [w2_i e, w4_n (by omega)]
    exact (b3 a ha).1
theorem kSim.set {S : kI4} {N : kN3} {M : kM2} {Q : kQ2} (h : kSim S N M Q) {x : Int32} {i f0 : Nat} (hi : i < N 1 0 0) (hf0 : f0 ≤ 1) (hx : f0 = 0 → kin x (nI 0) (nI 2)) : kSim (sPut S 3 i 0 (nI f0) x) N (mLay M i f0 x) Q := by
  obtain ⟨h1, h2, h3, h4, h5, h6, h7⟩ := h
  refine ⟨?_, (by rw [sPut_f (f := 4) (by decide), mLay_f (f := 6) (by decide)]; exact h2), (by rw [sPut_f (f := 5) (by decide), sPut_f (f := 6) (by decide), sPut_f (f := 8) (by decide), mLay_f (f := 7) (by decide), mLay_f (f := 8) (by decide), mLay_f (f := 9) (by decide)]; exact h3), (by rw [sPut_f (f := 7) (by decide), sPut_f (f := 9) (by decide), sPut_f (f := 10) (by decide), mLay_f (f := 11) (by decide), mLay_f (f := 12) (by decide), mLay_f (f := 13) (by decide)]; exact h4), (by rw [sPut_f (f := 9) (by decide), sPut_f (f := 11) (by decide), mLay_f (f := 15) (by decide), mLay_f (f := 16) (by decide), mLay_f (f := 17) (by decide), mLay_f (f := 18) (by decide), mLay_f (f := 19) (by decide), mLay_f (f := 20) (by decide)]; exact h5), (by rw [sPut_f (f := 11) (by decide), mLay_f (f := 15) (by decide), mLay_f (f := 20) (by decide), mLay_f (f := 23) (by decide)]; exact h6), (by rw [sPut_f (f := 12) (by decide), mLay_f (f := 24) (by decide)]; exact h7)⟩
  rw [sPut_f (f := 1) (by decide), sPut_f (f := 2) (by decide), mLay_f (f := 2) (by decide), mLay_f (f := 3) (by decide)]
  refine h1.fld hi (fun a ha j => sPut_n (by omega)) (fun p hp hp2 => ?_) ?_ (fun f hf => ?_)
  · unfold mLay
    exact ⟨(w2_a (by decide)).trans (w2_i (by omega)), (w2_i (by omega)).trans (w2_a (by decide))⟩
  · have e := (sPut_v (S := S) (fS := 3) (a := i) (b := 0) (x := x) hf0 (f := 0) (by decide)).1
    rw [e]
    by_cases z : 0 = f0
    · rw [if_pos z]
      exact hx z.symm
    · rw [if_neg z]
      exact (h1.2.2.1 i hi).2.2.1
  · have e := sPut_v (S := S) (fS := 3) (a := i) (b := 0) (x := x) hf0 hf
    have e2 := w2_v (M := M) (a := 4) (c := 5) (p := i) (x := x) (y := M 5 (2 * i + f0) + nI 1) (by decide) hf0 hf
    have e3 := (h1.2.2.1 i hi).2.2.2 f hf
    unfold mLay
    rw [e.1, e.2, e2.1, e2.2, e3.1, e3.2]
    by_cases z : f = f0
    · subst z
      rw [if_pos rfl, if_pos rfl, if_pos rfl, e3.2]
      exact ⟨rfl, rfl⟩
    · rw [if_neg z, if_neg z, if_neg z]
      exact ⟨rfl, rfl⟩
theorem kSim.room {S : kI4} {N : kN3} {M : kM2} {Q : kQ2} (h : kSim S N M Q) {ro : Int32} {d : Nat} (hr : kin ro (nI 0) (nI 40)) : kSim (w4 S 4 d 0 0 ro) N (w2 M 6 d ro) Q := by
  obtain ⟨h1, h2, h3, h4, h5, h6, h7⟩ := h
  refine ⟨(by rw [w4_f (f' := 1) (by decide), w4_f (f' := 2) (by decide), w4_f (f' := 3) (by decide), w2_f (b := 2) (by decide), w2_f (b := 3) (by decide), w2_f (b := 4) (by decide), w2_f (b := 5) (by decide)]; exact h1), ?_, (by rw [w4_f (f' := 5) (by decide), w4_f (f' := 6) (by decide), w4_f (f' := 8) (by decide), w2_f (b := 7) (by decide), w2_f (b := 8) (by decide), w2_f (b := 9) (by decide)]; exact h3), (by rw [w4_f (f' := 7) (by decide), w4_f (f' := 9) (by decide), w4_f (f' := 10) (by decide), w2_f (b := 11) (by decide), w2_f (b := 12) (by decide), w2_f (b := 13) (by decide)]; exact h4), (by rw [w4_f (f' := 9) (by decide), w4_f (f' := 11) (by decide), w2_f (b := 15) (by decide), w2_f (b := 16) (by decide), w2_f (b := 17) (by decide), w2_f (b := 18) (by decide), w2_f (b := 19) (by decide), w2_f (b := 20) (by decide)]; exact h5), (by rw [w4_f (f' := 11) (by decide), w2_f (b := 15) (by decide), w2_f (b := 20) (by decide), w2_f (b := 23) (by decide)]; exact h6), (by rw [w4_f (f' := 12) (by decide), w2_f (b := 24) (by decide)]; exact h7)⟩
  intro a ha
  by_cases e : a = d
  · subst e
    rw [w2_s, w4_s]
    exact ⟨rfl, hr⟩
  · rw [w2_i e, w4_n (by omega)]
    exact h2 a ha
