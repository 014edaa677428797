theorem sAct_f {S : kI4} {d k : Nat} {a b c e g : Int32} {f : Nat} (h : f ≠ 11) : sAct S d k a b c e g f = S f := by
  funext x y z
  exact sAct_n (by omega)
theorem sAct_v {S : kI4} {d k : Nat} {a b c e g : Int32} : sAct S d k a b c e g 11 d k 0 = a ∧ sAct S d k a b c e g 11 d k 1 = b ∧ sAct S d k a b c e g 11 d k 2 = c ∧ sAct S d k a b c e g 11 d k 3 = e := by
  simp [sAct]
def mNt (M : kM2) (q : Nat) (v j f x y : Int32) : kM2 := w2 (w2 (w2 (w2 (w2 M 15 q v) 16 q j) 17 q f) 18 q x) 19 q y
theorem mNt_f {M : kM2} {q : Nat} {v j g x y : Int32} {f : Nat} (h : f ≠ 15 ∧ f ≠ 16 ∧ f ≠ 17 ∧ f ≠ 18 ∧ f ≠ 19) : mNt M q v j g x y f = M f := by
  unfold mNt
  rw [w2_f h.2.2.2.2, w2_f h.2.2.2.1, w2_f h.2.2.1, w2_f h.2.1, w2_f h.1]
theorem mNt_s {M : kM2} {q : Nat} {v j g x y : Int32} : mNt M q v j g x y 15 q = v ∧ mNt M q v j g x y 16 q = j ∧ mNt M q v j g x y 17 q = g ∧ mNt M q v j g x y 18 q = x ∧ mNt M q v j g x y 19 q = y := by
  simp [mNt, w2]
theorem mNt_n {M : kM2} {q : Nat} {v j g x y : Int32} {a p : Nat} (h : p ≠ q) : mNt M q v j g x y a p = M a p := by
  unfold mNt
  rw [w2_i h, w2_i h, w2_i h, w2_i h, w2_i h]
theorem kSim.n3 {S : kI4} {N : kN3} {M : kM2} {Q : kQ2} (h : kSim S N M Q) : ∀ e, e < 4 → N 3 e 0 ≤ Q 14 0 := fun e he => by
  rw [(h.2.2.2.2.1.2.1 e he).1]
  exact kcn_le (fun _ => kdv_le) _
theorem kSim.n2 {S : kI4} {N : kN3} {M : kM2} {Q : kQ2} (h : kSim S N M Q) : ∀ e, e < 4 → N 2 e 0 ≤ Q 14 0 := fun e he => Nat.le_trans (h.2.2.2.1 e he).2.1 (h.n3 e he)
theorem kSim.q14 {S : kI4} {N : kN3} {M : kM2} {Q : kQ2} (h : kSim S N M Q) : Q 14 0 ≤ 512 := h.2.2.2.2.1.1
theorem kS5.act {s9 s9' s11 s11' : kR3} {n2 n2' n3 n3' n4 : Nat → Nat → Nat} {m15 m16 m17 m18 m19 m20 m15' m16' m17' m18' m19' : kR1} {q : Nat} (h : kS5 s9 s11 n2 n3 n4 m15 m16 m17 m18 m19 m20 q) (hq : q < 512) {d : Nat} (hd : d < 4)
    (o9 : ∀ a k, a < 4 → k < n2 a 0 → s9' a k 0 = s9 a k 0)
    (o11 : ∀ a b j, ¬ (a = d ∧ b = n3 d 0) → s11' a b j = s11 a b j)
    (o2 : ∀ a, a < 4 → n2 a 0 ≤ n2' a 0)
    (a3 : n3' d 0 = n3 d 0 + 1) (o3 : ∀ a, a ≠ d → n3' a 0 = n3 a 0)
    (om : ∀ g, g ≠ q → m15' g = m15 g ∧ m16' g = m16 g ∧ m17' g = m17 g ∧ m18' g = m18 g ∧ m19' g = m19 g)
    (a15 : m15' q = nI d)
    (hA : kAc s9' s11' n2' n4 m16' m17' m18' m19' m20 d q (n3 d 0))
    (hu : m17' q = -1 → ∀ g, g < q → m15 g = nI d → m17 g = -1 → m16 g ≠ m16' q) : kS5 s9' s11' n2' n3' n4 m15' m16' m17' m18' m19' m20 (q + 1) := by
  obtain ⟨h1, h2, h3, h4, h5⟩ := h
  have hk : ∀ e g, g ≤ q → kcn (kDv m15' e) g = kcn (kDv m15 e) g := fun e g hg => kcn_cg fun i hi => by
    unfold kDv
    rw [(om i (by omega)).1]
  have hk1 : ∀ e, e < 4 → kcn (kDv m15' e) (q + 1) = kcn (kDv m15 e) q + (if e = d then 1 else 0) := fun e he => by
    show kcn (kDv m15' e) q + kDv m15' e q = _
    rw [hk e q (Nat.le_refl _)]
    refine congrArg (fun z => kcn (kDv m15 e) q + z) ?_
    unfold kDv
    rw [a15]
    by_cases z : e = d
    · rw [if_pos z, if_pos (by rw [z])]
    · rw [if_neg z, if_neg (fun w => z (nI_d w hd he).symm)]
  refine ⟨hq, fun e he => ?_, fun g hg => ?_, fun g g2 hg hg2 u1 u2 u3 u4 => ?_, fun g hg => h5 g (by omega)⟩
  · rw [hk1 e he, ← (h2 e he).1]
    by_cases z : e = d
    · subst z
      rw [if_pos rfl, a3]
      exact ⟨rfl, Nat.le_succ_of_le (h2 e he).2⟩
    · rw [if_neg z, o3 e z]
      exact ⟨rfl, (h2 e he).2⟩
  · by_cases z : g = q
    · subst z
      refine ⟨d, hd, a15, ?_⟩
      rw [hk d g (Nat.le_refl _), ← (h2 d hd).1]
      exact hA
    · obtain ⟨e, he, b1, b2⟩ := h3 g (by omega)
      obtain ⟨o15, o16, o17, o18, o19⟩ := om g z
      refine ⟨e, he, by rw [o15]; exact b1, ?_⟩
      rw [hk e g (by omega)]
      have hj : kcn (kDv m15 e) g < n3 e 0 := by
        rw [(h2 e he).1]
        exact kcn_lt (by omega) (if_pos b1)
      obtain ⟨c1, c2, c3, c4, c5⟩ := b2
      have o11' : ∀ j, s11' e (kcn (kDv m15 e) g) j = s11 e (kcn (kDv m15 e) g) j := fun j => o11 e _ j (fun w => by
        obtain ⟨w1, w2⟩ := w
        rw [← w1] at w2
        omega)
      refine ⟨by rw [o17, o11']; exact c1, by rw [o18, o11']; exact c2, by rw [o19, o11']; exact c3, c4, ?_⟩
      rcases c5 with ⟨d1, k, d2, d3, d4, d5⟩ | ⟨d1, d2, d3⟩
      · exact Or.inl ⟨by rw [o17]; exact d1, k, Nat.lt_of_lt_of_le d2 (o2 e he), by rw [o16]; exact d3, by rw [o11']; exact d4, fun w => by rw [o9 e k he d2]; exact d5 w⟩
      · refine Or.inr ⟨by rw [o17]; exact d1, fun w => ?_, ?_⟩
        · rw [o18]
          rw [o17] at w
          exact d2 w
        · rcases d3 with e1 | ⟨k, e1, e2, e3, e4⟩
          · exact Or.inl (by rw [o16, o11']; exact e1)
          · exact Or.inr ⟨k, Nat.lt_of_lt_of_le e1 (o2 e he), by rw [o11']; exact e2, by rw [o9 e k he e1]; exact e3, by rw [o16, o9 e k he e1]; exact e4⟩
  · by_cases z : g = q
    · by_cases z2 : g2 = q
      · omega
      · subst z
        obtain ⟨o15, o16, o17, o18, o19⟩ := om g2 z2
        exact absurd (by rw [← o16]; exact u4.symm) (hu u1 g2 (by omega) (by rw [← o15, ← u3]; exact a15) (by rw [← o17]; exact u2))
    · obtain ⟨o15, o16, o17, o18, o19⟩ := om g z
      by_cases z2 : g2 = q
      · subst z2
        exact absurd (by rw [← o16]; exact u4) (hu u2 g (by omega) (by rw [← o15, u3]; exact a15) (by rw [← o17]; exact u1))
      · obtain ⟨p15, p16, p17, p18, p19⟩ := om g2 z2
        exact h4 g g2 (by omega) (by omega) (by rw [← o17]; exact u1) (by rw [← p17]; exact u2) (by rw [← o15, ← p15]; exact u3) (by rw [← o16, ← p16]; exact u4)
theorem kS6.act {s11 s11' : kR3} {n3 n4 n5 n6 : Nat → Nat → Nat} {m15 m15' m20 m23 : kR1} {q q21 : Nat} {q22 : Nat → Nat} (h : kS6 s11 n4 n5 n6 m15 m20 m23 q q21 q22) {d : Nat} (hn : ∀ e, e < 4 → n4 e 0 ≤ n3 e 0) (o11 : ∀ a b j, ¬ (a = d ∧ b = n3 d 0) → s11' a b j = s11 a b j) (om : ∀ g, g ≠ q → m15' g = m15 g) : kS6 s11' n4 n5 n6 m15' m20 m23 (q + 1) q21 q22 := by
  obtain ⟨h1, h2, h3⟩ := h
  have e22 : ∀ r, r < q21 → m15' (q22 r) = m15 (q22 r) := fun r hr => om _ (by have := (h3 r hr).1; omega)
  have hk : ∀ e r, r ≤ q21 → kcn (kRf m15' q22 e) r = kcn (kRf m15 q22 e) r := fun e r hr => kcn_cg fun i hi => by
    unfold kRf
    rw [e22 i (by omega)]
  have hv : ∀ e g, g ≤ q → kcn (kDv m15' e) g = kcn (kDv m15 e) g := fun e g hg => kcn_cg fun i hi => by
    unfold kDv
    rw [om i (by omega)]
  refine ⟨Nat.le_trans h1 (kcn_mono (Nat.le_succ _)), fun e he => by rw [hk e q21 (Nat.le_refl _)]; exact h2 e he, fun r hr => ⟨by have := (h3 r hr).1; omega, fun e he hm => ?_⟩⟩
  rw [e22 r hr] at hm
  have b := (h3 r hr).2 e he hm
  have b1 := (h3 r hr).1
  rw [hk e r (by omega), hv e (q22 r) (by omega), o11 e _ 4 (fun w => by
    obtain ⟨w1, w2⟩ := w
    rw [← w1] at w2
    have := hn e he
    omega)]
  exact b
theorem kS3.put {s5 s6 s8 s8' : kR3} {n11 : Nat → Nat → Nat} {nj : Nat} {m7 m8 m9 m8' m9' : kR1} (h : kS3 s5 s6 s8 n11 nj m7 m8 m9) {d n : Nat} (hn : n < 40) (o8 : ∀ a b j, ¬ (a = d ∧ b = n) → s8' a b j = s8 a b j) (bm : ∀ p, p ≠ 2 * (40 * d + n) → p ≠ 2 * (40 * d + n) + 1 → m8' p = m8 p ∧ m9' p = m9 p) (hf : (∀ f, f < 2 → m8 (2 * (40 * d + n) + f) = s8 d n f ∧ m9 (2 * (40 * d + n) + f) = s8 d n (2 + f)) → ∀ f, f < 2 → m8' (2 * (40 * d + n) + f) = s8' d n f ∧ m9' (2 * (40 * d + n) + f) = s8' d n (2 + f)) : kS3 s5 s6 s8' n11 nj m7 m8' m9' := by
  intro e he
  refine ⟨(h e he).1, fun k hk => ⟨((h e he).2 k hk).1, ?_⟩⟩
  rcases ((h e he).2 k hk).2 with z | ⟨z1, z2, z3, z4⟩
  · exact Or.inl z
  · refine Or.inr ⟨z1, z2, z3, ?_⟩
    by_cases c : e = d ∧ k = n
    · obtain ⟨rfl, rfl⟩ := c
      exact hf z4
    · intro f hf2
      rw [(bm _ (by omega) (by omega)).1, (bm _ (by omega) (by omega)).2, o8 e k _ c, o8 e k _ c]
      exact z4 f hf2
theorem kS4.put {s7 s9 s10 s10' : kR3} {nj : Nat} {n2 n3 : Nat → Nat → Nat} {m11 m12 m13 m12' m13' : kR1} {q10 : Nat → Nat} (h : kS4 s7 s9 s10 nj n2 n3 m11 m12 m13 q10) (hb : ∀ e, e < 4 → n2 e 0 ≤ 512) {d n : Nat} (hd : d < 4) (hn : n < n2 d 0) (o8 : ∀ a b j, ¬ (a = d ∧ b = n) → s10' a b j = s10 a b j) (bm : ∀ p, p ≠ 2 * (600 * d + n) → p ≠ 2 * (600 * d + n) + 1 → m12' p = m12 p ∧ m13' p = m13 p) (hf : (∀ f, f < 2 → m12 (2 * (600 * d + n) + f) = s10 d n f ∧ m13 (2 * (600 * d + n) + f) = s10 d n (2 + f)) → ∀ f, f < 2 → m12' (2 * (600 * d + n) + f) = s10' d n f ∧ m13' (2 * (600 * d + n) + f) = s10' d n (2 + f)) : kS4 s7 s9 s10' nj n2 n3 m11 m12' m13' q10 := by
  intro e he
  obtain ⟨h1, h2, h3, h4, h5⟩ := h e he
  have b1 := hb e he
  have b2 := hb d hd
  refine ⟨h1, h2, h3, fun j hj => ⟨(h4 j hj).1, (h4 j hj).2.1, ?_⟩, fun j hj hj2 f hf2 => ?_⟩
  · by_cases c : e = d ∧ j = n
    · obtain ⟨rfl, rfl⟩ := c
      exact hf (h4 j hj).2.2
    · intro f hf2
      rw [(bm _ (by omega) (by omega)).1, (bm _ (by omega) (by omega)).2, o8 e j _ c, o8 e j _ c]
      exact (h4 j hj).2.2 f hf2
  · have c : ¬ (e = d ∧ j = n) := by
      rintro ⟨rfl, rfl⟩
      omega
    rw [(bm _ (by omega) (by omega)).1, (bm _ (by omega) (by omega)).2]
    exact h5 j hj hj2 f hf2
theorem kS4.make {s7 s7' s9 s9' s10 s10' : kR3} {nj : Nat} {n2 n3 n2' n3' : Nat → Nat → Nat} {m11 m12 m13 m11' : kR1} {q10 q10' : Nat → Nat} (h : kS4 s7 s9 s10 nj n2 n3 m11 m12 m13 q10) (hb : ∀ e, e < 4 → n2 e 0 ≤ 512) {d : Nat} (hd : d < 4)
    (a2 : n2' d 0 = n2 d 0 + 1) (o2 : ∀ e, e ≠ d → n2' e 0 = n2 e 0) (a3 : n3' d 0 = n3 d 0 + 1) (o3 : ∀ e, e ≠ d → n3' e 0 = n3 e 0)
    (aq : q10' d = q10 d + 1) (oq : ∀ e, e ≠ d → q10' e = q10 e)
    (a7 : s7' d 0 0 = s7 d 0 0 + nI 1) (o7 : ∀ e, e ≠ d → s7' e 0 0 = s7 e 0 0)
    (a9 : s9' d (n2 d 0) 0 = -1) (o9 : ∀ a b, ¬ (a = d ∧ b = n2 d 0) → s9' a b 0 = s9 a b 0)
    (a10 : ∀ j, s10' d (n2 d 0) j = nI 0) (o10 : ∀ a b j, ¬ (a = d ∧ b = n2 d 0) → s10' a b j = s10 a b j)
    (a11 : m11' (600 * d + n2 d 0) = -1) (o11 : ∀ p, p ≠ 600 * d + n2 d 0 → m11' p = m11 p) : kS4 s7' s9' s10' nj n2' n3' m11' m12 m13 q10' := by
  intro e he
  obtain ⟨h1, h2, h3, h4, h5⟩ := h e he
  have b1 := hb e he
  have b2 := hb d hd
  by_cases c : e = d
  · subst c
    have hc : kcn (kUn m11' e) (n2 e 0 + 1) = kcn (kUn m11 e) (n2 e 0) + 1 := by
      show kcn (kUn m11' e) (n2 e 0) + kUn m11' e (n2 e 0) = _
      rw [show kUn m11' e (n2 e 0) = 1 from if_pos a11, kcn_cg (g := kUn m11 e) (fun j hj => by unfold kUn; rw [o11 _ (by omega)])]
    refine ⟨by rw [aq, a2, h1], by rw [a2, a3]; omega, by rw [a7, a2, hc, h3, nI_add], fun k hk => ?_, fun k hk hk2 f hf => h5 k (by omega) hk2 f hf⟩
    rw [a2] at hk
    by_cases c2 : k = n2 e 0
    · subst c2
      rw [a11, a9]
      refine ⟨rfl, Or.inl rfl, fun f hf => ?_⟩
      rw [a10, a10]
      exact h5 _ (Nat.le_refl _) (by omega) f hf
    · rw [o11 _ (by omega), o9 e k (by omega)]
      refine ⟨(h4 k (by omega)).1, (h4 k (by omega)).2.1, fun f hf => ?_⟩
      rw [o10 e k _ (by omega), o10 e k _ (by omega)]
      exact (h4 k (by omega)).2.2 f hf
  · refine ⟨by rw [oq e c, o2 e c]; exact h1, by rw [o2 e c, o3 e c]; exact h2, ?_, fun k hk => ?_, fun k hk hk2 f hf => h5 k (by rw [← o2 e c]; exact hk) hk2 f hf⟩
    · rw [o7 e c, o2 e c, h3]
      refine congrArg nI (kcn_cg fun j hj => ?_)
      unfold kUn
      rw [o11 _ (by omega)]
    · rw [o2 e c] at hk
      rw [o11 _ (by omega), o9 e k (by omega)]
      refine ⟨(h4 k hk).1, (h4 k hk).2.1, fun f hf => ?_⟩
      rw [o10 e k _ (by omega), o10 e k _ (by omega)]
      exact (h4 k hk).2.2 f hf
theorem kS4.fwd {s7 s9 s10 : kR3} {nj : Nat} {n2 n3 N3 : Nat → Nat → Nat} {m11 m12 m13 : kR1} {q10 : Nat → Nat} (h : kS4 s7 s9 s10 nj n2 n3 m11 m12 m13 q10) (hn : ∀ e, e < 4 → n3 e 0 ≤ N3 e 0) : kS4 s7 s9 s10 nj n2 N3 m11 m12 m13 q10 := by
  intro e he
  obtain ⟨h1, h2, h3⟩ := h e he
  exact ⟨h1, Nat.le_trans h2 (hn e he), h3⟩
theorem sMake_f {S : kI4} {N : kN3} {d : Nat} {x : Int32} {f : Nat} (h : f ≠ 7 ∧ f ≠ 9 ∧ f ≠ 10 ∧ f ≠ 11) : sMake S N d x f = S f := by
  funext a b c
  exact (sAct_n (by omega)).trans ((w4_n (by omega)).trans (sMk_n (by omega)))
theorem nMake_f {N : kN3} {d f : Nat} (h : f ≠ 2 ∧ f ≠ 3) : nMake N d f = N f := by
  funext a b
  exact (w3_n (by omega)).trans (w3_n (by omega))
def mMk (M : kM2) (q n d : Nat) (x : Int32) : kM2 := mNt (w2 M 11 (600 * d + n) (-1)) q (nI d) (nI (1000 + n)) (-1) x (nI 0)
theorem mMk_f {M : kM2} {q n d : Nat} {x : Int32} {f : Nat} (h : f ≠ 11 ∧ f ≠ 15 ∧ f ≠ 16 ∧ f ≠ 17 ∧ f ≠ 18 ∧ f ≠ 19) : mMk M q n d x f = M f := by
  unfold mMk
  rw [mNt_f h.2, w2_f h.1]
theorem mMk_11 {M : kM2} {q n d : Nat} {x : Int32} : mMk M q n d x 11 = w2 M 11 (600 * d + n) (-1) 11 := by
  unfold mMk
  rw [mNt_f (by decide)]
theorem mMk_n {M : kM2} {q n d : Nat} {x : Int32} {a p : Nat} (h : p ≠ q) (ha : a ≠ 11) : mMk M q n d x a p = M a p := by
  unfold mMk
  rw [mNt_n h, w2_a ha]
theorem kSim.make {S : kI4} {N : kN3} {M : kM2} {Q : kQ2} (h : kSim S N M Q) {d : Nat} (hd : d < 4) (hq : Q 14 0 < 512) (x : Int32) : kSim (sMake S N d x) (nMake N d) (mMk M (Q 14 0) (Q 10 d) d x) (w2 (w2 Q 10 d (Q 10 d + 1)) 14 0 (Q 14 0 + 1)) := by
  have hb : ∀ e, e < 4 → N 2 e 0 ≤ 512 := fun e he => Nat.le_trans (h.n2 e he) h.q14
  have hb2 := h.n2 d hd
  obtain ⟨h1, h2, h3, h4, h5, h6, h7⟩ := h
  have hq10 : Q 10 d = N 2 d 0 := (h4 d hd).1
  rw [hq10]
  have a2 : nMake N d 2 d 0 = N 2 d 0 + 1 := (w3_n (by omega)).trans w3_s
  have o2 : ∀ e, e ≠ d → nMake N d 2 e 0 = N 2 e 0 := fun e z => (w3_n (by omega)).trans (w3_n (by omega))
  have a3 : nMake N d 3 d 0 = N 3 d 0 + 1 := w3_s
  have o3 : ∀ e, e ≠ d → nMake N d 3 e 0 = N 3 e 0 := fun e z => (w3_n (by omega)).trans (w3_n (by omega))
  have a9 : sMake S N d x 9 d (N 2 d 0) 0 = -1 := (sAct_n (by omega)).trans ((w4_n (by omega)).trans (if_pos ⟨rfl, rfl, rfl⟩))
  have o9 : ∀ a b, ¬ (a = d ∧ b = N 2 d 0) → sMake S N d x 9 a b 0 = S 9 a b 0 := fun a b z => (sAct_n (by omega)).trans ((w4_n (by omega)).trans (sMk_n (by omega)))
  have o11 : ∀ a b j, ¬ (a = d ∧ b = N 3 d 0) → sMake S N d x 11 a b j = S 11 a b j := fun a b j z => (sAct_n (by omega)).trans ((w4_n (by omega)).trans (sMk_n (by omega)))
  have v11 := sAct_v (S := sMk1 S d (N 2 d 0)) (d := d) (k := N 3 d 0) (a := nI (1000 + N 2 d 0)) (b := -1) (c := x) (e := nI 0) (g := -1)
  have vm := mNt_s (M := w2 M 11 (600 * d + N 2 d 0) (-1)) (q := Q 14 0) (v := nI d) (j := nI (1000 + N 2 d 0)) (g := -1) (x := x) (y := nI 0)
  refine ⟨(by rw [sMake_f (f := 1) (by decide), sMake_f (f := 2) (by decide), sMake_f (f := 3) (by decide), nMake_f (f := 1) (by decide), mMk_f (f := 2) (by decide), mMk_f (f := 3) (by decide), mMk_f (f := 4) (by decide), mMk_f (f := 5) (by decide), w2_f (a := 14) (b := 1) (by decide), w2_f (a := 10) (b := 1) (by decide)]; exact h1), (by rw [sMake_f (f := 4) (by decide), mMk_f (f := 6) (by decide)]; exact h2), (by rw [sMake_f (f := 5) (by decide), sMake_f (f := 6) (by decide), sMake_f (f := 8) (by decide), nMake_f (f := 11) (by decide), nMake_f (f := 1) (by decide), mMk_f (f := 7) (by decide), mMk_f (f := 8) (by decide), mMk_f (f := 9) (by decide)]; exact h3), ?_, ?_, ?_, (by rw [sMake_f (f := 12) (by decide), mMk_f (f := 24) (by decide)]; exact h7)⟩
  · rw [nMake_f (f := 1) (by decide), mMk_f (f := 12) (by decide), mMk_f (f := 13) (by decide)]
    refine h4.make hb hd a2 o2 a3 o3 ?_ (fun e z => (w2_a (by decide)).trans (w2_i z)) ((sAct_n (by omega)).trans w4_s) (fun e z => (sAct_n (by omega)).trans ((w4_n (by omega)).trans (sMk_n (by omega)))) a9 o9 (fun j => (sAct_n (by omega)).trans ((w4_n (by omega)).trans ((if_neg (by omega)).trans (if_pos ⟨rfl, rfl, rfl⟩)))) (fun a b j z => (sAct_n (by omega)).trans ((w4_n (by omega)).trans (sMk_n (by omega)))) ?_ (fun p z => ?_)
    · rw [hq10]
      exact (w2_a (by decide)).trans w2_s
    · rw [mMk_11]
      exact w2_s
    · rw [mMk_11]
      exact w2_i z
  · rw [nMake_f (f := 4) (by decide), mMk_f (f := 20) (by decide), w2_s]
    refine h5.act hq hd (fun a k ha hk => o9 a k (fun w => ?_)) o11 (fun a ha => ?_) a3 o3 (fun g z => ⟨mMk_n z (by decide), mMk_n z (by decide), mMk_n z (by decide), mMk_n z (by decide), mMk_n z (by decide)⟩) vm.1 ⟨?_, ?_, ?_, ?_, Or.inl ⟨vm.2.2.1, N 2 d 0, ?_, vm.2.1, v11.1, fun _ => a9⟩⟩ (fun _ g hg g15 g17 e => ?_)
    · obtain ⟨w1, w2⟩ := w
      rw [← w1] at w2
      omega
    · by_cases z : a = d
      · rw [z, a2]
        exact Nat.le_succ _
      · rw [o2 a z]
        exact Nat.le_refl _
    · exact vm.2.2.1.trans v11.2.1.symm
    · exact vm.2.2.2.1.trans v11.2.2.1.symm
    · exact vm.2.2.2.2.trans v11.2.2.2.symm
    · rw [h5.2.2.2.2 (Q 14 0) (Nat.le_refl _) (by omega)]
      exact (if_neg (Nat.not_lt.mpr (h5.2.1 d hd).2)).symm
    · rw [a2]
      exact Nat.lt_succ_self _
    · obtain ⟨e2, he2, b1, b2⟩ := h5.2.2.1 g hg
      have ee : e2 = d := nI_d (b1.symm.trans g15) he2 hd
      subst ee
      obtain ⟨c1, c2, c3, c4, ⟨d1, k, d2, d3, d4, d5⟩ | ⟨d1, d2, d3⟩⟩ := b2
      · rw [d3] at e
        have := kown_inj (e.trans vm.2.1) (by omega) (by omega)
        omega
      · rw [g17] at d1
        exact d1.1 (by decide)
  · rw [nMake_f (f := 4) (by decide), nMake_f (f := 5) (by decide), nMake_f (f := 6) (by decide), mMk_f (f := 20) (by decide), mMk_f (f := 23) (by decide), w2_s, w2_f (b := 21) (a := 14) (by decide), w2_f (b := 21) (a := 10) (by decide), w2_f (b := 22) (a := 14) (by decide), w2_f (b := 22) (a := 10) (by decide)]
    exact h6.act (n3 := N 3) (fun e he => (h5.2.1 e he).2) o11 (fun g z => mMk_n z (by decide))
/-- a change is noted: what the act says -/
theorem kS5.chg {S : kI4} {N : kN3} {M : kM2} {q : Nat} (h5 : kS5 (S 9) (S 11) (N 2) (N 3) (N 4) (M 15) (M 16) (M 17) (M 18) (M 19) (M 20) q) (hq : q < 512) {d : Nat} (hd : d < 4) {f0 : Nat} (hf0 : f0 ≤ 1) {x job num ver : Int32} (hx : f0 = 0 → kin x (nI 0) (nI 2)) (hj : num = job ∨ ∃ k, k < N 2 d 0 ∧ job = nI (1000 + k) ∧ S 9 d k 0 ≠ -1 ∧ num = S 9 d k 0) : kS5 (S 9) (sAct S d (N 3 d 0) job (nI f0) x ver (-1) 11) (N 2) (w3 N 3 d 0 (N 3 d 0 + 1) 3) (N 4) (mNt M q (nI d) num (nI f0) x ver 15) (mNt M q (nI d) num (nI f0) x ver 16) (mNt M q (nI d) num (nI f0) x ver 17) (mNt M q (nI d) num (nI f0) x ver 18) (mNt M q (nI d) num (nI f0) x ver 19) (M 20) (q + 1) := by
  have v11 := sAct_v (S := S) (d := d) (k := N 3 d 0) (a := job) (b := nI f0) (c := x) (e := ver) (g := -1)
  have vm := mNt_s (M := M) (q := q) (v := nI d) (j := num) (g := nI f0) (x := x) (y := ver)
  refine h5.act hq hd (fun _ _ _ _ => rfl) (fun a b j z => sAct_n (by omega)) (fun _ _ => Nat.le_refl _) w3_s (fun e z => w3_n (by omega)) (fun g z => ⟨mNt_n z, mNt_n z, mNt_n z, mNt_n z, mNt_n z⟩) vm.1 ⟨vm.2.2.1.trans v11.2.1.symm, vm.2.2.2.1.trans v11.2.2.1.symm, vm.2.2.2.2.trans v11.2.2.2.symm, ?_, Or.inr ⟨?_, fun z => ?_, ?_⟩⟩ (fun z => ?_)
  · rw [h5.2.2.2.2 q (Nat.le_refl _) (by omega)]
    exact (if_neg (Nat.not_lt.mpr (h5.2.1 d hd).2)).symm
  · rw [vm.2.2.1]
    rcases (show f0 = 0 ∨ f0 = 1 by omega) with rfl | rfl <;> exact ⟨by decide, by decide⟩
  · rw [vm.2.2.1] at z
    rw [vm.2.2.2.1]
    exact hx (nI_inj z (by omega) (by omega))
  · rw [vm.2.1, v11.1]
    rcases hj with z | ⟨k, z1, z2, z3, z4⟩
    · exact Or.inl z
    · exact Or.inr ⟨k, z1, z2, z3, z4⟩
  · rw [vm.2.2.1] at z
    exact absurd z (nI_n1 (by omega))
/-- fields put at a place, class and reference -/
theorem kput {S : kI4} {M : kM2} {fS a b p f0 c1 c2 : Nat} {x y : Int32} (hc : c1 ≠ c2) (h0 : f0 ≤ 1) (hy : y = M c2 (2 * p + f0) + nI 1) (h : ∀ f, f < 2 → M c1 (2 * p + f) = S fS a b f ∧ M c2 (2 * p + f) = S fS a b (2 + f)) : ∀ f, f < 2 → w2 (w2 M c1 (2 * p + f0) x) c2 (2 * p + f0) y c1 (2 * p + f) = sPut S fS a b (nI f0) x fS a b f ∧ w2 (w2 M c1 (2 * p + f0) x) c2 (2 * p + f0) y c2 (2 * p + f) = sPut S fS a b (nI f0) x fS a b (2 + f) := by
  intro f hf
  have e := sPut_v (S := S) (fS := fS) (a := a) (b := b) (x := x) h0 hf
  have e2 := w2_v (M := M) (a := c1) (c := c2) (p := p) (x := x) (y := y) hc h0 hf
  have e3 := h f hf
  rw [e.1, e.2, e2.1, e2.2, e3.1, e3.2]
  by_cases z : f = f0
  · subst z
    rw [if_pos rfl, if_pos rfl, if_pos rfl, hy, e3.2]
    exact ⟨rfl, rfl⟩
  · rw [if_neg z, if_neg z, if_neg z]
    exact ⟨rfl, rfl⟩
theorem kver {S : kI4} {fS a b f0 : Nat} (h0 : f0 ≤ 1) : (if nI f0 = nI 0 then S fS a b 2 else S fS a b 3) = S fS a b (2 + f0) := by
  rcases (show f0 = 0 ∨ f0 = 1 by omega) with rfl | rfl
  · exact if_pos rfl
  · exact if_neg (by decide)
theorem kSim.chg8 {S : kI4} {N : kN3} {M : kM2} {Q : kQ2} (h : kSim S N M Q) {d : Nat} (hd : d < 4) (hq : Q 14 0 < 512) {n f0 : Nat} (hn : n < 40) (hf0 : f0 ≤ 1) {x job : Int32} (hx : f0 = 0 → kin x (nI 0) (nI 2)) (hs : S 5 d n 0 ≠ nI 0) (hj : nI n = job ∨ ∃ k, k < N 2 d 0 ∧ job = nI (1000 + k) ∧ S 9 d k 0 ≠ -1 ∧ nI n = S 9 d k 0) : kSim (sPut (sAct S d (N 3 d 0) job (nI f0) x (if nI f0 = nI 0 then S 8 d n 2 else S 8 d n 3) (-1)) 8 d n (nI f0) x) (w3 N 3 d 0 (N 3 d 0 + 1)) (w2 (w2 (mNt M (Q 14 0) (nI d) (nI n) (nI f0) x (M 9 (2 * (40 * d + n) + f0))) 8 (2 * (40 * d + n) + f0) x) 9 (2 * (40 * d + n) + f0) (M 9 (2 * (40 * d + n) + f0) + nI 1)) (w2 Q 14 0 (Q 14 0 + 1)) := by
  obtain ⟨h1, h2, h3, h4, h5, h6, h7⟩ := h
  have hv : M 9 (2 * (40 * d + n) + f0) = S 8 d n (2 + f0) := by
    rcases ((h3 d hd).2 n hn).2 with z | ⟨z1, z2, z3, z4⟩
    · exact absurd z hs
    · exact (z4 f0 (by omega)).2
  rw [kver hf0, hv]
  have o11 : ∀ a b j, ¬ (a = d ∧ b = N 3 d 0) → sAct S d (N 3 d 0) job (nI f0) x (S 8 d n (2 + f0)) (-1) 11 a b j = S 11 a b j := fun a b j z => sAct_n (by omega)
  refine ⟨(by rw [sPut_f (f := 1) (by decide), sAct_f (f := 1) (by decide), sPut_f (f := 2) (by decide), sAct_f (f := 2) (by decide), sPut_f (f := 3) (by decide), sAct_f (f := 3) (by decide), w3_f (f' := 1) (by decide), w2_f (a := 9) (b := 2) (by decide), w2_f (a := 8) (b := 2) (by decide), mNt_f (f := 2) (by decide), w2_f (a := 9) (b := 3) (by decide), w2_f (a := 8) (b := 3) (by decide), mNt_f (f := 3) (by decide), w2_f (a := 9) (b := 4) (by decide), w2_f (a := 8) (b := 4) (by decide), mNt_f (f := 4) (by decide), w2_f (a := 9) (b := 5) (by decide), w2_f (a := 8) (b := 5) (by decide), mNt_f (f := 5) (by decide), w2_f (a := 14) (b := 1) (by decide)]; exact h1), (by rw [sPut_f (f := 4) (by decide), sAct_f (f := 4) (by decide), w2_f (a := 9) (b := 6) (by decide), w2_f (a := 8) (b := 6) (by decide), mNt_f (f := 6) (by decide)]; exact h2), ?_, ?_, ?_, ?_, (by rw [sPut_f (f := 12) (by decide), sAct_f (f := 12) (by decide), w2_f (a := 9) (b := 24) (by decide), w2_f (a := 8) (b := 24) (by decide), mNt_f (f := 24) (by decide)]; exact h7)⟩
  · rw [sPut_f (f := 5) (by decide), sPut_f (f := 6) (by decide), sAct_f (f := 5) (by decide), sAct_f (f := 6) (by decide), w3_f (f' := 11) (by decide), w3_f (f' := 1) (by decide), w2_f (a := 9) (b := 7) (by decide), w2_f (a := 8) (b := 7) (by decide), mNt_f (f := 7) (by decide)]
    refine h3.put hn (fun a b j z => (sPut_n (by omega)).trans (sAct_n (by omega))) (fun p z1 z2 => ?_) (fun z => kput (by decide) hf0 ?_ ?_)
    · rw [w2_a (by decide), w2_i (by omega), w2_i (by omega), w2_a (by decide), mNt_f (f := 8) (by decide), mNt_f (f := 9) (by decide)]
      exact ⟨rfl, rfl⟩
    · rw [mNt_f (f := 9) (by decide), hv]
    · rw [mNt_f (f := 8) (by decide), mNt_f (f := 9) (by decide), sAct_f (f := 8) (by decide)]
      exact z
  · rw [sPut_f (f := 7) (by decide), sAct_f (f := 7) (by decide), sPut_f (f := 9) (by decide), sAct_f (f := 9) (by decide), sPut_f (f := 10) (by decide), sAct_f (f := 10) (by decide), w3_f (f' := 1) (by decide), w3_f (f' := 2) (by decide), w2_f (a := 9) (b := 11) (by decide), w2_f (a := 8) (b := 11) (by decide), mNt_f (f := 11) (by decide), w2_f (a := 9) (b := 12) (by decide), w2_f (a := 8) (b := 12) (by decide), mNt_f (f := 12) (by decide), w2_f (a := 9) (b := 13) (by decide), w2_f (a := 8) (b := 13) (by decide), mNt_f (f := 13) (by decide), w2_f (a := 14) (b := 10) (by decide)]
    exact h4.fwd (N3 := w3 N 3 d 0 (N 3 d 0 + 1) 3) (fun e he => by
      by_cases z : e = d
      · rw [z, w3_s]
        exact Nat.le_succ _
      · rw [w3_n (by omega)]
        exact Nat.le_refl _)
  · rw [sPut_f (f := 9) (by decide), sAct_f (f := 9) (by decide), sPut_f (f := 11) (by decide), w3_f (f' := 2) (by decide), w3_f (f' := 4) (by decide), w2_f (a := 9) (b := 15) (by decide), w2_f (a := 8) (b := 15) (by decide), w2_f (a := 9) (b := 16) (by decide), w2_f (a := 8) (b := 16) (by decide), w2_f (a := 9) (b := 17) (by decide), w2_f (a := 8) (b := 17) (by decide), w2_f (a := 9) (b := 18) (by decide), w2_f (a := 8) (b := 18) (by decide), w2_f (a := 9) (b := 19) (by decide), w2_f (a := 8) (b := 19) (by decide), w2_f (a := 9) (b := 20) (by decide), w2_f (a := 8) (b := 20) (by decide), mNt_f (f := 20) (by decide), w2_s]
    exact h5.chg hq hd hf0 hx hj
  · rw [sPut_f (f := 11) (by decide), w3_f (f' := 4) (by decide), w3_f (f' := 5) (by decide), w3_f (f' := 6) (by decide), w2_f (a := 9) (b := 15) (by decide), w2_f (a := 8) (b := 15) (by decide), w2_f (a := 9) (b := 20) (by decide), w2_f (a := 8) (b := 20) (by decide), mNt_f (f := 20) (by decide), w2_f (a := 9) (b := 23) (by decide), w2_f (a := 8) (b := 23) (by decide), mNt_f (f := 23) (by decide), w2_s, w2_f (b := 21) (a := 14) (by decide), w2_f (b := 22) (a := 14) (by decide)]
    exact h6.act (n3 := N 3) (fun e he => (h5.2.1 e he).2) o11 (fun g z => mNt_n z)
theorem kSim.chg10 {S : kI4} {N : kN3} {M : kM2} {Q : kQ2} (h : kSim S N M Q) {d : Nat} (hd : d < 4) (hq : Q 14 0 < 512) {n f0 : Nat} (hn : n < N 2 d 0) (hf0 : f0 ≤ 1) {x job : Int32} (hx : f0 = 0 → kin x (nI 0) (nI 2)) (hj : nI (1000 + n) = job) : kSim (sPut (sAct S d (N 3 d 0) job (nI f0) x (if nI f0 = nI 0 then S 10 d n 2 else S 10 d n 3) (-1)) 10 d n (nI f0) x) (w3 N 3 d 0 (N 3 d 0 + 1)) (w2 (w2 (mNt M (Q 14 0) (nI d) (nI (1000 + n)) (nI f0) x (M 13 (2 * (600 * d + n) + f0))) 12 (2 * (600 * d + n) + f0) x) 13 (2 * (600 * d + n) + f0) (M 13 (2 * (600 * d + n) + f0) + nI 1)) (w2 Q 14 0 (Q 14 0 + 1)) := by
  have hb : ∀ e, e < 4 → N 2 e 0 ≤ 512 := fun e he => Nat.le_trans (h.n2 e he) h.q14
  obtain ⟨h1, h2, h3, h4, h5, h6, h7⟩ := h
  have hv : M 13 (2 * (600 * d + n) + f0) = S 10 d n (2 + f0) := (((h4 d hd).2.2.2.1 n hn).2.2 f0 (by omega)).2
  rw [kver hf0, hv]
  have o11 : ∀ a b j, ¬ (a = d ∧ b = N 3 d 0) → sAct S d (N 3 d 0) job (nI f0) x (S 10 d n (2 + f0)) (-1) 11 a b j = S 11 a b j := fun a b j z => sAct_n (by omega)
  refine ⟨(by rw [sPut_f (f := 1) (by decide), sAct_f (f := 1) (by decide), sPut_f (f := 2) (by decide), sAct_f (f := 2) (by decide), sPut_f (f := 3) (by decide), sAct_f (f := 3) (by decide), w3_f (f' := 1) (by decide), w2_f (a := 13) (b := 2) (by decide), w2_f (a := 12) (b := 2) (by decide), mNt_f (f := 2) (by decide), w2_f (a := 13) (b := 3) (by decide), w2_f (a := 12) (b := 3) (by decide), mNt_f (f := 3) (by decide), w2_f (a := 13) (b := 4) (by decide), w2_f (a := 12) (b := 4) (by decide), mNt_f (f := 4) (by decide), w2_f (a := 13) (b := 5) (by decide), w2_f (a := 12) (b := 5) (by decide), mNt_f (f := 5) (by decide), w2_f (a := 14) (b := 1) (by decide)]; exact h1), (by rw [sPut_f (f := 4) (by decide), sAct_f (f := 4) (by decide), w2_f (a := 13) (b := 6) (by decide), w2_f (a := 12) (b := 6) (by decide), mNt_f (f := 6) (by decide)]; exact h2), (by rw [sPut_f (f := 5) (by decide), sAct_f (f := 5) (by decide), sPut_f (f := 6) (by decide), sAct_f (f := 6) (by decide), sPut_f (f := 8) (by decide), sAct_f (f := 8) (by decide), w3_f (f' := 11) (by decide), w3_f (f' := 1) (by decide), w2_f (a := 13) (b := 7) (by decide), w2_f (a := 12) (b := 7) (by decide), mNt_f (f := 7) (by decide), w2_f (a := 13) (b := 8) (by decide), w2_f (a := 12) (b := 8) (by decide), mNt_f (f := 8) (by decide), w2_f (a := 13) (b := 9) (by decide), w2_f (a := 12) (b := 9) (by decide), mNt_f (f := 9) (by decide)]; exact h3), ?_, ?_, ?_, (by rw [sPut_f (f := 12) (by decide), sAct_f (f := 12) (by decide), w2_f (a := 13) (b := 24) (by decide), w2_f (a := 12) (b := 24) (by decide), mNt_f (f := 24) (by decide)]; exact h7)⟩
  · rw [sPut_f (f := 7) (by decide), sPut_f (f := 9) (by decide), sAct_f (f := 7) (by decide), sAct_f (f := 9) (by decide), w3_f (f' := 1) (by decide), w3_f (f' := 2) (by decide), w2_f (a := 13) (b := 11) (by decide), w2_f (a := 12) (b := 11) (by decide), mNt_f (f := 11) (by decide), w2_f (a := 14) (b := 10) (by decide)]
    refine kS4.fwd (n3 := N 3) (h4.put hb hd hn (fun a b j z => (sPut_n (by omega)).trans (sAct_n (by omega))) (fun p z1 z2 => ?_) (fun z => kput (by decide) hf0 ?_ ?_)) (fun e he => ?_)
    · rw [w2_a (by decide), w2_i (by omega), w2_i (by omega), w2_a (by decide), mNt_f (f := 12) (by decide), mNt_f (f := 13) (by decide)]
      exact ⟨rfl, rfl⟩
    · rw [mNt_f (f := 13) (by decide), hv]
    · rw [mNt_f (f := 12) (by decide), mNt_f (f := 13) (by decide), sAct_f (f := 10) (by decide)]
      exact z
    · by_cases z : e = d
      · rw [z, w3_s]
        exact Nat.le_succ _
      · rw [w3_n (by omega)]
        exact Nat.le_refl _
  · rw [sPut_f (f := 9) (by decide), sAct_f (f := 9) (by decide), sPut_f (f := 11) (by decide), w3_f (f' := 2) (by decide), w3_f (f' := 4) (by decide), w2_f (a := 13) (b := 15) (by decide), w2_f (a := 12) (b := 15) (by decide), w2_f (a := 13) (b := 16) (by decide), w2_f (a := 12) (b := 16) (by decide), w2_f (a := 13) (b := 17) (by decide), w2_f (a := 12) (b := 17) (by decide), w2_f (a := 13) (b := 18) (by decide), w2_f (a := 12) (b := 18) (by decide), w2_f (a := 13) (b := 19) (by decide), w2_f (a := 12) (b := 19) (by decide), w2_f (a := 13) (b := 20) (by decide), w2_f (a := 12) (b := 20) (by decide), mNt_f (f := 20) (by decide), w2_s]
    exact h5.chg hq hd hf0 hx (Or.inl hj)
  · rw [sPut_f (f := 11) (by decide), w3_f (f' := 4) (by decide), w3_f (f' := 5) (by decide), w3_f (f' := 6) (by decide), w2_f (a := 13) (b := 15) (by decide), w2_f (a := 12) (b := 15) (by decide), w2_f (a := 13) (b := 20) (by decide), w2_f (a := 12) (b := 20) (by decide), mNt_f (f := 20) (by decide), w2_f (a := 13) (b := 23) (by decide), w2_f (a := 12) (b := 23) (by decide), mNt_f (f := 23) (by decide), w2_s, w2_f (b := 21) (a := 14) (by decide), w2_f (b := 22) (a := 14) (by decide)]
    exact h6.act (n3 := N 3) (fun e he => (h5.2.1 e he).2) o11 (fun g z => mNt_n z)
/-- what waits -/
theorem kSim.wt {S : kI4} {N : kN3} {M : kM2} {Q : kQ2} (h : kSim S N M Q) {d : Nat} (hd : d < 4) : kcn (mWt M d) (Q 14 0) = N 3 d 0 - N 4 d 0 := by
  obtain ⟨h1, h2, h3, h4, h5, h6, h7⟩ := h
  have key : ∀ g, g ≤ Q 14 0 → kcn (mWt M d) g = kcn (kDv (M 15) d) g - N 4 d 0 := by
    intro g
    induction g with
    | zero => intro _; exact (Nat.zero_sub _).symm
    | succ g ih =>
      intro hg
      have ih := ih (by omega)
      show kcn (mWt M d) g + mWt M d g = kcn (kDv (M 15) d) g + kDv (M 15) d g - N 4 d 0
      obtain ⟨e, he, b1, b2⟩ := h5.2.2.1 g (by omega)
      by_cases z : M 15 g = nI d
      · have ee : e = d := nI_d (b1.symm.trans z) he hd
        subst ee
        have e20 := b2.2.2.2.1
        rw [show kDv (M 15) e g = 1 from if_pos z, ih]
        by_cases c : kcn (kDv (M 15) e) g < N 4 e 0
        · rw [if_pos c] at e20
          rw [show mWt M e g = 0 from if_neg (fun w => absurd (e20.symm.trans w.2) (by decide))]
          omega
        · rw [if_neg c] at e20
          rw [show mWt M e g = 1 from if_pos ⟨z, e20⟩]
          omega
      · rw [show kDv (M 15) d g = 0 from if_neg z, show mWt M d g = 0 from if_neg (fun w => z w.1), ih, Nat.add_zero, Nat.add_zero]
  rw [key _ (Nat.le_refl _), ← (h5.2.1 d hd).1]
