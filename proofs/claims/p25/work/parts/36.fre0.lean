/-! what a fetch copies -/
def kMt (S : kI4) (d z j : Nat) : Prop := S 2 j 0 0 = nI d ∧ S 3 j 0 0 = nI z
def kCw (S : kI4) (d j : Nat) : Nat := if S 2 j 0 0 = nI d then 1 else 0
noncomputable def kCz (S : kI4) (d z j : Nat) : Nat := by
  classical
  exact if S 2 j 0 0 = nI d ∧ S 3 j 0 0 = nI z then 1 else 0
theorem kCz_1 {S : kI4} {d z j : Nat} (h : kMt S d z j) : kCz S d z j = 1 := by
  unfold kCz
  exact if_pos h
theorem kCz_0 {S : kI4} {d z j : Nat} (h : ¬ kMt S d z j) : kCz S d z j = 0 := by
  unfold kCz
  exact if_neg h
theorem kcn_le2 {f g : Nat → Nat} (h : ∀ i, f i ≤ g i) : ∀ n, kcn f n ≤ kcn g n
  | 0 => Nat.le_refl 0
  | n + 1 => Nat.add_le_add (kcn_le2 h n) (h n)
theorem xCps_cnt {q : kI4 × kN3} {d z r c : Nat} (hr : q.1 4 d 0 0 = nI r) (hr40 : r ≤ 40) (hc : q.1 6 d 0 0 = nI c) (hcr : c ≤ r) (h0 : ∀ j, j < 40 → kMt q.1 d z j → q.1 5 d j 0 = nI 0) : ∀ i, i ≤ 40 →
    (xCps q d (nI z) i).1 6 d 0 0 = nI (min r (c + kcn (kCz q.1 d z) i)) ∧ (∀ j, i ≤ j → (xCps q d (nI z) i).1 5 d j 0 = q.1 5 d j 0) ∧
    (c + kcn (kCz q.1 d z) i ≤ r → ∀ j, j < i → kMt q.1 d z j → (xCps q d (nI z) i).1 5 d j 0 = nI 1 ∧ ∀ x, x < 4 → (xCps q d (nI z) i).1 8 d j x = q.1 3 j 0 x) ∧
    ∀ j, ¬ kMt q.1 d z j → (xCps q d (nI z) i).1 5 d j 0 = q.1 5 d j 0 ∧ ∀ x, (xCps q d (nI z) i).1 8 d j x = q.1 8 d j x
  | 0, _ => ⟨by rw [show (xCps q d (nI z) 0).1 = q.1 from rfl, hc]; exact congrArg nI (by show c = min r (c + 0); omega), fun _ _ => rfl, fun _ j hj => absurd hj (Nat.not_lt_zero j), fun _ _ => ⟨rfl, fun _ => rfl⟩⟩
  | i + 1, hi => by
    obtain ⟨g1, g2, g3, g4⟩ := xCps_cnt (z := z) hr hr40 hc hcr h0 i (by omega)
    have hk : kcn (kCz q.1 d z) i ≤ 40 := Nat.le_trans (kcn_le (fun n => by
      by_cases y : kMt q.1 d z n
      · rw [kCz_1 y]
        exact Nat.le_refl 1
      · rw [kCz_0 y]
        exact Nat.zero_le 1) i) (by omega)
    have e4 : (xCps q d (nI z) i).1 4 d 0 0 = nI r := by rw [xCps_s i 4 (by decide) (by decide) (by decide), hr]
    have e2 : (xCps q d (nI z) i).1 2 = q.1 2 := xCps_s i 2 (by decide) (by decide) (by decide)
    have e3 : (xCps q d (nI z) i).1 3 = q.1 3 := xCps_s i 3 (by decide) (by decide) (by decide)
    have ek : kcn (kCz q.1 d z) (i + 1) = kcn (kCz q.1 d z) i + kCz q.1 d z i := rfl
    show (xCp (xCps q d (nI z) i) d (nI z) i).1 6 d 0 0 = _ ∧ (∀ j, i + 1 ≤ j → (xCp (xCps q d (nI z) i) d (nI z) i).1 5 d j 0 = _) ∧ (_ → ∀ j, j < i + 1 → _ → (xCp (xCps q d (nI z) i) d (nI z) i).1 5 d j 0 = nI 1 ∧ ∀ x, x < 4 → (xCp (xCps q d (nI z) i) d (nI z) i).1 8 d j x = _) ∧ ∀ j, _ → (xCp (xCps q d (nI z) i) d (nI z) i).1 5 d j 0 = _ ∧ ∀ x, (xCp (xCps q d (nI z) i) d (nI z) i).1 8 d j x = _
    unfold xCp
    by_cases hm : kMt q.1 d z i
    · rw [ek, kCz_1 hm]
      by_cases hf : c + kcn (kCz q.1 d z) i < r
      · have hg : (xCps q d (nI z) i).1 6 d 0 0 < (xCps q d (nI z) i).1 4 d 0 0 ∧ (xCps q d (nI z) i).1 2 i 0 0 = nI d ∧ (xCps q d (nI z) i).1 3 i 0 0 = nI z := by
          rw [g1, e4, e2, e3]
          exact ⟨nI_lt (by omega) (by omega), hm.1, hm.2⟩
        have e5 : (xCps q d (nI z) i).1 5 d i 0 = nI 0 := by rw [g2 i (Nat.le_refl i), h0 i (by omega) hm]
        rw [if_pos hg]
        show sHold _ d i _ 6 d 0 0 = _ ∧ (∀ j, i + 1 ≤ j → sHold _ d i _ 5 d j 0 = _) ∧ (_ → ∀ j, j < i + 1 → _ → sHold _ d i _ 5 d j 0 = nI 1 ∧ ∀ x, x < 4 → sHold _ d i _ 8 d j x = _) ∧ ∀ j, _ → sHold _ d i _ 5 d j 0 = _ ∧ ∀ x, sHold _ d i _ 8 d j x = _
        have eh : ∀ g : Nat → Int32, sHold (xCps q d (nI z) i).1 d i g = w4 (w4 (sCopy (xCps q d (nI z) i).1 d i g) 5 d i 0 (nI 1)) 6 d 0 0 ((xCps q d (nI z) i).1 6 d 0 0 + nI 1) := fun g => if_pos e5
        rw [eh]
        have e5n : ∀ j, j ≠ i → w4 (w4 (sCopy (xCps q d (nI z) i).1 d i (fun j => (xCps q d (nI z) i).1 3 i 0 j)) 5 d i 0 (nI 1)) 6 d 0 0 ((xCps q d (nI z) i).1 6 d 0 0 + nI 1) 5 d j 0 = (xCps q d (nI z) i).1 5 d j 0 := fun j y => by
          rw [w4_n (by omega), w4_n (by omega), sCopy_n (by omega)]
        have e8n : ∀ j x, j ≠ i → w4 (w4 (sCopy (xCps q d (nI z) i).1 d i (fun j => (xCps q d (nI z) i).1 3 i 0 j)) 5 d i 0 (nI 1)) 6 d 0 0 ((xCps q d (nI z) i).1 6 d 0 0 + nI 1) 8 d j x = (xCps q d (nI z) i).1 8 d j x := fun j x y => by
          rw [w4_n (by omega), w4_n (by omega), sCopy_n (by omega)]
        refine ⟨?_, fun j hj => ?_, fun hle j hj hmj => ?_, fun j hj => ?_⟩
        · rw [w4_s, g1, nI_add]
          exact congrArg nI (by omega)
        · rw [e5n j (by omega)]
          exact g2 j (by omega)
        · by_cases y : j = i
          · subst y
            refine ⟨by rw [w4_n (by omega), w4_s], fun x hx => ?_⟩
            rw [w4_n (by omega), w4_n (by omega)]
            refine (if_pos ⟨rfl, rfl, rfl, hx⟩).trans ?_
            rw [e3]
          · rw [e5n j y]
            have w := g3 (by omega) j (by omega) hmj
            exact ⟨w.1, fun x hx => (e8n j x y).trans (w.2 x hx)⟩
        · have y : j ≠ i := fun e => hj (by rw [e]; exact hm)
          rw [e5n j y]
          exact ⟨(g4 j hj).1, fun x => (e8n j x y).trans ((g4 j hj).2 x)⟩
      · have hg : ¬ ((xCps q d (nI z) i).1 6 d 0 0 < (xCps q d (nI z) i).1 4 d 0 0 ∧ (xCps q d (nI z) i).1 2 i 0 0 = nI d ∧ (xCps q d (nI z) i).1 3 i 0 0 = nI z) := by
          rw [g1, e4]
          exact fun y => nI_nlt (by omega) (by omega) y.1
        rw [if_neg hg]
        refine ⟨?_, fun j hj => g2 j (by omega), fun hle => by omega, g4⟩
        rw [g1]
        exact congrArg nI (by omega)
    · have hg : ¬ ((xCps q d (nI z) i).1 6 d 0 0 < (xCps q d (nI z) i).1 4 d 0 0 ∧ (xCps q d (nI z) i).1 2 i 0 0 = nI d ∧ (xCps q d (nI z) i).1 3 i 0 0 = nI z) := by
        rw [e2, e3]
        exact fun y => hm y.2
      rw [if_neg hg, ek, kCz_0 hm]
      refine ⟨g1, fun j hj => g2 j (by omega), fun hle j hj hmj => ?_, g4⟩
      have y : j ≠ i := fun e => hm (by rw [← e]; exact hmj)
      exact g3 hle j (by omega) hmj
theorem fetch_spec {S : kI4} {N : kN3} {T d r : Nat} (V : vS S N T) (hr : S 4 d 0 0 = nI r) (hr40 : r ≤ 40) :
    (xFetch (S, N) d).1 6 d 0 0 = nI (min r (kcn (kCw S d) (N 1 0 0))) ∧
    (kcn (kCw S d) (N 1 0 0) ≤ r → ∀ j, j < N 1 0 0 → (S 2 j 0 0 = nI d → (xFetch (S, N) d).1 5 d j 0 = nI 1 ∧ ∀ x, x < 4 → (xFetch (S, N) d).1 8 d j x = S 3 j 0 x) ∧ (S 2 j 0 0 ≠ nI d → (xFetch (S, N) d).1 5 d j 0 = nI 0)) := by
  have hj := V.1
  have ef : xFetch (S, N) d = xCps (xCps (xCps (sDrop S d, N) d (nI 1) (N 1 0 0)) d (nI 0) (N 1 0 0)) d (nI 2) (N 1 0 0) := rfl
  rw [ef]
  have d2 : sDrop S d 2 = S 2 := sDrop_f (by decide) (by decide)
  have d3 : sDrop S d 3 = S 3 := sDrop_f (by decide) (by decide)
  have d4 : sDrop S d 4 = S 4 := sDrop_f (by decide) (by decide)
  have d5 : ∀ j, j < 40 → sDrop S d 5 d j 0 = nI 0 := fun j h => (w4_n (by omega)).trans (if_pos (by omega))
  have d6 : sDrop S d 6 d 0 0 = nI 0 := w4_s
  have n31 : ∀ {a b j : Nat}, a < 3 → b < 3 → a ≠ b → kMt S d a j → ¬ kMt S d b j := fun ha hb hab x y => hab (nI_inj (x.2.symm.trans y.2) (by omega) (by omega))
  have b1 := xCps_cnt (q := (sDrop S d, N)) (d := d) (z := 1) (r := r) (c := 0) (by rw [show ((sDrop S d, N) : kI4 × kN3).1 4 = S 4 from d4]; exact hr) hr40 d6 (Nat.zero_le r) (fun j h _ => d5 j h) (N 1 0 0) hj
  have f1 : ∀ f, f ≠ 5 → f ≠ 6 → f ≠ 8 → (xCps (sDrop S d, N) d (nI 1) (N 1 0 0)).1 f = S f := fun f x y z => (xCps_s _ f x y z).trans (sDrop_f x y)
  generalize xCps (sDrop S d, N) d (nI 1) (N 1 0 0) = q1 at b1 f1 ⊢
  have m0 : ∀ z j, kMt ((sDrop S d, N) : kI4 × kN3).1 d z j ↔ kMt S d z j := fun z j => by
    unfold kMt
    rw [show ((sDrop S d, N) : kI4 × kN3).1 2 = S 2 from d2, show ((sDrop S d, N) : kI4 × kN3).1 3 = S 3 from d3]
  have k0 : ∀ z, kCz ((sDrop S d, N) : kI4 × kN3).1 d z = kCz S d z := fun z => by
    funext j
    unfold kCz
    rw [show ((sDrop S d, N) : kI4 × kN3).1 2 = S 2 from d2, show ((sDrop S d, N) : kI4 × kN3).1 3 = S 3 from d3]
  have m1 : ∀ z j, kMt q1.1 d z j ↔ kMt S d z j := fun z j => by
    unfold kMt
    rw [f1 2 (by decide) (by decide) (by decide), f1 3 (by decide) (by decide) (by decide)]
  have k1 : ∀ z, kCz q1.1 d z = kCz S d z := fun z => by
    funext j
    unfold kCz
    rw [f1 2 (by decide) (by decide) (by decide), f1 3 (by decide) (by decide) (by decide)]
  rw [k0] at b1
  obtain ⟨p1, p2, p3, p4⟩ := b1
  have b2 := xCps_cnt (q := q1) (d := d) (z := 0) (r := r) (c := min r (0 + kcn (kCz S d 1) (N 1 0 0))) (by rw [f1 4 (by decide) (by decide) (by decide)]; exact hr) hr40 p1 (Nat.min_le_left _ _) (fun j h hm => by
    rw [(p4 j (fun y => n31 (by decide) (by decide) (by decide) ((m1 0 j).mp hm) ((m0 1 j).mp y))).1]
    exact d5 j h) (N 1 0 0) hj
  have f2 : ∀ f, f ≠ 5 → f ≠ 6 → f ≠ 8 → (xCps q1 d (nI 0) (N 1 0 0)).1 f = S f := fun f x y z => (xCps_s _ f x y z).trans (f1 f x y z)
  generalize xCps q1 d (nI 0) (N 1 0 0) = q2 at b2 f2 ⊢
  have m2 : ∀ z j, kMt q2.1 d z j ↔ kMt S d z j := fun z j => by
    unfold kMt
    rw [f2 2 (by decide) (by decide) (by decide), f2 3 (by decide) (by decide) (by decide)]
  have k2 : ∀ z, kCz q2.1 d z = kCz S d z := fun z => by
    funext j
    unfold kCz
    rw [f2 2 (by decide) (by decide) (by decide), f2 3 (by decide) (by decide) (by decide)]
  rw [k1] at b2
  obtain ⟨r1, r2, r3, r4⟩ := b2
  have b3 := xCps_cnt (q := q2) (d := d) (z := 2) (r := r) (c := min r (min r (0 + kcn (kCz S d 1) (N 1 0 0)) + kcn (kCz S d 0) (N 1 0 0))) (by rw [f2 4 (by decide) (by decide) (by decide)]; exact hr) hr40 r1 (Nat.min_le_left _ _) (fun j h hm => by
    rw [(r4 j (fun y => n31 (by decide) (by decide) (by decide) ((m2 2 j).mp hm) ((m1 0 j).mp y))).1, (p4 j (fun y => n31 (by decide) (by decide) (by decide) ((m2 2 j).mp hm) ((m0 1 j).mp y))).1]
    exact d5 j h) (N 1 0 0) hj
  rw [k2] at b3
  obtain ⟨s1, s2, s3, s4⟩ := b3
  have hst : ∀ j, j < N 1 0 0 → S 2 j 0 0 = nI d → kMt S d 0 j ∨ kMt S d 1 j ∨ kMt S d 2 j := fun j h1 h2 => by
    obtain ⟨⟨a, a1, a2⟩, _⟩ := V.2.1 j h1
    rcases (show a = 0 ∨ a = 1 ∨ a = 2 by omega) with rfl | rfl | rfl
    · exact Or.inl ⟨h2, a2⟩
    · exact Or.inr (Or.inl ⟨h2, a2⟩)
    · exact Or.inr (Or.inr ⟨h2, a2⟩)
  have tot : kcn (kCw S d) (N 1 0 0) = kcn (kCz S d 1) (N 1 0 0) + kcn (kCz S d 0) (N 1 0 0) + kcn (kCz S d 2) (N 1 0 0) := by
    rw [← kcn_add (f := kCz S d 1) (g := kCz S d 0) (h := fun i => kCz S d 1 i + kCz S d 0 i) (fun i _ => rfl)]
    refine kcn_add (fun i hi => ?_)
    unfold kCw
    by_cases c : S 2 i 0 0 = nI d
    · rw [if_pos c]
      rcases hst i hi c with y | y | y
      · rw [kCz_1 y, kCz_0 (n31 (by decide) (by decide) (by decide) y), kCz_0 (n31 (by decide) (by decide) (by decide) y)]
      · rw [kCz_1 y, kCz_0 (n31 (by decide) (by decide) (by decide) y), kCz_0 (n31 (by decide) (by decide) (by decide) y)]
      · rw [kCz_1 y, kCz_0 (n31 (by decide) (by decide) (by decide) y), kCz_0 (n31 (by decide) (by decide) (by decide) y)]
    · rw [if_neg c, kCz_0 (fun y => c y.1), kCz_0 (fun y => c y.1), kCz_0 (fun y => c y.1)]
  refine ⟨?_, fun hle j hj2 => ⟨fun hc => ?_, fun hc => ?_⟩⟩
  · rw [s1, tot]
    exact congrArg nI (by omega)
  · have q13 : ∀ x, ((sDrop S d, N) : kI4 × kN3).1 3 j 0 x = S 3 j 0 x := fun x => by rw [show ((sDrop S d, N) : kI4 × kN3).1 3 = S 3 from d3]
    rcases hst j hj2 hc with y | y | y
    · have w := r3 (by omega) j hj2 ((m1 0 j).mpr y)
      have u := s4 j (fun z => n31 (by decide) (by decide) (by decide) y ((m2 2 j).mp z))
      exact ⟨u.1.trans w.1, fun x hx => (u.2 x).trans ((w.2 x hx).trans (by rw [f1 3 (by decide) (by decide) (by decide)]))⟩
    · have w := p3 (by omega) j hj2 ((m0 1 j).mpr y)
      have u := r4 j (fun z => n31 (by decide) (by decide) (by decide) y ((m1 0 j).mp z))
      have v := s4 j (fun z => n31 (by decide) (by decide) (by decide) y ((m2 2 j).mp z))
      exact ⟨v.1.trans (u.1.trans w.1), fun x hx => (v.2 x).trans ((u.2 x).trans ((w.2 x hx).trans (q13 x)))⟩
    · have w := s3 (by omega) j hj2 ((m2 2 j).mpr y)
      exact ⟨w.1, fun x hx => (w.2 x hx).trans (by rw [f2 3 (by decide) (by decide) (by decide)])⟩
  · rw [(s4 j (fun y => hc ((m2 2 j).mp y).1)).1, (r4 j (fun y => hc ((m1 0 j).mp y).1)).1, (p4 j (fun y => hc ((m0 1 j).mp y).1)).1]
    exact d5 j (by omega)
/-! own jobs keep their numbers -/
theorem xStep.n9 {S : kI4} {N : kN3} {d b : Nat} {S' : kI4} {N' : kN3} (hj : N 1 0 0 ≤ 40) (h : xStep S N d b S' N') (e k : Nat) (h9 : S' 9 e k 0 = -1) : S 9 e k 0 = -1 := by
  obtain ⟨r, S1, N1, hx, hr⟩ := h
  have h1 : S1 9 e k 0 = -1 := by
    rcases hr with ⟨_, _, rfl, _⟩ | ⟨_, _, rfl, _⟩
    · exact h9
    · rw [w4_n (by omega)] at h9
      exact h9
  rcases hx with ⟨_, ⟨_, _, rfl, _⟩ | ⟨q, _, _, h4, _, rfl, _⟩⟩ | ⟨_, _, x, _, ⟨_, _, rfl⟩ | ⟨i, _, _, ⟨_, _, rfl⟩ | ⟨_, _, _, rfl⟩ | ⟨_, _, _, _, _, rfl⟩ | ⟨_, _, _, _, rfl⟩⟩⟩
  · exact h1
  · rw [sAddJ_n (by omega)] at h1
    unfold sNum sNum0 at h1
    rw [sHold_n (by omega), w4_n (by omega)] at h1
    by_cases c : e = d ∧ k = q
    · obtain ⟨rfl, rfl⟩ := c
      rw [w4_s] at h1
      exact absurd h1 (nI_m1 (by omega))
    · rw [w4_n (by omega)] at h1
      exact h1
  · exact h1
  · exact h1
  · exact h1
  · exact h1
  · rw [sPut_n (by omega)] at h1
    exact h1
theorem xSnd.n9 {S : kI4} {N : kN3} {d : Nat} (hj : N 1 0 0 ≤ 40) : ∀ {m c : Nat} {S' : kI4} {N' : kN3}, xSnd S N d m c S' N' → ∀ e k, S' 9 e k 0 = -1 → S 9 e k 0 = -1
  | 0, c, S', N', h, e, k, h9 => by
    obtain ⟨rfl, rfl, rfl⟩ := h
    exact h9
  | m + 1, c, S', N', h, e, k, h9 => by
    obtain ⟨c1, S1, N1, b, h1, h2, rfl⟩ := h
    exact xSnd.n9 hj h1 e k (h2.n9 (xSnd.ok2 hj h1).2.1 e k h9)
theorem kMq_le {s s' : kR2} (h : ∀ k, s' k 0 = -1 → s k 0 = -1) (n : Nat) : kcn (kMq s') n ≤ kcn (kMq s) n := kcn_le2 (fun i => by
  unfold kMq
  by_cases c : s' i 0 = -1
  · rw [if_pos c, if_pos (h i c)]
    exact Nat.le_refl 1
  · rw [if_neg c]
    exact Nat.zero_le _) n
/-! after a fetch with room for all: a step of what is held is done -/
def kFq (S : kI4) (N : kN3) (b d : Nat) : Prop := (∃ T, vS S N T) ∧ okX S N ∧ (∀ e, e < 4 → N 3 e 0 ≤ b) ∧ N 4 d 0 = N 3 d 0 ∧ ∀ j, j < N 1 0 0 → (S 2 j 0 0 = nI d → S 5 d j 0 = nI 1 ∧ ∀ x, x < 4 → S 8 d j x = S 3 j 0 x) ∧ (S 2 j 0 0 ≠ nI d → S 5 d j 0 = nI 0)
theorem kFq.dn {S : kI4} {N : kN3} {b d : Nat} {u : Int32} (K : kFq S N b d) : kFq (s12 S u) N b d := by
  obtain ⟨⟨T, V⟩, hO, h3, h4, h5⟩ := K
  refine ⟨⟨T, V.dn⟩, hO, h3, h4, fun j hj => ?_⟩
  rw [s12_n (by decide), s12_n (by decide)]
  exact ⟨fun hc => ⟨((h5 j hj).1 hc).1, fun x hx => by rw [s12_n (by decide), s12_n (by decide)]; exact ((h5 j hj).1 hc).2 x hx⟩, (h5 j hj).2⟩
/-- the change of job k, and its sending -/
def sGo (S : kI4) (N : kN3) (d k f v : Nat) : kI4 := sPut (sAct S d (N 3 d 0) (nI k) (nI f) (nI v) (if nI f = nI 0 then S 8 d k 2 else S 8 d k 3) (-1)) 8 d k (nI f) (nI v)
def nGo (N : kN3) (d : Nat) : kN3 := w3 N 3 d 0 (N 3 d 0 + 1)
theorem kFq.go {S : kI4} {N : kN3} {b d k f v c : Nat} {S2 : kI4} {N2 : kN3} (K : kFq S N b d) (hd : d < 4) (hb : b < 500) (hk : k < N 1 0 0) (hc : S 2 k 0 0 = nI d) (hf : (f = 0 ∧ v ≤ 2 ∧ kStep (S 3 k 0 0) (nI v)) ∨ (f = 1 ∧ v ≤ 10000)) (h : xSnd (sGo S N d k f v) (nGo N d) d 1 c S2 N2) : c = 1 ∧ kFq S2 N2 (b + 1) d ∧ N2 1 0 0 = N 1 0 0 ∧ S2 2 = S 2 ∧ S2 4 = S 4 ∧ S2 3 k 0 f = nI v ∧ N2 2 = N 2 := by
  obtain ⟨⟨T, V⟩, hO, h3, h4, h5⟩ := K
  have hj := V.1
  have hd3 := h3 d hd
  have hv : ∃ a, a ≤ 10000 ∧ nI v = nI a := ⟨v, by rcases hf with z | z <;> omega, rfl⟩
  have hf1 : nI f = nI 0 ∨ nI f = nI 1 := by
    rcases hf with z | z
    · exact Or.inl (congrArg nI z.1)
    · exact Or.inr (congrArg nI z.1)
  have V1 : vS (sGo S N d k f v) (nGo N d) T := V.change hd (Or.inl rfl) hv hf1 (Or.inl ⟨k, hk, rfl⟩)
  have O1 : okX (sGo S N d k f v) (nGo N d) := hO.n3 hd (by omega)
  have a1 : nGo N d 1 0 0 = N 1 0 0 := w3_n (by omega)
  have a4 : nGo N d 4 d 0 = N 3 d 0 := (w3_n (by omega)).trans h4
  have a3 : nGo N d 3 d 0 = N 3 d 0 + 1 := w3_s
  have g : ∀ f' e i j, f' ≠ 8 → f' ≠ 11 → sGo S N d k f v f' e i j = S f' e i j := fun f' e i j y z => by
    unfold sGo
    rw [sPut_n (by omega), sAct_n (by omega)]
  have g11 : ∀ j, sGo S N d k f v 11 d (N 3 d 0) j = if j = 0 then nI k else if j = 1 then nI f else if j = 2 then nI v else if j = 3 then (if nI f = nI 0 then S 8 d k 2 else S 8 d k 3) else -1 := fun j => by
    unfold sGo
    rw [sPut_n (by omega)]
    exact if_pos ⟨rfl, rfl, rfl⟩
  have g8n : ∀ i j, i ≠ k → sGo S N d k f v 8 d i j = S 8 d i j := fun i j y => by
    unfold sGo
    rw [sPut_n (by omega), sAct_n (by omega)]
  have hcp := ((h5 k hk).1 hc).2
  -- what the step is
  have st : xStep (sGo S N d k f v) (nGo N d) d 1 (sPut (sGo S N d k f v) 3 k 0 (nI f) (nI v)) (nTk (nGo N d) d) := by
    refine ⟨-1, _, _, Or.inr ⟨?_, rfl, nI k, Or.inr ⟨fun q hq e => ?_, ?_⟩, Or.inr ⟨k, ?_, rfl, Or.inr (Or.inr (Or.inr ⟨?_, ?_, ?_, rfl, ?_⟩))⟩⟩, Or.inl ⟨rfl, rfl, rfl, rfl⟩⟩
    · rw [a4, g11]
      show nI f ≠ -1
      rcases hf1 with z | z <;> rw [z] <;> decide
    · rw [a4, g11] at e
      have e2 : nI k = nI (1000 + q) := e
      have e3 : q < N 2 d 0 := by
        have z : w3 (nGo N d) 4 d 0 (nGo N d 4 d 0 + 1) 2 d 0 = N 2 d 0 := (w3_n (by omega)).trans (w3_n (by omega))
        rw [z] at hq
        exact hq
      have := nI_inj e2 (by omega) (by have := (hO.2 d hd).1; omega)
      omega
    · rw [a4, g11]
      rfl
    · rw [show w3 (nGo N d) 4 d 0 (nGo N d 4 d 0 + 1) 1 0 0 = N 1 0 0 from (w3_n (by omega)).trans a1]
      exact hk
    · rw [g 2 k 0 0 (by decide) (by decide)]
      exact hc
    · rw [a4, g11, g11]
      show xVer _ k (nI f) = if nI f = nI 0 then S 8 d k 2 else S 8 d k 3
      unfold xVer
      rw [g 3 k 0 2 (by decide) (by decide), g 3 k 0 3 (by decide) (by decide), hcp 2 (by decide), hcp 3 (by decide)]
    · rw [a4, g11, g11, g 3 k 0 0 (by decide) (by decide)]
      show nI f ≠ 0 ∨ kStep (S 3 k 0 0) (nI v)
      rcases hf with ⟨_, _, z⟩ | ⟨z, _⟩
      · exact Or.inr z
      · refine Or.inl ?_
        rw [z]
        decide
    · rw [a4, g11, g11]
      rfl
  have un := xSnd.un (O1.2 d hd).1 (by rw [a1]; exact hj) (m := 1) ⟨0, _, _, 1, ⟨rfl, rfl, rfl⟩, st, rfl⟩ h
  obtain ⟨e1, e2, e3⟩ := un
  obtain ⟨w1, w2, w3', w4'⟩ := V1.snd O1 hd (by rw [a3, a4]; exact Nat.le_refl _) h
  obtain ⟨_, _, _, x4, x5, x6⟩ := xSnd.ok2 (by rw [a1]; exact hj) h
  subst e2
  have n1 : N2 1 0 0 = N 1 0 0 := by
    rw [← e3, nTk_f (by decide), a1]
  have p : ∀ f' e i j, f' ≠ 3 → f' ≠ 8 → f' ≠ 11 → sPut (sGo S N d k f v) 3 k 0 (nI f) (nI v) f' e i j = S f' e i j := fun f' e i j y1 y2 y3 => by
    rw [sPut_n (by omega), g f' e i j y2 y3]
  have p3n : ∀ i j, i ≠ k → sPut (sGo S N d k f v) 3 k 0 (nI f) (nI v) 3 i 0 j = S 3 i 0 j := fun i j y => by
    rw [sPut_n (by omega), g 3 i 0 j (by decide) (by decide)]
  have p8n : ∀ i j, i ≠ k → sPut (sGo S N d k f v) 3 k 0 (nI f) (nI v) 8 d i j = S 8 d i j := fun i j y => by
    rw [sPut_n (by omega), g8n i j y]
  have p83 : ∀ x, x < 4 → sPut (sGo S N d k f v) 3 k 0 (nI f) (nI v) 8 d k x = sPut (sGo S N d k f v) 3 k 0 (nI f) (nI v) 3 k 0 x := fun x hx => by
    have q8 : ∀ y, sAct S d (N 3 d 0) (nI k) (nI f) (nI v) (if nI f = nI 0 then S 8 d k 2 else S 8 d k 3) (-1) 8 d k y = S 8 d k y := fun y => sAct_n (by omega)
    rw [sPut_n (show ¬ (8 = 3 ∧ d = k ∧ k = 0) by omega)]
    have u : ∀ y, y < 4 → sGo S N d k f v 3 k 0 y = S 8 d k y := fun y hy => by rw [g 3 k 0 y (by decide) (by decide), hcp y hy]
    unfold sGo at u ⊢
    generalize sAct S d (N 3 d 0) (nI k) (nI f) (nI v) (if nI f = nI 0 then S 8 d k 2 else S 8 d k 3) (-1) = R at q8 u ⊢
    rw [show sPut R 8 d k (nI f) (nI v) 8 d k x = (if nI f = nI 0 then w4 (w4 R 8 d k 0 (nI v)) 8 d k 2 (R 8 d k 2 + 1) else w4 (w4 R 8 d k 1 (nI v)) 8 d k 3 (R 8 d k 3 + 1)) 8 d k x from rfl]
    generalize sPut R 8 d k (nI f) (nI v) = Q at u ⊢
    unfold sPut
    have u0 := u 0 (by decide)
    have u1 := u 1 (by decide)
    have u2 := u 2 (by decide)
    have u3 := u 3 (by decide)
    rw [← q8] at u0 u1 u2 u3
    by_cases cf : nI f = nI 0
    · rw [if_pos cf, if_pos cf]
      rcases (show x = 0 ∨ x = 1 ∨ x = 2 ∨ x = 3 by omega) with rfl | rfl | rfl | rfl
      · rw [w4_n (by omega), w4_s, w4_n (by omega), w4_s]
      · rw [w4_n (by omega), w4_n (by omega), w4_n (by omega), w4_n (by omega), u1]
      · rw [w4_s, w4_s, u2]
      · rw [w4_n (by omega), w4_n (by omega), w4_n (by omega), w4_n (by omega), u3]
    · rw [if_neg cf, if_neg cf]
      rcases (show x = 0 ∨ x = 1 ∨ x = 2 ∨ x = 3 by omega) with rfl | rfl | rfl | rfl
      · rw [w4_n (by omega), w4_n (by omega), w4_n (by omega), w4_n (by omega), u0]
      · rw [w4_n (by omega), w4_s, w4_n (by omega), w4_s]
      · rw [w4_n (by omega), w4_n (by omega), w4_n (by omega), w4_n (by omega), u2]
      · rw [w4_s, w4_s, u3]
  refine ⟨e1.symm, ⟨⟨_, w1⟩, w2, fun e he => ?_, ?_, fun j hj2 => ?_⟩, n1, ?_, ?_, ?_, x4.trans (w3_f (by decide))⟩
  · rw [x5]
    have := h3 e he
    by_cases y : e = d
    · rw [y, a3]
      omega
    · rw [show nGo N d 3 e 0 = N 3 e 0 from w3_n (by omega)]
      omega
  · rw [x6, x5, w3_s, a4, a3]
  · rw [n1] at hj2
    rw [p 2 j 0 0 (by decide) (by decide) (by decide), p 5 d j 0 (by decide) (by decide) (by decide)]
    refine ⟨fun hc2 => ⟨((h5 j hj2).1 hc2).1, fun x hx => ?_⟩, (h5 j hj2).2⟩
    by_cases y : j = k
    · rw [y]
      exact p83 x hx
    · rw [p8n j x y, p3n j x y]
      exact ((h5 j hj2).1 hc2).2 x hx
  · funext i j x
    exact p 2 i j x (by decide) (by decide) (by decide)
  · funext i j x
    exact p 4 i j x (by decide) (by decide) (by decide)
  · unfold sPut
    rcases hf with ⟨z, _⟩ | ⟨z, _⟩
    · rw [z, if_pos rfl, w4_n (by omega), w4_s]
    · rw [z, if_neg (by decide), w4_n (by omega), w4_s]
