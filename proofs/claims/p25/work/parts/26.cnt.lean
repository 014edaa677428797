/-! counts; what a send does is determined; it doesn't look at the number of acts done -/
def kcn (f : Nat → Nat) : Nat → Nat
  | 0 => 0
  | n + 1 => kcn f n + f n
theorem kcn_le {f : Nat → Nat} (h : ∀ n, f n ≤ 1) : ∀ n, kcn f n ≤ n
  | 0 => Nat.le_refl 0
  | n + 1 => Nat.add_le_add (kcn_le h n) (h n)
theorem kcn_cg {f g : Nat → Nat} : ∀ {n : Nat}, (∀ i, i < n → f i = g i) → kcn f n = kcn g n
  | 0, _ => rfl
  | n + 1, h => by
    show kcn f n + f n = kcn g n + g n
    rw [kcn_cg (fun i hi => h i (Nat.lt_succ_of_lt hi)), h n (Nat.lt_succ_self n)]
theorem kcn_0 {f : Nat → Nat} : ∀ {n : Nat}, (∀ i, i < n → f i = 0) → kcn f n = 0
  | 0, _ => rfl
  | n + 1, h => by
    show kcn f n + f n = 0
    rw [kcn_0 (fun i hi => h i (Nat.lt_succ_of_lt hi)), h n (Nat.lt_succ_self n)]
theorem kcn_mono {f : Nat → Nat} {m n : Nat} (h : m ≤ n) : kcn f m ≤ kcn f n := by
  induction n with
  | zero => rw [Nat.le_zero.mp h]; exact Nat.le_refl _
  | succ n ih =>
    by_cases e : m = n + 1
    · rw [e]
      exact Nat.le_refl _
    · exact Nat.le_trans (ih (by omega)) (Nat.le_add_right _ _)
theorem kcn_out {f : Nat → Nat} {m n : Nat} (h : m ≤ n) (h0 : ∀ i, m ≤ i → i < n → f i = 0) : kcn f n = kcn f m := by
  induction n with
  | zero => rw [Nat.le_zero.mp h]
  | succ n ih =>
    by_cases e : m = n + 1
    · rw [e]
    · show kcn f n + f n = _
      rw [h0 n (by omega) (by omega), ih (by omega) (fun i h1 h2 => h0 i h1 (by omega))]
      rfl
theorem kcn_up {f g : Nat → Nat} {i : Nat} (hi : g i = f i + 1) (hj : ∀ j, j ≠ i → g j = f j) : ∀ {n : Nat}, i < n → kcn g n = kcn f n + 1
  | 0, h => absurd h (Nat.not_lt_zero i)
  | n + 1, h => by
    show kcn g n + g n = kcn f n + f n + 1
    by_cases e : i = n
    · subst e
      rw [hi, kcn_cg (fun j hj2 => hj j (by omega))]
      omega
    · rw [kcn_up hi hj (by omega), hj n (by omega)]
      omega
theorem kcn_add {f g h : Nat → Nat} : ∀ {n : Nat}, (∀ i, i < n → h i = f i + g i) → kcn h n = kcn f n + kcn g n
  | 0, _ => rfl
  | n + 1, e => by
    show kcn h n + h n = kcn f n + f n + (kcn g n + g n)
    rw [kcn_add (fun i hi => e i (Nat.lt_succ_of_lt hi)), e n (Nat.lt_succ_self n)]
    omega
theorem w4_f {S : kI4} {f d k j f' : Nat} {v : Int32} (h : f' ≠ f) : w4 S f d k j v f' = S f' := by
  funext a b c
  exact w4_n (fun z => h z.1)
theorem w4_d {S : kI4} {f d k j f' d' : Nat} {v : Int32} (h : ¬ (f' = f ∧ d' = d)) : w4 S f d k j v f' d' = S f' d' := by
  funext b c
  exact w4_n (fun z => h ⟨z.1, z.2.1⟩)
theorem w3_f {N : kN3} {f d k f' : Nat} {v : Nat} (h : f' ≠ f) : w3 N f d k v f' = N f' := by
  funext a b
  exact w3_n (fun z => h z.1)
theorem w3_d {N : kN3} {f d k f' d' : Nat} {v : Nat} (h : ¬ (f' = f ∧ d' = d)) : w3 N f d k v f' d' = N f' d' := by
  funext b
  exact w3_n (fun z => h ⟨z.1, z.2.1⟩)
theorem nI_m1 {n : Nat} (h : n < 2 ^ 31) : nI n ≠ -1 := fun e => absurd (show nI n < 0 by rw [e]; decide) (nI_pos h)
theorem kCn.un {S : kI4} {N : kN3} {d : Nat} {x r r2 : Int32} (ho : N 2 d 0 ≤ 512) (h : kCn S N d x r) (g : kCn S N d x r2) : r = r2 := by
  rcases h with ⟨k, h1, h2, h3⟩ | ⟨h1, h2⟩ <;> rcases g with ⟨j, g1, g2, g3⟩ | ⟨g1, g2⟩
  · have := kown_inj (h2.symm.trans g2) (by omega) (by omega)
    subst this
    rw [h3, g3]
  · exact absurd h2 (g1 k h1)
  · exact absurd g2 (h1 j g1)
  · rw [h2, g2]
theorem kHf.un {S : kI4} {N : kN3} {d : Nat} {x : Int32} {o o2 : Option kT} (ho : N 2 d 0 ≤ 512) (h : kHf S N d x o) (g : kHf S N d x o2) : o = o2 := by
  rcases h with ⟨k, h1, h2, h3, h4⟩ | ⟨h1, r, h2, h3⟩ <;> rcases g with ⟨j, g1, g2, g3, g4⟩ | ⟨g1, r2, g2, g3⟩
  · have := kown_inj (h2.symm.trans g2) (by omega) (by omega)
    subst this
    rw [h4, g4]
  · exact absurd h3 (g1 k h1 h2)
  · exact absurd g3 (h1 j g1 g2)
  · have e := h2.un ho g2
    subst e
    rcases h3 with ⟨n, a1, a2, a3, a4⟩ | ⟨a1, a2⟩ <;> rcases g3 with ⟨m, b1, b2, b3, b4⟩ | ⟨b1, b2⟩
    · have e := nI_inj (a2.symm.trans b2) (by omega) (by omega)
      subst e
      rcases a4 with ⟨c1, c2⟩ | ⟨c1, c2⟩ <;> rcases b4 with ⟨e1, e2⟩ | ⟨e1, e2⟩
      · rw [c2, e2]
      · exact absurd e1 c1
      · exact absurd c1 e1
      · rw [c2, e2]
    · exact absurd (b1 n a1 a2) a3
    · exact absurd (a1 m b1 b2) b3
    · rw [a2, b2]
theorem xMaking.un {S : kI4} {N : kN3} {d k : Nat} {r r2 : Int32} {S' S2 : kI4} {N' N2 : kN3} (ho : N 2 d 0 ≤ 512) (h : xMaking S N d k r S' N') (g : xMaking S N d k r2 S2 N2) : r = r2 ∧ S' = S2 ∧ N' = N2 := by
  rcases h with ⟨h0, rfl, rfl, rfl⟩ | ⟨q, h1, h2, h3, rfl, rfl, rfl⟩ <;> rcases g with ⟨g0, rfl, rfl, rfl⟩ | ⟨p, g1, g2, g3, rfl, rfl, rfl⟩
  · exact ⟨rfl, rfl, rfl⟩
  · rcases h0 with z | z
    · omega
    · exact absurd g2 (z p g1)
  · rcases g0 with z | z
    · omega
    · exact absurd h2 (z q h1)
  · have e := kown_inj (h2.symm.trans g2) (by omega) (by omega)
    subst e
    exact ⟨rfl, rfl, rfl⟩
theorem xChi.un {S : kI4} {d k i : Nat} {r r2 : Int32} {S' S2 : kI4} (h : xChi S d k i r S') (g : xChi S d k i r2 S2) : r = r2 ∧ S' = S2 := by
  rcases h with ⟨h1, rfl, rfl⟩ | ⟨h1, h2, rfl, rfl⟩ | ⟨h1, h2, h3, h4, rfl, rfl⟩ | ⟨h1, h2, h3, rfl, rfl⟩ <;> rcases g with ⟨g1, rfl, rfl⟩ | ⟨g1, g2, rfl, rfl⟩ | ⟨g1, g2, g3, g4, rfl, rfl⟩ | ⟨g1, g2, g3, rfl, rfl⟩
  all_goals first
    | exact ⟨rfl, rfl⟩
    | exact absurd g1 h1
    | exact absurd h1 g1
    | exact absurd g2 h2
    | exact absurd h2 g2
    | exact absurd h3 (fun z => g3.elim (fun y => y z) (fun y => h4 y))
    | exact absurd g3 (fun z => h3.elim (fun y => y z) (fun y => g4 y))
theorem xChg.un {S : kI4} {N : kN3} {d k : Nat} {r r2 : Int32} {S' S2 : kI4} {N' N2 : kN3} (ho : N 2 d 0 ≤ 512) (hj : N 1 0 0 ≤ 40) (h : xChg S N d k r S' N') (g : xChg S N d k r2 S2 N2) : r = r2 ∧ S' = S2 ∧ N' = N2 := by
  obtain ⟨rfl, x, h1, h2⟩ := h
  obtain ⟨rfl, y, g1, g2⟩ := g
  have e := h1.un ho g1
  subst e
  rcases h2 with ⟨a1, rfl, rfl⟩ | ⟨i, a1, a2, a3⟩ <;> rcases g2 with ⟨b1, rfl, rfl⟩ | ⟨j, b1, b2, b3⟩
  · exact ⟨rfl, rfl, rfl⟩
  · exact absurd (by rw [b2]; exact kix.of b1 (by omega)) a1
  · exact absurd (by rw [a2]; exact kix.of a1 (by omega)) b1
  · have e := nI_inj (a2.symm.trans b2) (by omega) (by omega)
    subst e
    have z := a3.un b3
    exact ⟨z.1, z.2, rfl⟩
theorem xDel.un {S : kI4} {N : kN3} {d k : Nat} {r r2 : Int32} {S' S2 : kI4} {N' N2 : kN3} (ho : N 2 d 0 ≤ 512) (hj : N 1 0 0 ≤ 40) (h : xDel S N d k r S' N') (g : xDel S N d k r2 S2 N2) : r = r2 ∧ S' = S2 ∧ N' = N2 := by
  rcases h with ⟨h0, h⟩ | ⟨h0, h⟩ <;> rcases g with ⟨g0, g⟩ | ⟨g0, g⟩
  · exact h.un ho g
  · exact absurd h0 g0
  · exact absurd g0 h0
  · exact h.un ho hj g
theorem xStep.un {S : kI4} {N : kN3} {d b b2 : Nat} {S' S2 : kI4} {N' N2 : kN3} (ho : N 2 d 0 ≤ 512) (hj : N 1 0 0 ≤ 40) (h : xStep S N d b S' N') (g : xStep S N d b2 S2 N2) : b = b2 ∧ S' = S2 ∧ N' = N2 := by
  obtain ⟨r, S1, N1, h1, h2⟩ := h
  obtain ⟨q, T1, M1, g1, g2⟩ := g
  obtain ⟨rfl, rfl, rfl⟩ := h1.un (by rw [w3_n (by omega)]; exact ho) (by rw [w3_n (by omega)]; exact hj) g1
  rcases h2 with ⟨a1, rfl, rfl, rfl⟩ | ⟨a1, rfl, rfl, rfl⟩ <;> rcases g2 with ⟨b1, rfl, rfl, rfl⟩ | ⟨b1, rfl, rfl, rfl⟩
  · exact ⟨rfl, rfl, rfl⟩
  · exact absurd a1 b1
  · exact absurd b1 a1
  · exact ⟨rfl, rfl, rfl⟩
/-- what a step of a send leaves -/
theorem xDel.ok2 {S : kI4} {N : kN3} {d k : Nat} {r : Int32} {S' : kI4} {N' : kN3} (h : xDel S N d k r S' N') : N' 1 0 0 ≤ max 40 (N 1 0 0) ∧ N 1 0 0 ≤ N' 1 0 0 ∧ ∀ f, f ≠ 1 → f ≠ 11 → N' f = N f := by
  rcases h with ⟨_, ⟨_, _, rfl, rfl⟩ | ⟨q, _, _, h4, _, rfl, rfl⟩⟩ | ⟨_, rfl, _⟩
  · exact ⟨by omega, Nat.le_refl _, fun _ _ _ => rfl⟩
  · have e : nAddJ (nHold N d (N 1 0 0)) 1 0 0 = N 1 0 0 + 1 := w3_s.trans (by rw [nHold_n (by omega)])
    refine ⟨by omega, by omega, fun f h1 h2 => ?_⟩
    unfold nAddJ
    rw [w3_f h1]
    funext a b
    exact nHold_n (fun z => h2 z.1)
  · exact ⟨by omega, Nat.le_refl _, fun _ _ _ => rfl⟩
theorem nRef_f {N : kN3} {d k f : Nat} (z : f ≠ 5 ∧ f ≠ 6) : nRef N d k f = N f := by
  funext i j
  exact nRef_n z
theorem xStep.ok2 {S : kI4} {N : kN3} {d b : Nat} {S' : kI4} {N' : kN3} (h : xStep S N d b S' N') : b ≤ 1 ∧ N' 1 0 0 ≤ max 40 (N 1 0 0) ∧ N 1 0 0 ≤ N' 1 0 0 ∧ N' 2 = N 2 ∧ N' 3 = N 3 ∧ N' 4 = w3 N 4 d 0 (N 4 d 0 + 1) 4 := by
  obtain ⟨r, S1, N1, h1, h2⟩ := h
  obtain ⟨a1, a2, a3⟩ := h1.ok2
  have e1 : w3 N 4 d 0 (N 4 d 0 + 1) 1 0 0 = N 1 0 0 := w3_n (by omega)
  rw [e1] at a1 a2
  have e2 : N1 2 = N 2 := (a3 2 (by decide) (by decide)).trans (w3_f (by decide))
  have e3 : N1 3 = N 3 := (a3 3 (by decide) (by decide)).trans (w3_f (by decide))
  have e4 : N1 4 = w3 N 4 d 0 (N 4 d 0 + 1) 4 := a3 4 (by decide) (by decide)
  rcases h2 with ⟨_, rfl, rfl, rfl⟩ | ⟨_, rfl, rfl, rfl⟩
  · exact ⟨Nat.le_refl 1, a1, a2, e2, e3, e4⟩
  · rw [nRef_f (show 1 ≠ 5 ∧ 1 ≠ 6 by decide), nRef_f (show 2 ≠ 5 ∧ 2 ≠ 6 by decide), nRef_f (show 3 ≠ 5 ∧ 3 ≠ 6 by decide), nRef_f (show 4 ≠ 5 ∧ 4 ≠ 6 by decide)]
    exact ⟨Nat.zero_le 1, a1, a2, e2, e3, e4⟩
theorem xSnd.ok2 {S : kI4} {N : kN3} {d : Nat} (hj : N 1 0 0 ≤ 40) : ∀ {m c : Nat} {S' : kI4} {N' : kN3}, xSnd S N d m c S' N' → c ≤ m ∧ N' 1 0 0 ≤ 40 ∧ N 1 0 0 ≤ N' 1 0 0 ∧ N' 2 = N 2 ∧ N' 3 = N 3 ∧ N' 4 = w3 N 4 d 0 (N 4 d 0 + m) 4
  | 0, c, S', N', h => by
    obtain ⟨rfl, rfl, rfl⟩ := h
    refine ⟨Nat.le_refl 0, hj, Nat.le_refl _, rfl, rfl, ?_⟩
    funext a b
    by_cases e : a = d ∧ b = 0
    · obtain ⟨rfl, rfl⟩ := e
      exact (w3_s (N := N')).symm
    · exact (w3_n (by omega)).symm
  | m + 1, c, S', N', h => by
    obtain ⟨c1, S1, N1, b, h1, h2, rfl⟩ := h
    obtain ⟨a0, a1, a2, a3, a4, a5⟩ := xSnd.ok2 hj h1
    obtain ⟨b0, b1, b2, b3, b4, b5⟩ := h2.ok2
    refine ⟨by omega, by omega, by omega, b3.trans a3, b4.trans a4, ?_⟩
    rw [b5]
    funext a b
    by_cases e : a = d ∧ b = 0
    · obtain ⟨rfl, rfl⟩ := e
      rw [w3_s, w3_s, a5, w3_s]
      omega
    · rw [w3_n (by omega), w3_n (by omega), a5, w3_n (by omega)]
theorem xSnd.un {S : kI4} {N : kN3} {d : Nat} (ho : N 2 d 0 ≤ 512) (hj : N 1 0 0 ≤ 40) : ∀ {m c c2 : Nat} {S' S2 : kI4} {N' N2 : kN3}, xSnd S N d m c S' N' → xSnd S N d m c2 S2 N2 → c = c2 ∧ S' = S2 ∧ N' = N2
  | 0, c, c2, S', S2, N', N2, h, g => by
    obtain ⟨rfl, rfl, rfl⟩ := h
    obtain ⟨rfl, rfl, rfl⟩ := g
    exact ⟨rfl, rfl, rfl⟩
  | m + 1, c, c2, S', S2, N', N2, h, g => by
    obtain ⟨c1, S1, N1, b, h1, h2, rfl⟩ := h
    obtain ⟨e1, T1, M1, q, g1, g2, rfl⟩ := g
    obtain ⟨rfl, rfl, rfl⟩ := xSnd.un ho hj h1 g1
    have z := xSnd.ok2 hj h1
    obtain ⟨rfl, rfl, rfl⟩ := h2.un (by rw [z.2.2.2.1]; exact ho) z.2.1 g2
    exact ⟨rfl, rfl, rfl⟩
/-! the number of acts done is another's -/
def s12 (S : kI4) (u : Int32) : kI4 := w4 S 12 0 0 0 u
theorem s12_n {S : kI4} {u : Int32} {f d k j : Nat} (h : f ≠ 12) : s12 S u f d k j = S f d k j := w4_n (by omega)
theorem s12_w {S : kI4} {u v : Int32} {f d k j : Nat} (h : f ≠ 12) : w4 (s12 S u) f d k j v = s12 (w4 S f d k j v) u := by
  funext a b c e
  unfold s12
  by_cases z : a = 12 ∧ b = 0 ∧ c = 0 ∧ e = 0
  · obtain ⟨rfl, rfl, rfl, rfl⟩ := z
    rw [w4_n (by omega), w4_s, w4_s]
  · rw [w4_n (f := 12) z]
    by_cases y : a = f ∧ b = d ∧ c = k ∧ e = j
    · obtain ⟨rfl, rfl, rfl, rfl⟩ := y
      rw [w4_s, w4_s]
    · rw [w4_n y, w4_n y, w4_n z]
theorem s12_put {S : kI4} {u : Int32} {fS a b : Nat} {f x : Int32} (h : fS ≠ 12) : sPut (s12 S u) fS a b f x = s12 (sPut S fS a b f x) u := by
  unfold sPut
  by_cases e : f = nI 0
  · rw [if_pos e, if_pos e, s12_n h, s12_w h, s12_w h]
  · rw [if_neg e, if_neg e, s12_n h, s12_w h, s12_w h]
theorem s12_copy {S : kI4} {u : Int32} {d n : Nat} {g : Nat → Int32} : sCopy (s12 S u) d n g = s12 (sCopy S d n g) u := by
  funext a b c e
  by_cases z : a = 8 ∧ b = d ∧ c = n ∧ e < 4
  · rw [s12_n (by omega)]
    show (if a = 8 ∧ b = d ∧ c = n ∧ e < 4 then _ else _) = (if a = 8 ∧ b = d ∧ c = n ∧ e < 4 then _ else _)
    rw [if_pos z, if_pos z]
  · show (if a = 8 ∧ b = d ∧ c = n ∧ e < 4 then _ else _) = _
    rw [if_neg z]
    by_cases y : a = 12 ∧ b = 0 ∧ c = 0 ∧ e = 0
    · obtain ⟨rfl, rfl, rfl, rfl⟩ := y
      exact w4_s.trans w4_s.symm
    · refine (w4_n y).trans ((w4_n y).trans ?_).symm
      exact if_neg z
theorem s12_hold {S : kI4} {u : Int32} {d n : Nat} {g : Nat → Int32} : sHold (s12 S u) d n g = s12 (sHold S d n g) u := by
  unfold sHold
  rw [s12_n (show 5 ≠ 12 by decide), s12_n (show 6 ≠ 12 by decide), s12_copy]
  by_cases e : S 5 d n 0 = 0
  · rw [if_pos e, if_pos e, s12_w (show 5 ≠ 12 by decide), s12_w (show 6 ≠ 12 by decide)]
  · rw [if_neg e, if_neg e]
theorem s12_addJ {S : kI4} {u : Int32} {n : Nat} {cr si : Int32} : sAddJ (s12 S u) n cr si = s12 (sAddJ S n cr si) u := by
  funext a b c e
  by_cases y : a = 12 ∧ b = 0 ∧ c = 0 ∧ e = 0
  · obtain ⟨rfl, rfl, rfl, rfl⟩ := y
    rw [show s12 (sAddJ S n cr si) u 12 0 0 0 = u from w4_s, sAddJ_n (by omega)]
    exact w4_s
  · rw [show s12 (sAddJ S n cr si) u a b c e = sAddJ S n cr si a b c e from w4_n y]
    unfold sAddJ
    rw [show s12 S u a b c e = S a b c e from w4_n y]
theorem s12_num {S : kI4} {u : Int32} {d k n : Nat} : sNum (s12 S u) d k n = s12 (sNum S d k n) u := by
  unfold sNum sNum0
  rw [s12_n (show 7 ≠ 12 by decide), s12_w (show 9 ≠ 12 by decide), s12_w (show 7 ≠ 12 by decide), ← s12_hold]
  refine congrArg (sHold _ d n) ?_
  funext j
  exact s12_n (by decide)
theorem xDel.to12 {S : kI4} {N : kN3} {d k : Nat} {r : Int32} {S' : kI4} {N' : kN3} (u : Int32) (h : xDel S N d k r S' N') : xDel (s12 S u) N d k r (s12 S' u) N' := by
  unfold xDel xMaking xChg xChi xVer kCn at h ⊢
  simp only [s12_n (show 11 ≠ 12 by decide), s12_n (show 9 ≠ 12 by decide), s12_n (show 2 ≠ 12 by decide), s12_n (show 3 ≠ 12 by decide)]
  rcases h with ⟨h0, ⟨h1, h2, rfl, h3⟩ | ⟨q, h1, h2, h3, h4, rfl, h5⟩⟩ | ⟨h0, h1, x, h2, ⟨h3, h4, rfl⟩ | ⟨i, h3, h4, ⟨a1, a2, rfl⟩ | ⟨a1, a2, a3, rfl⟩ | ⟨a1, a2, a3, a4, a5, rfl⟩ | ⟨a1, a2, a3, a4, rfl⟩⟩⟩
  · exact Or.inl ⟨h0, Or.inl ⟨h1, h2, rfl, h3⟩⟩
  · exact Or.inl ⟨h0, Or.inr ⟨q, h1, h2, h3, h4, by rw [s12_num, s12_addJ], h5⟩⟩
  · exact Or.inr ⟨h0, h1, x, h2, Or.inl ⟨h3, h4, rfl⟩⟩
  · exact Or.inr ⟨h0, h1, x, h2, Or.inr ⟨i, h3, h4, Or.inl ⟨a1, a2, rfl⟩⟩⟩
  · exact Or.inr ⟨h0, h1, x, h2, Or.inr ⟨i, h3, h4, Or.inr (Or.inl ⟨a1, a2, a3, rfl⟩)⟩⟩
  · exact Or.inr ⟨h0, h1, x, h2, Or.inr ⟨i, h3, h4, Or.inr (Or.inr (Or.inl ⟨a1, a2, a3, a4, a5, rfl⟩))⟩⟩
  · exact Or.inr ⟨h0, h1, x, h2, Or.inr ⟨i, h3, h4, Or.inr (Or.inr (Or.inr ⟨a1, a2, a3, a4, by rw [s12_put (by decide)]⟩))⟩⟩
theorem xStep.to12 {S : kI4} {N : kN3} {d b : Nat} {S' : kI4} {N' : kN3} (u : Int32) (h : xStep S N d b S' N') : xStep (s12 S u) N d b (s12 S' u) N' := by
  obtain ⟨r, S1, N1, h1, h2⟩ := h
  refine ⟨r, _, N1, h1.to12 u, ?_⟩
  rcases h2 with ⟨a1, a2, rfl, a3⟩ | ⟨a1, a2, rfl, a3⟩
  · exact Or.inl ⟨a1, a2, rfl, a3⟩
  · exact Or.inr ⟨a1, a2, by rw [s12_w (by decide)], a3⟩
theorem s12_s12 {S : kI4} {u v : Int32} : s12 (s12 S u) v = s12 S v := by
  funext a b c e
  unfold s12
  by_cases y : a = 12 ∧ b = 0 ∧ c = 0 ∧ e = 0
  · obtain ⟨rfl, rfl, rfl, rfl⟩ := y
    rw [w4_s, w4_s]
  · rw [w4_n y, w4_n y, w4_n y]
theorem s12_id {S : kI4} : s12 S (S 12 0 0 0) = S := by
  funext a b c e
  unfold s12
  by_cases y : a = 12 ∧ b = 0 ∧ c = 0 ∧ e = 0
  · obtain ⟨rfl, rfl, rfl, rfl⟩ := y
    rw [w4_s]
  · rw [w4_n y]
theorem s12_at {S : kI4} {u : Int32} : s12 S u 12 0 0 0 = u := w4_s
theorem xDel.done {S : kI4} {N : kN3} {d k : Nat} {r : Int32} {S' : kI4} {N' : kN3} (h : xDel S N d k r S' N') : S' 12 0 0 0 = S 12 0 0 0 := by
  rcases h with ⟨_, ⟨_, _, rfl, rfl⟩ | ⟨q, _, _, h4, _, rfl, rfl⟩⟩ | ⟨_, rfl, x, _, ⟨_, _, rfl⟩ | ⟨i, _, _, ⟨_, _, rfl⟩ | ⟨_, _, _, rfl⟩ | ⟨_, _, _, _, _, rfl⟩ | ⟨_, _, _, _, rfl⟩⟩⟩
  · rfl
  · rw [sAddJ_n (by omega)]
    unfold sNum sNum0
    rw [sHold_n (by omega), w4_n (by omega), w4_n (by omega)]
  · rfl
  · rfl
  · rfl
  · rfl
  · exact sPut_n (by omega)
theorem xStep.done {S : kI4} {N : kN3} {d b : Nat} {S' : kI4} {N' : kN3} (h : xStep S N d b S' N') : S' 12 0 0 0 = S 12 0 0 0 := by
  obtain ⟨r, S1, N1, h1, ⟨a1, a2, rfl, a3⟩ | ⟨a1, a2, rfl, a3⟩⟩ := h
  · exact h1.done
  · rw [w4_n (by omega)]
    exact h1.done
theorem xSnd.done {S : kI4} {N : kN3} {d : Nat} : ∀ {m c : Nat} {S' : kI4} {N' : kN3}, xSnd S N d m c S' N' → S' 12 0 0 0 = S 12 0 0 0
  | 0, c, S', N', h => by rw [h.2.1]
  | m + 1, c, S', N', h => by
    obtain ⟨c1, S1, N1, b, h1, h2, _⟩ := h
    exact h2.done.trans (xSnd.done h1)
/-- a send of one act more, from what the sends of single acts have left -/
theorem xSnd.one {S : kI4} {N : kN3} {d m c : Nat} {S1 : kI4} {N1 : kN3} (h : xSnd S N d m c S1 N1) {v : Int32} {c2 : Nat} {S2 : kI4} {N2 : kN3} (g : xSnd (s12 S1 v) N1 d 1 c2 S2 N2) : ∃ S3, xSnd S N d (m + 1) (c + c2) S3 N2 ∧ S2 = s12 S3 v := by
  obtain ⟨c1, T1, M1, b, ⟨rfl, rfl, rfl⟩, g2, rfl⟩ := g
  have z := g2.to12 (S1 12 0 0 0)
  rw [s12_s12, s12_id] at z
  refine ⟨_, ⟨c, S1, M1, b, h, z, by omega⟩, ?_⟩
  rw [s12_s12]
  have e := g2.done
  rw [s12_at] at e
  rw [← e, s12_id]
