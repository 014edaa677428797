/-! a send, act by act -/
theorem nI_d {a b : Nat} (h : nI a = nI b) (ha : a < 4) (hb : b < 4) : a = b := nI_inj h (by omega) (by omega)
def nTk (N : kN3) (d : Nat) : kN3 := w3 N 4 d 0 (N 4 d 0 + 1)
theorem nTk_f {N : kN3} {d f : Nat} (h : f ≠ 4) : nTk N d f = N f := w3_f h
theorem vS.refd {S : kI4} {N : kN3} {T d r : Nat} (h : vS S N T) (hd : d < 4) (hn : N 4 d 0 < N 3 d 0) (hr : r ≤ 3) (hr3 : r = 3 → N 1 0 0 = 40) (hm : S 11 d (N 4 d 0) 1 = -1 → N 1 0 0 = 40) : vS (w4 S 11 d (N 4 d 0) 4 (nI r)) (nRef (nTk N d) d (N 4 d 0)) T ∧ nRef (nTk N d) d (N 4 d 0) 5 d 0 = N 5 d 0 + 1 ∧ ∀ e, e ≠ d → nRef (nTk N d) d (N 4 d 0) 5 e 0 = N 5 e 0 := by
  have ef : ∀ f, f ≠ 4 → f ≠ 5 → f ≠ 6 → nRef (nTk N d) d (N 4 d 0) f = N f := fun f z1 z2 z3 => by
    rw [nRef_f ⟨z2, z3⟩, nTk_f z1]
  have e1 : nRef (nTk N d) d (N 4 d 0) 1 0 0 = N 1 0 0 := by rw [ef 1 (by decide) (by decide) (by decide)]
  have e5d : nRef (nTk N d) d (N 4 d 0) 5 d 0 = N 5 d 0 + 1 := by
    refine w3_s.trans ?_
    rw [nTk_f (by decide)]
  have e5 : ∀ e, e ≠ d → nRef (nTk N d) d (N 4 d 0) 5 e 0 = N 5 e 0 := fun e z => by
    refine (w3_n (by omega)).trans ((w3_n (by omega)).trans ?_)
    rw [nTk_f (by decide)]
  have e4d : nRef (nTk N d) d (N 4 d 0) 4 d 0 = N 4 d 0 + 1 := by
    rw [nRef_f (show 4 ≠ 5 ∧ 4 ≠ 6 by decide)]
    exact w3_s
  have e6 : ∀ i, i < N 5 d 0 → nRef (nTk N d) d (N 4 d 0) 6 d i = N 6 d i := fun i z => by
    refine (w3_n (by omega)).trans ((w3_n (fun y => ?_)).trans ?_)
    · rw [nTk_f (by decide)] at y
      omega
    · rw [nTk_f (by decide)]
  have e6d : nRef (nTk N d) d (N 4 d 0) 6 d (N 5 d 0) = N 4 d 0 := by
    refine (w3_n (by omega)).trans ?_
    rw [show nTk N d 5 d 0 = N 5 d 0 by rw [nTk_f (by decide)]]
    exact w3_s
  refine ⟨⟨by rw [e1]; exact h.1, ?_, fun e he => ?_⟩, e5d, e5⟩
  · rw [e1, w4_f (by decide)]
    exact h.2.1
  · by_cases c : e = d
    · subst c
      obtain ⟨h1, h2, h3, h4, h5⟩ := h.2.2 e he
      unfold vD
      rw [e1, w4_f (show 4 ≠ 11 by decide), w4_f (show 5 ≠ 11 by decide), w4_f (show 6 ≠ 11 by decide), w4_f (show 7 ≠ 11 by decide), w4_f (show 9 ≠ 11 by decide), ef 2 (by decide) (by decide) (by decide), ef 3 (by decide) (by decide) (by decide), ef 11 (by decide) (by decide) (by decide), e4d, e5d]
      refine ⟨h1, h2, h3, (h4.take hn hm).cg (fun i q _ hq => w4_n (by omega)), h5.ref hn hr hr3 e6 e6d (fun i hi => w4_n (by omega)) w4_s⟩
    · refine (h.2.2 e he).cg e1 (fun f hf => w4_d (by omega)) (fun f hf => ?_)
      rw [show nRef (nTk N d) d (N 4 d 0) f e = nTk N d f e from (w3_d (by omega)).trans (w3_d (by omega))]
      exact w3_d (by omega)
/-- the acts of a device, by kinds -/
theorem vS.act {S : kI4} {N : kN3} {T d j : Nat} (h : vS S N T) (hd : d < 4) (hj : j < N 3 d 0) : vA1 (S 9 d) (S 11 d) (N 1 0 0) (N 2 d 0) (N 4 d 0) j := (h.2.2 d hd).2.2.2.1.2.2.1 j hj
theorem vS.step {S : kI4} {N : kN3} {T d b : Nat} {S' : kI4} {N' : kN3} (h : vS S N T) (hO : okX S N) (hd : d < 4) (hn : N 4 d 0 < N 3 d 0) (hs : xStep S N d b S' N') : vS S' N' (T + 1) ∧ N' 5 d 0 + b = N 5 d 0 + 1 ∧ ∀ e, e ≠ d → N' 5 e 0 = N 5 e 0 := by
  obtain ⟨r, S1, N1, hx, hr⟩ := hs
  have ho2 : N 2 d 0 ≤ 512 := (hO.2 d hd).1
  have hj := h.1
  have hx2 : xDel S (nTk N d) d (N 4 d 0) r S1 N1 := hx
  have t1 : nTk N d 1 0 0 = N 1 0 0 := by rw [nTk_f (by decide)]
  have t2 : nTk N d 2 d 0 = N 2 d 0 := by rw [nTk_f (by decide)]
  obtain ⟨⟨x0, hx0, hx1⟩, hA⟩ := h.act hd hn
  have key : ∀ r0, r0 ≤ 3 → (r0 = 3 → N 1 0 0 = 40) → (S 11 d (N 4 d 0) 1 = -1 → N 1 0 0 = 40) → r = nI r0 → S1 = S → N1 = nTk N d → vS S' N' (T + 1) ∧ N' 5 d 0 + b = N 5 d 0 + 1 ∧ ∀ e, e ≠ d → N' 5 e 0 = N 5 e 0 := by
    intro r0 g1 g2 g3 g4 g5 g6
    subst g4; subst g5; subst g6
    rcases hr with ⟨a1, _⟩ | ⟨a1, rfl, rfl, rfl⟩
    · exact absurd a1 (nI_m1 (by omega))
    · have z := h.refd hd hn g1 g2 g3
      exact ⟨z.1.up (by omega), z.2.1, z.2.2⟩
  rcases hx2 with ⟨hm, hx2⟩ | ⟨hm, hx2⟩
  · rcases hA with ⟨_, k, k1, k2, k3, k4⟩ | ⟨a1, _⟩
    · rcases hx2 with ⟨h0, rfl, rfl, rfl⟩ | ⟨q, q1, q2, q3, rfl, rfl, rfl⟩
      · have z : N 1 0 0 = 40 := by
          rcases h0 with z | z
          · rw [t1] at z
            exact z
          · exact absurd k2 (z k (by rw [t2]; exact k1))
        exact key 3 (by decide) (fun _ => z) (fun _ => z) rfl rfl rfl
      · rcases hr with ⟨_, rfl, rfl, rfl⟩ | ⟨a1, _⟩
        · rw [t1] at q3
          rw [t2] at q1
          rw [t1]
          have e1 : nAddJ (nHold (nTk N d) d (N 1 0 0)) 1 0 0 = N 1 0 0 + 1 := by
            refine w3_s.trans ?_
            rw [nHold_n (by omega), t1]
          have ef : ∀ f e, f ≠ 1 → ¬ (f = 11 ∧ e = d) → ¬ (f = 4 ∧ e = d) → nAddJ (nHold (nTk N d) d (N 1 0 0)) f e = N f e := fun f e z1 z2 z3 => by
            rw [nAddJ_f z1, nHold_d z2]
            exact w3_d z3
          have e4 : nAddJ (nHold (nTk N d) d (N 1 0 0)) 4 d 0 = N 4 d 0 + 1 := by
            rw [nAddJ_f (by decide), nHold_d (by omega)]
            exact w3_s
          have e11 : nAddJ (nHold (nTk N d) d (N 1 0 0)) 11 d = nHold N d (N 1 0 0) 11 d := by
            rw [nAddJ_f (by decide)]
            funext i
            unfold nHold
            rw [show nTk N d 11 d (N 1 0 0) = N 11 d (N 1 0 0) by rw [nTk_f (by decide)]]
            by_cases c : N 11 d (N 1 0 0) = 0
            · rw [if_pos c, if_pos c]
              by_cases c2 : i = N 1 0 0
              · subst c2
                rw [w3_s, w3_s]
              · rw [w3_n (by omega), w3_n (by omega), nTk_f (by decide)]
            · rw [if_neg c, if_neg c, nTk_f (by decide)]
          have eS : ∀ f e, f ≠ 1 → f ≠ 2 → f ≠ 3 → ¬ ((f = 5 ∨ f = 6 ∨ f = 7 ∨ f = 8 ∨ f = 9) ∧ e = d) → sAddJ (sNum S d q (N 1 0 0)) (N 1 0 0) (nI d) (S 11 d (N 4 d 0) 2) f e = S f e := fun f e z1 z2 z3 z4 => by
            funext a c
            rw [sAddJ_n (by omega)]
            unfold sNum sNum0
            rw [sHold_n (by omega), w4_n (by omega), w4_n (by omega)]
          refine ⟨⟨by rw [e1]; omega, ?_, fun e he => ?_⟩, ?_, fun e z => by rw [ef 5 e (by decide) (by omega) (by omega)]⟩
          · rw [e1]
            refine (vJ.add (S := sNum S d q (N 1 0 0)) (h.2.1.cg (fun i c _ _ => ?_))).up (by omega)
            unfold sNum sNum0
            rw [sHold_n (by omega), w4_n (by omega), w4_n (by omega)]
          · by_cases c : e = d
            · subst c
              obtain ⟨h1, h2, h3, h4, h5⟩ := h.2.2 e he
              have s0 : ∀ f, f = 5 ∨ f = 6 → sNum0 S e q (N 1 0 0) f e = S f e := fun f z => by
                unfold sNum0
                rw [w4_f (by omega), w4_f (by omega)]
              have s9 : sAddJ (sNum S e q (N 1 0 0)) (N 1 0 0) (nI e) (S 11 e (N 4 e 0) 2) 9 e = w4 S 9 e q 0 (nI (N 1 0 0)) 9 e := by
                rw [sAddJ_d (by decide)]
                unfold sNum sNum0
                rw [sHold_d (by omega), w4_f (by decide)]
              have s7 : sAddJ (sNum S e q (N 1 0 0)) (N 1 0 0) (nI e) (S 11 e (N 4 e 0) 2) 7 e 0 0 = S 7 e 0 0 - nI 1 := by
                rw [sAddJ_d (by decide)]
                unfold sNum sNum0
                rw [sHold_d (by omega)]
                exact w4_s
              have hC : vC (sHold (sNum0 S e q (N 1 0 0)) e (N 1 0 0) (fun j => S 10 e q j) 5 e) (sHold (sNum0 S e q (N 1 0 0)) e (N 1 0 0) (fun j => S 10 e q j) 6 e) (nHold N e (N 1 0 0) 11 e) (N 1 0 0 + 1) := vC.hold (nj := N 1 0 0) (by rw [s0 5 (Or.inl rfl), s0 6 (Or.inr rfl)]; exact h2) (by omega) (by omega) (by omega)
              have hq9 : S 9 e q 0 = -1 := by
                have z := nI_inj (k2.symm.trans q2) (by omega) (by omega)
                have z2 : k = q := by omega
                subst z2
                exact k3 (Nat.le_refl _)
              unfold vD
              rw [e1, e4, e11, ef 2 e (by decide) (by omega) (by omega), ef 3 e (by decide) (by omega) (by omega), ef 5 e (by decide) (by omega) (by omega), ef 6 e (by decide) (by omega) (by omega), eS 4 e (by decide) (by decide) (by decide) (by omega), eS 11 e (by decide) (by decide) (by decide) (by omega), sAddJ_d (show 4 ≤ 5 by decide), sAddJ_d (show 4 ≤ 6 by decide), s9]
              have e9 : ∀ p, p ≠ q → w4 S 9 e q 0 (nI (N 1 0 0)) 9 e p 0 = S 9 e p 0 := fun p z => w4_n (by omega)
              exact ⟨h1, hC, h3.num ho2 q3 q1 e9 w4_s hq9 s7, h4.num ho2 hn q3 hm q1 q2 e9 w4_s, (h5.job q3).cg (Nat.le_refl _) (by omega) (fun _ _ => rfl) (fun _ _ => rfl)⟩
            · exact (h.2.2 e he).job q3 e1 (fun f hf => eS f e (by omega) (by omega) (by omega) (by omega)) (fun f hf => ef f e (by omega) (by omega) (by omega))
          · rw [ef 5 d (by decide) (by omega) (by omega)]
        · exact absurd rfl a1
    · rw [hm] at a1
      rcases a1 with z | z <;> exact absurd z (by decide)
  · have hf : (S 11 d (N 4 d 0) 1 = nI 0 ∨ S 11 d (N 4 d 0) 1 = nI 1) ∧ ((∃ i, i < N 1 0 0 ∧ S 11 d (N 4 d 0) 0 = nI i) ∨ ∃ k, k < N 2 d 0 ∧ S 11 d (N 4 d 0) 0 = nI (1000 + k) ∧ ∃ j', j' < N 4 d 0 ∧ S 11 d j' 1 = -1 ∧ S 11 d j' 0 = nI (1000 + k)) := by
      rcases hA with z | z
      · exact absurd z.1 hm
      · exact z
    obtain ⟨hf1, hf2⟩ := hf
    obtain ⟨rfl, x, hc, hx3⟩ := hx2
    rcases hx3 with ⟨a1, rfl, rfl⟩ | ⟨i, i1, i2, hi⟩
    · rw [t1] at a1
      have z : N 1 0 0 = 40 := by
        rcases hc with ⟨k, k1, k2, k3⟩ | ⟨k1, k2⟩
        · rw [t2] at k1
          rcases (h.2.2 d hd).2.2.1.1 k k1 with y | ⟨j, y1, y2⟩
          · rcases hf2 with ⟨i, i1, i2⟩ | ⟨k', i1, i2, j', i3, i4, i5⟩
            · have := nI_inj (i2.symm.trans k2) (by omega) (by omega)
              omega
            · have e := kown_inj (i2.symm.trans k2) (by omega) (by omega)
              subst e
              obtain ⟨_, ⟨_, k2', b1, b2, b3, b4⟩ | ⟨b1, _⟩⟩ := h.act hd (show j' < N 3 d 0 by omega)
              · have e := kown_inj (b2.symm.trans i5) (by omega) (by omega)
                subst e
                exact (b4 i3).elim (fun q => absurd y q) id
              · rw [i4] at b1
                rcases b1 with z | z <;> exact absurd z (by decide)
          · rw [k3, y2] at a1
            exact absurd (kix.of y1 (by omega)) a1
        · rw [k2] at a1
          rcases hf2 with ⟨i, i1, i2⟩ | ⟨k', i1, i2, _⟩
          · rw [i2] at a1
            exact absurd (kix.of i1 (by omega)) a1
          · exact absurd i2 (k1 k' (by rw [t2]; exact i1))
      exact key 3 (by decide) (fun _ => z) (fun _ => z) rfl rfl rfl
    · rw [t1] at i1
      rcases hi with ⟨_, rfl, rfl⟩ | ⟨_, _, rfl, rfl⟩ | ⟨_, _, _, _, rfl, rfl⟩ | ⟨_, _, g3, rfl, rfl⟩
      · exact key 0 (by decide) (fun z => absurd z (by decide)) (fun z => absurd z hm) rfl rfl rfl
      · exact key 1 (by decide) (fun z => absurd z (by decide)) (fun z => absurd z hm) rfl rfl rfl
      · exact key 2 (by decide) (fun z => absurd z (by decide)) (fun z => absurd z hm) rfl rfl rfl
      · rcases hr with ⟨_, rfl, rfl, rfl⟩ | ⟨a1, _⟩
        · have hxv : (S 11 d (N 4 d 0) 1 = nI 0 ∧ ∃ a, a ≤ 2 ∧ S 11 d (N 4 d 0) 2 = nI a) ∨ (S 11 d (N 4 d 0) 1 ≠ nI 0 ∧ ∃ a, a ≤ 10000 ∧ S 11 d (N 4 d 0) 2 = nI a) := by
            by_cases c : S 11 d (N 4 d 0) 1 = nI 0
            · rcases g3 with z | ⟨_, z⟩ | ⟨_, z⟩
              · exact absurd c z
              · exact Or.inl ⟨c, 1, by decide, z⟩
              · exact Or.inl ⟨c, 2, by decide, z⟩
            · exact Or.inr ⟨c, x0, hx0, hx1⟩
          have z := h.set i1 hxv
          refine ⟨⟨by rw [t1]; exact z.1, by rw [t1]; exact z.2.1, fun e he => ?_⟩, ?_, fun e _ => by rw [nTk_f (by decide)]⟩
          · by_cases c : e = d
            · subst c
              obtain ⟨h1, h2, h3, h4, h5⟩ := z.2.2 e he
              have t4 : nTk N e 4 e 0 = N 4 e 0 + 1 := w3_s
              have s11 : sPut S 3 i 0 (S 11 e (N 4 e 0) 1) (S 11 e (N 4 e 0) 2) 11 e = S 11 e := by
                funext a c
                exact sPut_n (by omega)
              unfold vD
              rw [t1, t4, nTk_f (show 2 ≠ 4 by decide), nTk_f (show 3 ≠ 4 by decide), nTk_f (show 5 ≠ 4 by decide), nTk_f (show 6 ≠ 4 by decide), nTk_f (show 11 ≠ 4 by decide)]
              exact ⟨h1, h2, h3, h4.take hn (fun y => by rw [s11] at y; exact absurd y hm), h5.cg (Nat.le_refl _) (by omega) (fun _ _ => rfl) (fun _ _ => rfl)⟩
            · exact (z.2.2 e he).cg t1 (fun _ _ => rfl) (fun f hf => w3_d (by omega))
          · rw [nTk_f (by decide)]
        · exact absurd rfl a1
theorem okX.step {S : kI4} {N : kN3} {d b : Nat} {S' : kI4} {N' : kN3} (hO : okX S N) (hd : d < 4) (hn : N 4 d 0 < N 3 d 0) (h5 : N 5 d 0 ≤ N 4 d 0) (hs : xStep S N d b S' N') : okX S' N' := by
  obtain ⟨r, S1, N1, hx, hr⟩ := hs
  have z := (xDel_ok hx (okX.take hO hn))
  have hb := (hO.2 d hd).2.1
  rcases hr with ⟨_, _, rfl, rfl⟩ | ⟨_, _, rfl, rfl⟩
  · exact z.1
  · refine okX.ref z.1 ?_ ?_
    · rw [z.2 3 d 0 (by decide) (by decide), w3_n (by omega)]
      exact hn
    · rw [z.2 5 d 0 (by decide) (by decide), w3_n (by omega)]
      omega
theorem vS.h5 {S : kI4} {N : kN3} {T : Nat} (h : vS S N T) {d : Nat} (hd : d < 4) : N 5 d 0 ≤ N 4 d 0 := (h.2.2 d hd).2.2.2.2.1
theorem vS.snd {S : kI4} {N : kN3} {T d : Nat} (h : vS S N T) (hO : okX S N) (hd : d < 4) : ∀ {m c : Nat} {S' : kI4} {N' : kN3}, N 4 d 0 + m ≤ N 3 d 0 → xSnd S N d m c S' N' → vS S' N' (T + m) ∧ okX S' N' ∧ N' 5 d 0 + c = N 5 d 0 + m ∧ ∀ e, e ≠ d → N' 5 e 0 = N 5 e 0
  | 0, c, S', N', _, hs => by
    obtain ⟨rfl, rfl, rfl⟩ := hs
    exact ⟨h, hO, rfl, fun _ _ => rfl⟩
  | m + 1, c, S', N', hm, hs => by
    obtain ⟨c1, S1, N1, b, h1, h2, rfl⟩ := hs
    obtain ⟨a1, a2, a3, a4⟩ := vS.snd h hO hd (by omega) h1
    obtain ⟨_, _, _, _, b3, b4⟩ := xSnd.ok2 h.1 h1
    have hn : N1 4 d 0 < N1 3 d 0 := by
      rw [b3, b4, w3_s]
      omega
    obtain ⟨g1, g2, g3⟩ := a1.step a2 hd hn h2
    exact ⟨g1, a2.step hd hn (a1.h5 hd) h2, by omega, fun e z => (g3 e z).trans (a4 e z)⟩
