/-! WHAT HOLDS OF A STORE BETWEEN CALLS -/
abbrev kR2 : Type := Nat → Nat → Int32
/-- the jobs: states, notes, versions (none above T) -/
def vJ (s : Nat → Nat → Nat → Int32) (nj T : Nat) : Prop := ∀ i, i < nj → (∃ a, a ≤ 2 ∧ s i 0 0 = nI a) ∧ (∃ a, a ≤ 10000 ∧ s i 0 1 = nI a) ∧ (∃ a, a ≤ T ∧ s i 0 2 = nI a) ∧ (∃ a, a ≤ T ∧ s i 0 3 = nI a)
def kCq (s5 : kR2) (k : Nat) : Nat := if s5 k 0 = nI 0 then 0 else 1
/-- the copies -/
def vC (s5 s6 : kR2) (n11 : Nat → Nat) (nj : Nat) : Prop := (∀ n, n < 40 → s5 n 0 = nI 0 ∨ (s5 n 0 = nI 1 ∧ n < nj ∧ n11 n ≠ 0)) ∧ s6 0 0 = nI (kcn (kCq s5) 40)
def kMq (s9 : kR2) (k : Nat) : Nat := if s9 k 0 = -1 then 1 else 0
/-- the own jobs -/
def vM (s7 s9 : kR2) (nj n2 : Nat) : Prop := (∀ k, k < n2 → s9 k 0 = -1 ∨ ∃ j, j < nj ∧ s9 k 0 = nI j) ∧ s7 0 0 = nI (kcn (kMq s9) n2)
/-- one act -/
def vA1 (s9 s11 : kR2) (nj n2 n4 j : Nat) : Prop := (∃ x, x ≤ 10000 ∧ s11 j 2 = nI x) ∧
  ((s11 j 1 = -1 ∧ ∃ k, k < n2 ∧ s11 j 0 = nI (1000 + k) ∧ (n4 ≤ j → s9 k 0 = -1) ∧ (j < n4 → s9 k 0 ≠ -1 ∨ nj = 40)) ∨
   ((s11 j 1 = nI 0 ∨ s11 j 1 = nI 1) ∧ ((∃ i, i < nj ∧ s11 j 0 = nI i) ∨ ∃ k, k < n2 ∧ s11 j 0 = nI (1000 + k) ∧ ∃ j', j' < j ∧ s11 j' 1 = -1 ∧ s11 j' 0 = nI (1000 + k))))
/-- the acts -/
def vA (s9 s11 : kR2) (nj n2 n3 n4 : Nat) : Prop := n4 ≤ n3 ∧ n2 ≤ n3 ∧ (∀ j, j < n3 → vA1 s9 s11 nj n2 n4 j) ∧ (∀ j j', j < n3 → j' < n3 → s11 j 1 = -1 → s11 j' 1 = -1 → s11 j 0 = s11 j' 0 → j = j') ∧ ∀ k, k < n2 → ∃ j, j < n3 ∧ s11 j 1 = -1 ∧ s11 j 0 = nI (1000 + k)
/-- the pile -/
def vP (s11 : kR2) (n6 : Nat → Nat) (nj n3 n4 n5 : Nat) : Prop := n5 ≤ n4 ∧ ∀ i, i < n5 → n6 i < n3 ∧ ∃ r, r ≤ 3 ∧ s11 (n6 i) 4 = nI r ∧ (r = 3 → nj = 40)
def vR (s4 : kR2) : Prop := ∃ r, r ≤ 40 ∧ s4 0 0 = nI r
def vD (S : kI4) (N : kN3) (d : Nat) : Prop := vR (S 4 d) ∧ vC (S 5 d) (S 6 d) (N 11 d) (N 1 0 0) ∧ vM (S 7 d) (S 9 d) (N 1 0 0) (N 2 d 0) ∧ vA (S 9 d) (S 11 d) (N 1 0 0) (N 2 d 0) (N 3 d 0) (N 4 d 0) ∧ vP (S 11 d) (N 6 d) (N 1 0 0) (N 3 d 0) (N 4 d 0) (N 5 d 0)
def vS (S : kI4) (N : kN3) (T : Nat) : Prop := N 1 0 0 ≤ 40 ∧ vJ (S 3) (N 1 0 0) T ∧ ∀ d, d < 4 → vD S N d
/-- the acts that were done -/
def kDn (N : kN3) : Nat := (N 4 0 0 - N 5 0 0) + (N 4 1 0 - N 5 1 0) + (N 4 2 0 - N 5 2 0) + (N 4 3 0 - N 5 3 0)
theorem vJ.up {s : Nat → Nat → Nat → Int32} {nj T T' : Nat} (h : vJ s nj T) (hT : T ≤ T') : vJ s nj T' := fun i hi => by
  obtain ⟨a, b, ⟨x, x1, x2⟩, ⟨y, y1, y2⟩⟩ := h i hi
  exact ⟨a, b, ⟨x, by omega, x2⟩, ⟨y, by omega, y2⟩⟩
theorem vJ.cg {s s' : Nat → Nat → Nat → Int32} {nj T : Nat} (h : vJ s nj T) (e : ∀ i j, i < nj → j < 4 → s' i 0 j = s i 0 j) : vJ s' nj T := fun i hi => by
  rw [e i 0 hi (by decide), e i 1 hi (by decide), e i 2 hi (by decide), e i 3 hi (by decide)]
  exact h i hi
theorem vJ.put {S : kI4} {nj T i : Nat} {f x : Int32} (h : vJ (S 3) nj T) (hi : i < nj) (hx : (f = nI 0 ∧ ∃ a, a ≤ 2 ∧ x = nI a) ∨ (f ≠ nI 0 ∧ ∃ a, a ≤ 10000 ∧ x = nI a)) : vJ (sPut S 3 i 0 f x 3) nj (T + 1) := by
  intro k hk
  by_cases e : k = i
  · subst e
    obtain ⟨a1, a2, ⟨y, y1, y2⟩, ⟨z, z1, z2⟩⟩ := h k hk
    unfold sPut
    rcases hx with ⟨e, hx⟩ | ⟨e, hx⟩
    · rw [if_pos e]
      refine ⟨?_, ?_, ⟨y + 1, by omega, ?_⟩, ⟨z, by omega, ?_⟩⟩
      · rw [w4_n (by omega), w4_s]
        exact hx
      · rw [w4_n (by omega), w4_n (by omega)]
        exact a2
      · rw [w4_s, y2, nI_1]
      · rw [w4_n (by omega), w4_n (by omega)]
        exact z2
    · rw [if_neg e]
      refine ⟨?_, ?_, ⟨y, by omega, ?_⟩, ⟨z + 1, by omega, ?_⟩⟩
      · rw [w4_n (by omega), w4_n (by omega)]
        exact a1
      · rw [w4_n (by omega), w4_s]
        exact hx
      · rw [w4_n (by omega), w4_n (by omega)]
        exact y2
      · rw [w4_s, z2, nI_1]
  · obtain ⟨a1, a2, ⟨y, y1, y2⟩, ⟨z, z1, z2⟩⟩ := h k hk
    rw [sPut_n (by omega), sPut_n (by omega), sPut_n (by omega), sPut_n (by omega)]
    exact ⟨a1, a2, ⟨y, by omega, y2⟩, ⟨z, by omega, z2⟩⟩
/-- one job more -/
theorem vC.job {s5 s6 : kR2} {n11 : Nat → Nat} {nj : Nat} (h : vC s5 s6 n11 nj) : vC s5 s6 n11 (nj + 1) := ⟨fun n hn => (h.1 n hn).imp id (fun z => ⟨z.1, by omega, z.2.2⟩), h.2⟩
theorem vM.job {s7 s9 : kR2} {nj n2 : Nat} (h : vM s7 s9 nj n2) : vM s7 s9 (nj + 1) n2 := ⟨fun n hn => (h.1 n hn).imp id (fun ⟨j, z1, z2⟩ => ⟨j, by omega, z2⟩), h.2⟩
theorem vA1.job {s9 s11 : kR2} {nj n2 n4 j : Nat} (hn : nj < 40) (h : vA1 s9 s11 nj n2 n4 j) : vA1 s9 s11 (nj + 1) n2 n4 j := by
  obtain ⟨h0, ⟨h1, k, h2, h3, h4, h5⟩ | ⟨h1, ⟨i, h2, h3⟩ | h2⟩⟩ := h
  · exact ⟨h0, Or.inl ⟨h1, k, h2, h3, h4, fun z => (h5 z).elim Or.inl (fun y => by omega)⟩⟩
  · exact ⟨h0, Or.inr ⟨h1, Or.inl ⟨i, by omega, h3⟩⟩⟩
  · exact ⟨h0, Or.inr ⟨h1, Or.inr h2⟩⟩
theorem vA.job {s9 s11 : kR2} {nj n2 n3 n4 : Nat} (hn : nj < 40) (h : vA s9 s11 nj n2 n3 n4) : vA s9 s11 (nj + 1) n2 n3 n4 := ⟨h.1, h.2.1, fun j hj => (h.2.2.1 j hj).job hn, h.2.2.2⟩
theorem vP.job {s11 : kR2} {n6 : Nat → Nat} {nj n3 n4 n5 : Nat} (hn : nj < 40) (h : vP s11 n6 nj n3 n4 n5) : vP s11 n6 (nj + 1) n3 n4 n5 := ⟨h.1, fun i hi => by
  obtain ⟨h1, r, h2, h3, h4⟩ := h.2 i hi
  exact ⟨h1, r, h2, h3, fun z => by have := h4 z; omega⟩⟩
theorem vD.job {S S' : kI4} {N N' : kN3} {d : Nat} (h : vD S N d) (hn : N 1 0 0 < 40) (e1 : N' 1 0 0 = N 1 0 0 + 1) (eS : ∀ f, f = 4 ∨ f = 5 ∨ f = 6 ∨ f = 7 ∨ f = 9 ∨ f = 11 → S' f d = S f d) (eN : ∀ f, f = 2 ∨ f = 3 ∨ f = 4 ∨ f = 5 ∨ f = 6 ∨ f = 11 → N' f d = N f d) : vD S' N' d := by
  obtain ⟨h1, h2, h3, h4, h5⟩ := h
  unfold vD
  rw [e1, eS 4 (by omega), eS 5 (by omega), eS 6 (by omega), eS 7 (by omega), eS 9 (by omega), eS 11 (by omega), eN 2 (by omega), eN 3 (by omega), eN 4 (by omega), eN 5 (by omega), eN 6 (by omega), eN 11 (by omega)]
  exact ⟨h1, h2.job, h3.job, h4.job hn, h5.job hn⟩
theorem vD.cg {S S' : kI4} {N N' : kN3} {d : Nat} (h : vD S N d) (e1 : N' 1 0 0 = N 1 0 0) (eS : ∀ f, f = 4 ∨ f = 5 ∨ f = 6 ∨ f = 7 ∨ f = 9 ∨ f = 11 → S' f d = S f d) (eN : ∀ f, f = 2 ∨ f = 3 ∨ f = 4 ∨ f = 5 ∨ f = 6 ∨ f = 11 → N' f d = N f d) : vD S' N' d := by
  unfold vD
  rw [e1, eS 4 (by omega), eS 5 (by omega), eS 6 (by omega), eS 7 (by omega), eS 9 (by omega), eS 11 (by omega), eN 2 (by omega), eN 3 (by omega), eN 4 (by omega), eN 5 (by omega), eN 6 (by omega), eN 11 (by omega)]
  exact h
theorem sAddJ_d {S : kI4} {n : Nat} {cr si : Int32} {f d : Nat} (h : 4 ≤ f) : sAddJ S n cr si f d = S f d := by
  funext a b
  exact sAddJ_n (by omega)
theorem vJ.add {S : kI4} {nj T : Nat} {cr si : Int32} (h : vJ (S 3) nj T) : vJ (sAddJ S nj cr si 3) (nj + 1) T := by
  intro k hk
  by_cases e : k = nj
  · subst e
    have z : ∀ j, j < 4 → sAddJ S k cr si 3 k 0 j = nI 0 := fun j hj => by
      unfold sAddJ
      rw [if_pos ⟨rfl, rfl⟩, if_neg (by omega), if_neg (by omega), if_pos ⟨rfl, hj⟩]
    rw [z 0 (by decide), z 1 (by decide), z 2 (by decide), z 3 (by decide)]
    exact ⟨⟨0, by omega, rfl⟩, ⟨0, by omega, rfl⟩, ⟨0, by omega, rfl⟩, ⟨0, by omega, rfl⟩⟩
  · rw [sAddJ_n (by omega), sAddJ_n (by omega), sAddJ_n (by omega), sAddJ_n (by omega)]
    exact h k (by omega)
theorem nAddJ_f {N : kN3} {f : Nat} (h : f ≠ 1) : nAddJ N f = N f := w3_f h
theorem vS.add {S : kI4} {N : kN3} {T : Nat} {cr si : Int32} (h : vS S N T) (hn : N 1 0 0 < 40) : vS (sAddJ S (N 1 0 0) cr si) (nAddJ N) T := by
  have e1 : nAddJ N 1 0 0 = N 1 0 0 + 1 := w3_s
  refine ⟨by omega, ?_, fun d hd => (h.2.2 d hd).job hn e1 (fun f hf => sAddJ_d (by omega)) (fun f hf => by rw [nAddJ_f (by omega)])⟩
  rw [e1]
  exact h.2.1.add
theorem vS.set {S : kI4} {N : kN3} {T i : Nat} {f x : Int32} (h : vS S N T) (hi : i < N 1 0 0) (hx : (f = nI 0 ∧ ∃ a, a ≤ 2 ∧ x = nI a) ∨ (f ≠ nI 0 ∧ ∃ a, a ≤ 10000 ∧ x = nI a)) : vS (sPut S 3 i 0 f x) N (T + 1) :=
  ⟨h.1, h.2.1.put hi hx, fun d hd => (h.2.2 d hd).cg rfl (fun f hf => by funext a b; exact sPut_n (by omega)) (fun _ _ => rfl)⟩
theorem vS.up {S : kI4} {N : kN3} {T T' : Nat} (h : vS S N T) (hT : T ≤ T') : vS S N T' := ⟨h.1, h.2.1.up hT, h.2.2⟩
theorem vS.give {S : kI4} {N : kN3} {T i : Nat} {x : Int32} (h : vS S N T) : vS (w4 S 2 i 0 0 x) N T :=
  ⟨h.1, by rw [w4_f (by decide)]; exact h.2.1, fun d hd => (h.2.2 d hd).cg rfl (fun f hf => by rw [w4_f (by omega)]) (fun _ _ => rfl)⟩
theorem vS.dn {S : kI4} {N : kN3} {T : Nat} {x : Int32} (h : vS S N T) : vS (w4 S 12 0 0 0 x) N T :=
  ⟨h.1, by rw [w4_f (by decide)]; exact h.2.1, fun d hd => (h.2.2 d hd).cg rfl (fun f hf => by rw [w4_f (by omega)]) (fun _ _ => rfl)⟩
theorem vS.room {S : kI4} {N : kN3} {T d r : Nat} {x : Int32} (h : vS S N T) (hx : x = nI r) (hr : r ≤ 40) : vS (w4 S 4 d 0 0 x) N T := by
  refine ⟨h.1, by rw [w4_f (by decide)]; exact h.2.1, fun e he => ?_⟩
  by_cases c : e = d
  · subst c
    obtain ⟨h1, h2, h3, h4, h5⟩ := h.2.2 e he
    unfold vD
    rw [w4_f (show 5 ≠ 4 by decide), w4_f (show 6 ≠ 4 by decide), w4_f (show 7 ≠ 4 by decide), w4_f (show 9 ≠ 4 by decide), w4_f (show 11 ≠ 4 by decide)]
    exact ⟨⟨r, hr, w4_s.trans hx⟩, h2, h3, h4, h5⟩
  · exact (h.2.2 e he).cg rfl (fun f hf => w4_d (by omega)) (fun _ _ => rfl)
/-! copies -/
theorem vC.hold {S : kI4} {N : kN3} {d i nj nk : Nat} {g : Nat → Int32} (h : vC (S 5 d) (S 6 d) (N 11 d) nj) (hi : i < 40) (hn : i < nk) (hk : nj ≤ nk) : vC (sHold S d i g 5 d) (sHold S d i g 6 d) (nHold N d i 11 d) nk := by
  have e11 : ∀ n, N 11 d n ≠ 0 → nHold N d i 11 d n ≠ 0 := fun n z => by
    unfold nHold
    by_cases c : N 11 d i = 0
    · rw [if_pos c]
      by_cases c2 : n = i
      · subst c2
        rw [w3_s]
        decide
      · rw [w3_n (by omega)]
        exact z
    · rw [if_neg c]
      exact z
  have e11i : nHold N d i 11 d i ≠ 0 := by
    unfold nHold
    by_cases c : N 11 d i = 0
    · rw [if_pos c, w3_s]
      decide
    · rw [if_neg c]
      exact c
  unfold sHold
  by_cases c : S 5 d i 0 = 0
  · rw [if_pos c]
    have e5 : ∀ n, n ≠ i → w4 (w4 (sCopy S d i g) 5 d i 0 (nI 1)) 6 d 0 0 (S 6 d 0 0 + nI 1) 5 d n 0 = S 5 d n 0 := fun n z => by
      rw [w4_n (by omega), w4_n (by omega), sCopy_n (by omega)]
    have e5i : w4 (w4 (sCopy S d i g) 5 d i 0 (nI 1)) 6 d 0 0 (S 6 d 0 0 + nI 1) 5 d i 0 = nI 1 := by
      rw [w4_n (by omega), w4_s]
    refine ⟨fun n hn2 => ?_, ?_⟩
    · by_cases z : n = i
      · subst z
        exact Or.inr ⟨e5i, hn, e11i⟩
      · rw [e5 n z]
        exact (h.1 n hn2).imp id (fun y => ⟨y.1, by omega, e11 n y.2.2⟩)
    · have hk2 : kcn (kCq (w4 (w4 (sCopy S d i g) 5 d i 0 (nI 1)) 6 d 0 0 (S 6 d 0 0 + nI 1) 5 d)) 40 = kcn (kCq (S 5 d)) 40 + 1 := by
        refine kcn_up (i := i) ?_ (fun j hj => ?_) hi
        · unfold kCq
          rw [e5i, c, if_neg (by decide), if_pos (by decide)]
        · unfold kCq
          rw [e5 j hj]
      rw [hk2, w4_s, h.2, nI_add]
  · rw [if_neg c]
    have e5 : ∀ n, sCopy S d i g 5 d n 0 = S 5 d n 0 := fun n => sCopy_n (by omega)
    refine ⟨fun n hn2 => ?_, ?_⟩
    · rw [e5 n]
      exact (h.1 n hn2).imp id (fun y => ⟨y.1, by omega, e11 n y.2.2⟩)
    · rw [sCopy_n (by omega), h.2]
      refine congrArg nI (kcn_cg fun j hj => ?_)
      unfold kCq
      rw [e5 j]
theorem sHold_d {S : kI4} {d n f e : Nat} {g : Nat → Int32} (h : ¬ ((f = 5 ∨ f = 6 ∨ f = 8) ∧ e = d)) : sHold S d n g f e = S f e := by
  funext b c
  exact sHold_n (by omega)
theorem nHold_d {N : kN3} {d n f e : Nat} (h : ¬ (f = 11 ∧ e = d)) : nHold N d n f e = N f e := by
  funext b
  exact nHold_n (by omega)
theorem vS.hold {S : kI4} {N : kN3} {T d i : Nat} {g : Nat → Int32} (h : vS S N T) (hd : d < 4) (hi : i < N 1 0 0) : vS (sHold S d i g) (nHold N d i) T := by
  have e1 : nHold N d i 1 0 0 = N 1 0 0 := nHold_n (by omega)
  refine ⟨by rw [e1]; exact h.1, ?_, fun e he => ?_⟩
  · rw [e1]
    exact h.2.1.cg (fun a b _ _ => sHold_n (by omega))
  · by_cases c : e = d
    · subst c
      obtain ⟨h1, h2, h3, h4, h5⟩ := h.2.2 e he
      unfold vD
      rw [e1, sHold_d (f := 4) (by omega), sHold_d (f := 7) (by omega), sHold_d (f := 9) (by omega), sHold_d (f := 11) (by omega), nHold_d (f := 2) (by omega), nHold_d (f := 3) (by omega), nHold_d (f := 4) (by omega), nHold_d (f := 5) (by omega), nHold_d (f := 6) (by omega)]
      exact ⟨h1, h2.hold (by have := h.1; omega) hi (Nat.le_refl _), h3, h4, h5⟩
    · exact (h.2.2 e he).cg e1 (fun f hf => sHold_d (by omega)) (fun f hf => nHold_d (by omega))
theorem vS.drop {S : kI4} {N : kN3} {T d : Nat} (h : vS S N T) : vS (sDrop S d) N T := by
  have ed : ∀ f e, ¬ ((f = 5 ∨ f = 6) ∧ e = d) → sDrop S d f e = S f e := fun f e z => by
    funext a b
    exact (w4_n (by omega)).trans (sDr_n (by omega))
  refine ⟨h.1, h.2.1.cg (fun a b _ _ => (w4_n (by omega)).trans (sDr_n (by omega))), fun e he => ?_⟩
  by_cases c : e = d
  · subst c
    obtain ⟨h1, h2, h3, h4, h5⟩ := h.2.2 e he
    unfold vD
    rw [ed 4 e (by omega), ed 7 e (by omega), ed 9 e (by omega), ed 11 e (by omega)]
    have e5 : ∀ n, n < 40 → sDrop S e 5 e n 0 = nI 0 := fun n hn => (w4_n (by omega)).trans (if_pos (by omega))
    refine ⟨h1, ⟨fun n hn => Or.inl (e5 n hn), ?_⟩, h3, h4, h5⟩
    rw [kcn_0 (fun k hk => by unfold kCq; rw [e5 k hk]; exact if_pos rfl)]
    exact w4_s
  · exact (h.2.2 e he).cg rfl (fun f hf => ed f e (by omega)) (fun _ _ => rfl)
theorem vS.cps {q : kI4 × kN3} {T d : Nat} {z : Int32} (h : vS q.1 q.2 T) (hd : d < 4) : ∀ i, i ≤ q.2 1 0 0 → vS (xCps q d z i).1 (xCps q d z i).2 T ∧ (xCps q d z i).2 1 0 0 = q.2 1 0 0
  | 0, _ => ⟨h, rfl⟩
  | i + 1, hi => by
    have ih := vS.cps (z := z) h hd i (by omega)
    show vS (xCp (xCps q d z i) d z i).1 (xCp (xCps q d z i) d z i).2 T ∧ (xCp (xCps q d z i) d z i).2 1 0 0 = q.2 1 0 0
    unfold xCp
    by_cases c : (xCps q d z i).1 6 d 0 0 < (xCps q d z i).1 4 d 0 0 ∧ (xCps q d z i).1 2 i 0 0 = nI d ∧ (xCps q d z i).1 3 i 0 0 = z
    · rw [if_pos c]
      exact ⟨ih.1.hold hd (by omega), (nHold_n (by omega)).trans ih.2⟩
    · rw [if_neg c]
      exact ih
theorem vS.fetch {S : kI4} {N : kN3} {T d : Nat} (h : vS S N T) (hd : d < 4) : vS (xFetch (S, N) d).1 (xFetch (S, N) d).2 T := by
  have h0 : vS ((sDrop S d, N) : kI4 × kN3).1 ((sDrop S d, N) : kI4 × kN3).2 T := h.drop
  have h1 := h0.cps (z := nI 1) hd (N 1 0 0) (Nat.le_refl _)
  have h2 := h1.1.cps (z := nI 0) hd (N 1 0 0) (by rw [h1.2]; exact Nat.le_refl _)
  exact (h2.1.cps (z := nI 2) hd (N 1 0 0) (by rw [h2.2, h1.2]; exact Nat.le_refl _)).1
/-! acts -/
theorem vA1.cg {s9 s11 s11' : kR2} {nj n2 n3 n4 j : Nat} (h : vA1 s9 s11 nj n2 n4 j) (hj : j < n3) (e : ∀ i c, i < n3 → c < 4 → s11' i c = s11 i c) : vA1 s9 s11' nj n2 n4 j := by
  obtain ⟨h0, h⟩ := h
  refine ⟨by rw [e j 2 hj (by decide)]; exact h0, ?_⟩
  rw [e j 1 hj (by decide), e j 0 hj (by decide)]
  rcases h with h | ⟨h1, h2 | ⟨k, h2, h3, i, h4, h5, h6⟩⟩
  · exact Or.inl h
  · exact Or.inr ⟨h1, Or.inl h2⟩
  · exact Or.inr ⟨h1, Or.inr ⟨k, h2, h3, i, h4, by rw [e i 1 (by omega) (by decide)]; exact h5, by rw [e i 0 (by omega) (by decide)]; exact h6⟩⟩
theorem vA.cg {s9 s11 s11' : kR2} {nj n2 n3 n4 : Nat} (h : vA s9 s11 nj n2 n3 n4) (e : ∀ i c, i < n3 → c < 4 → s11' i c = s11 i c) : vA s9 s11' nj n2 n3 n4 := by
  obtain ⟨h1, h2, h3, h4, h5⟩ := h
  refine ⟨h1, h2, fun j hj => (h3 j hj).cg hj e, fun j i hj hi a b c => ?_, fun k hk => ?_⟩
  · rw [e j 1 hj (by decide)] at a
    rw [e i 1 hi (by decide)] at b
    rw [e j 0 hj (by decide), e i 0 hi (by decide)] at c
    exact h4 j i hj hi a b c
  · obtain ⟨j, a, b, c⟩ := h5 k hk
    exact ⟨j, a, by rw [e j 1 a (by decide)]; exact b, by rw [e j 0 a (by decide)]; exact c⟩
/-- a change more -/
theorem vA.more {s9 s11 s11' : kR2} {nj n2 n3 n4 : Nat} (h : vA s9 s11 nj n2 n3 n4) (e : ∀ i c, i < n3 → c < 4 → s11' i c = s11 i c) (hx : ∃ x, x ≤ 10000 ∧ s11' n3 2 = nI x) (hf : s11' n3 1 = nI 0 ∨ s11' n3 1 = nI 1) (hjb : (∃ i, i < nj ∧ s11' n3 0 = nI i) ∨ ∃ k, k < n2 ∧ s11' n3 0 = nI (1000 + k)) : vA s9 s11' nj n2 (n3 + 1) n4 := by
  have g := h.cg e
  obtain ⟨h1, h2, h3, h4, h5⟩ := g
  have hm : s11' n3 1 ≠ -1 := by
    rcases hf with z | z <;> rw [z] <;> decide
  refine ⟨by omega, by omega, fun j hj => ?_, fun j i hj hi a b c => ?_, fun k hk => ?_⟩
  · by_cases c : j = n3
    · subst c
      refine ⟨hx, Or.inr ⟨hf, ?_⟩⟩
      rcases hjb with z | ⟨k, z1, z2⟩
      · exact Or.inl z
      · exact Or.inr ⟨k, z1, z2, h5 k z1⟩
    · exact h3 j (by omega)
  · by_cases c1 : j = n3
    · subst c1
      exact absurd a hm
    · by_cases c2 : i = n3
      · subst c2
        exact absurd b hm
      · exact h4 j i (by omega) (by omega) a b c
  · obtain ⟨j, a, b⟩ := h5 k hk
    exact ⟨j, by omega, b⟩
/-- a making more -/
theorem vA.make {s9 s9' s11 s11' : kR2} {nj n2 n3 n4 : Nat} (h : vA s9 s11 nj n2 n3 n4) (hn2 : n2 < 512) (e9 : ∀ k, k < n2 → s9' k 0 = s9 k 0) (e9n : s9' n2 0 = -1) (e : ∀ i c, i < n3 → c < 4 → s11' i c = s11 i c) (hx : ∃ x, x ≤ 10000 ∧ s11' n3 2 = nI x) (hf : s11' n3 1 = -1) (hjb : s11' n3 0 = nI (1000 + n2)) : vA s9' s11' nj (n2 + 1) (n3 + 1) n4 := by
  have g := h.cg e
  obtain ⟨h1, h2, h3, h4, h5⟩ := g
  have hno : ∀ j, j < n3 → s11' j 1 = -1 → s11' j 0 ≠ nI (1000 + n2) := fun j hj hm hz => by
    obtain ⟨_, ⟨_, k, a1, a2, _⟩ | ⟨a1, _⟩⟩ := h3 j hj
    · have := nI_inj (a2.symm.trans hz) (by omega) (by omega)
      omega
    · rw [hm] at a1
      rcases a1 with z | z <;> exact absurd z (by decide)
  refine ⟨by omega, by omega, fun j hj => ?_, fun j i hj hi a b c => ?_, fun k hk => ?_⟩
  · by_cases c : j = n3
    · subst c
      exact ⟨hx, Or.inl ⟨hf, n2, by omega, hjb, fun _ => e9n, fun z => by omega⟩⟩
    · obtain ⟨a0, ⟨a1, k, a2, a3, a4, a5⟩ | ⟨a1, a2 | ⟨k, a2, a3, i, a4, a5⟩⟩⟩ := h3 j (by omega)
      · exact ⟨a0, Or.inl ⟨a1, k, by omega, a3, fun z => by rw [e9 k a2]; exact a4 z, fun z => by rw [e9 k a2]; exact a5 z⟩⟩
      · exact ⟨a0, Or.inr ⟨a1, Or.inl a2⟩⟩
      · exact ⟨a0, Or.inr ⟨a1, Or.inr ⟨k, by omega, a3, i, a4, a5⟩⟩⟩
  · by_cases c1 : j = n3
    · subst c1
      by_cases c2 : i = j
      · exact c2.symm
      · exact absurd (c.symm.trans hjb) (hno i (by omega) b)
    · by_cases c2 : i = n3
      · subst c2
        exact absurd (c.trans hjb) (hno j (by omega) a)
      · exact h4 j i (by omega) (by omega) a b c
  · by_cases c : k = n2
    · subst c
      exact ⟨n3, by omega, hf, hjb⟩
    · obtain ⟨j, a, b⟩ := h5 k (by omega)
      exact ⟨j, by omega, b⟩
/-- the next act is taken -/
theorem vA.take {s9 s11 : kR2} {nj n2 n3 n4 : Nat} (h : vA s9 s11 nj n2 n3 n4) (hn : n4 < n3) (hm : s11 n4 1 = -1 → nj = 40) : vA s9 s11 nj n2 n3 (n4 + 1) := by
  obtain ⟨h1, h2, h3, h4, h5⟩ := h
  refine ⟨by omega, h2, fun j hj => ?_, h4, h5⟩
  obtain ⟨a0, ⟨a1, k, a2, a3, a4, a5⟩ | z⟩ := h3 j hj
  · refine ⟨a0, Or.inl ⟨a1, k, a2, a3, fun z => a4 (by omega), fun z => ?_⟩⟩
    by_cases c : j = n4
    · subst c
      exact Or.inr (hm a1)
    · exact a5 (by omega)
  · exact ⟨a0, Or.inr z⟩
/-- a making is done -/
theorem vA.num {s9 s9' s11 : kR2} {nj n2 n3 n4 q : Nat} (h : vA s9 s11 nj n2 n3 n4) (hn2 : n2 ≤ 512) (hn : n4 < n3) (hj : nj < 40) (hm : s11 n4 1 = -1) (hq : q < n2) (hq0 : s11 n4 0 = nI (1000 + q)) (e9 : ∀ k, k ≠ q → s9' k 0 = s9 k 0) (e9q : s9' q 0 = nI nj) : vA s9' s11 (nj + 1) n2 n3 (n4 + 1) := by
  obtain ⟨h1, h2, h3, h4, h5⟩ := h
  refine ⟨by omega, h2, fun j hj2 => ?_, h4, h5⟩
  obtain ⟨a0, ⟨a1, k, a2, a3, a4, a5⟩ | ⟨a1, ⟨i, a2, a3⟩ | a2⟩⟩ := h3 j hj2
  · refine ⟨a0, Or.inl ⟨a1, k, a2, a3, fun z => ?_, fun z => Or.inl ?_⟩⟩
    · rw [e9 k (fun c => by
        subst c
        have := h4 j n4 hj2 hn a1 hm (a3.trans hq0.symm)
        omega)]
      exact a4 (by omega)
    · by_cases c : k = q
      · subst c
        rw [e9q]
        exact nI_m1 (by omega)
      · rw [e9 k c]
        by_cases c2 : j = n4
        · subst c2
          exact absurd (nI_inj (a3.symm.trans hq0) (by omega) (by omega)) (by omega)
        · exact (a5 (by omega)).elim id (fun y => by omega)
  · exact ⟨a0, Or.inr ⟨a1, Or.inl ⟨i, by omega, a3⟩⟩⟩
  · exact ⟨a0, Or.inr ⟨a1, Or.inr a2⟩⟩
theorem vM.num {s7 s7' s9 s9' : kR2} {nj n2 q : Nat} (h : vM s7 s9 nj n2) (hn2 : n2 ≤ 512) (hj : nj < 40) (hq : q < n2) (e9 : ∀ k, k ≠ q → s9' k 0 = s9 k 0) (e9q : s9' q 0 = nI nj) (hm : s9 q 0 = -1) (e7 : s7' 0 0 = s7 0 0 - nI 1) : vM s7' s9' (nj + 1) n2 := by
  refine ⟨fun k hk => ?_, ?_⟩
  · by_cases c : k = q
    · subst c
      exact Or.inr ⟨nj, by omega, e9q⟩
    · rw [e9 k c]
      exact (h.1 k hk).imp id (fun ⟨j, z1, z2⟩ => ⟨j, by omega, z2⟩)
  · have z : kcn (kMq s9) n2 = kcn (kMq s9') n2 + 1 := by
      refine kcn_up (i := q) ?_ (fun j hj2 => ?_) hq
      · unfold kMq
        rw [hm, e9q, if_pos rfl, if_neg (nI_m1 (by omega))]
      · unfold kMq
        rw [e9 j hj2]
    rw [e7, h.2, z, pk_sub (by omega)]
    rfl
theorem vM.make {s7 s7' s9 s9' : kR2} {nj n2 : Nat} (h : vM s7 s9 nj n2) (e9 : ∀ k, k < n2 → s9' k 0 = s9 k 0) (e9n : s9' n2 0 = -1) (e7 : s7' 0 0 = s7 0 0 + nI 1) : vM s7' s9' nj (n2 + 1) := by
  refine ⟨fun k hk => ?_, ?_⟩
  · by_cases c : k = n2
    · subst c
      exact Or.inl e9n
    · rw [e9 k (by omega)]
      exact h.1 k (by omega)
  · rw [e7, h.2, nI_add]
    refine congrArg nI ?_
    show _ = kcn (kMq s9') n2 + kMq s9' n2
    rw [show kMq s9' n2 = 1 from if_pos e9n]
    refine congrArg (· + 1) (kcn_cg fun j hj => ?_)
    unfold kMq
    rw [e9 j hj]
theorem vP.cg {s11 s11' : kR2} {n6 n6' : Nat → Nat} {nj n3 n3' n4 n4' n5 : Nat} (h : vP s11 n6 nj n3 n4 n5) (h3 : n3 ≤ n3') (h4 : n4 ≤ n4') (e6 : ∀ i, i < n5 → n6' i = n6 i) (e : ∀ i, i < n3 → s11' i 4 = s11 i 4) : vP s11' n6' nj n3' n4' n5 := by
  refine ⟨by have := h.1; omega, fun i hi => ?_⟩
  obtain ⟨a1, r, a2, a3, a4⟩ := h.2 i hi
  rw [e6 i hi]
  exact ⟨by omega, r, a2, by rw [e _ a1]; exact a3, a4⟩
/-- the act that was taken is refused -/
theorem vP.ref {s11 s11' : kR2} {n6 n6' : Nat → Nat} {nj n3 n4 n5 r : Nat} (h : vP s11 n6 nj n3 n4 n5) (hn : n4 < n3) (hr : r ≤ 3) (hr3 : r = 3 → nj = 40) (e6 : ∀ i, i < n5 → n6' i = n6 i) (e6n : n6' n5 = n4) (e : ∀ i, i ≠ n4 → s11' i 4 = s11 i 4) (en : s11' n4 4 = nI r) : vP s11' n6' nj n3 (n4 + 1) (n5 + 1) := by
  refine ⟨by have := h.1; omega, fun i hi => ?_⟩
  by_cases c : i = n5
  · subst c
    rw [e6n]
    exact ⟨hn, r, hr, en, hr3⟩
  · rw [e6 i (by omega)]
    obtain ⟨a1, r2, a2, a3, a4⟩ := h.2 i (by omega)
    refine ⟨a1, ?_⟩
    by_cases c2 : n6 i = n4
    · rw [c2]
      exact ⟨r, hr, en, hr3⟩
    · rw [e _ c2]
      exact ⟨r2, a2, a3, a4⟩
theorem vS.change {S : kI4} {N : kN3} {T d fS kk : Nat} {job f x y : Int32} (h : vS S N T) (hd : d < 4) (hfS : fS = 8 ∨ fS = 10) (hx : ∃ a, a ≤ 10000 ∧ x = nI a) (hf : f = nI 0 ∨ f = nI 1) (hjb : (∃ i, i < N 1 0 0 ∧ job = nI i) ∨ ∃ k, k < N 2 d 0 ∧ job = nI (1000 + k)) : vS (sPut (sAct S d (N 3 d 0) job f x y (-1)) fS d kk f x) (w3 N 3 d 0 (N 3 d 0 + 1)) T := by
  have e1 : w3 N 3 d 0 (N 3 d 0 + 1) 1 0 0 = N 1 0 0 := w3_n (by omega)
  have eS : ∀ f' e, f' ≠ 8 → f' ≠ 10 → ¬ (f' = 11 ∧ e = d) → sPut (sAct S d (N 3 d 0) job f x y (-1)) fS d kk f x f' e = S f' e := fun f' e z1 z2 z3 => by
    funext a b
    rw [sPut_n (show ¬ (f' = fS ∧ e = d ∧ a = kk) from fun y => by rcases hfS with z | z <;> omega), sAct_n (show ¬ (f' = 11 ∧ e = d ∧ a = N 3 d 0) from fun y => by omega)]
  refine ⟨by rw [e1]; exact h.1, ?_, fun e he => ?_⟩
  · rw [e1]
    exact h.2.1.cg (fun a b _ _ => by rw [eS 3 a (by decide) (by decide) (by omega)])
  · by_cases c : e = d
    · subst c
      obtain ⟨h1, h2, h3, h4, h5⟩ := h.2.2 e he
      unfold vD
      rw [e1, eS 4 e (by decide) (by decide) (by omega), eS 5 e (by decide) (by decide) (by omega), eS 6 e (by decide) (by decide) (by omega), eS 7 e (by decide) (by decide) (by omega), eS 9 e (by decide) (by decide) (by omega), w3_f (show 2 ≠ 3 by decide), w3_f (show 4 ≠ 3 by decide), w3_f (show 5 ≠ 3 by decide), w3_f (show 6 ≠ 3 by decide), w3_f (show 11 ≠ 3 by decide), w3_s]
      have e11 : ∀ i c, i ≠ N 3 e 0 → sPut (sAct S e (N 3 e 0) job f x y (-1)) fS e kk f x 11 e i c = S 11 e i c := fun i c z => by
        rw [sPut_n (show ¬ (11 = fS ∧ e = e ∧ i = kk) from fun y => by rcases hfS with z | z <;> omega), sAct_n (show ¬ (11 = 11 ∧ e = e ∧ i = N 3 e 0) from fun y => by omega)]
      have e11n : ∀ c, sPut (sAct S e (N 3 e 0) job f x y (-1)) fS e kk f x 11 e (N 3 e 0) c = if c = 0 then job else if c = 1 then f else if c = 2 then x else if c = 3 then y else -1 := fun c => by
        rw [sPut_n (show ¬ (11 = fS ∧ e = e ∧ N 3 e 0 = kk) from fun y => by rcases hfS with z | z <;> omega)]
        exact if_pos ⟨rfl, rfl, rfl⟩
      refine ⟨h1, h2, h3, h4.more (fun i c z _ => e11 i c (by omega)) (by rw [e11n]; exact hx) (by rw [e11n]; exact hf) (by rw [e11n]; exact hjb), h5.cg (by omega) (Nat.le_refl _) (fun _ _ => rfl) (fun i z => e11 i 4 (by omega))⟩
    · exact (h.2.2 e he).cg e1 (fun f hf => eS f e (by omega) (by omega) (by omega)) (fun f hf => w3_d (by omega))
theorem vS.make {S : kI4} {N : kN3} {T d : Nat} {x : Int32} (h : vS S N T) (hd : d < 4) (hn2 : N 2 d 0 < 512) (hx : ∃ a, a ≤ 10000 ∧ x = nI a) : vS (sMake S N d x) (nMake N d) T := by
  have en : ∀ f, f ≠ 2 → f ≠ 3 → nMake N d f = N f := fun f z1 z2 => by
    unfold nMake nMk
    rw [w3_f z2, w3_f z1]
  have e1 : nMake N d 1 0 0 = N 1 0 0 := by rw [en 1 (by decide) (by decide)]
  have eS : ∀ f e, f ≠ 10 → ¬ ((f = 7 ∨ f = 9 ∨ f = 11) ∧ e = d) → sMake S N d x f e = S f e := fun f e z1 z2 => by
    funext a b
    unfold sMake sMk1
    rw [sAct_n (by omega), w4_n (by omega), sMk_n (by omega)]
  refine ⟨by rw [e1]; exact h.1, ?_, fun e he => ?_⟩
  · rw [e1]
    exact h.2.1.cg (fun a b _ _ => by rw [eS 3 a (by decide) (by omega)])
  · by_cases c : e = d
    · subst c
      obtain ⟨h1, h2, h3, h4, h5⟩ := h.2.2 e he
      have a2 : nMake N e 2 e 0 = N 2 e 0 + 1 := (w3_n (by omega)).trans w3_s
      have a3 : nMake N e 3 e 0 = N 3 e 0 + 1 := w3_s
      unfold vD
      rw [e1, eS 4 e (by decide) (by omega), eS 5 e (by decide) (by omega), eS 6 e (by decide) (by omega), en 4 (by decide) (by decide), en 5 (by decide) (by decide), en 6 (by decide) (by decide), en 11 (by decide) (by decide), a2, a3]
      have e9 : ∀ k, k ≠ N 2 e 0 → sMake S N e x 9 e k 0 = S 9 e k 0 := fun k z => by
        unfold sMake sMk1
        rw [sAct_n (by omega), w4_n (by omega), sMk_n (by omega)]
      have e9n : sMake S N e x 9 e (N 2 e 0) 0 = -1 := by
        unfold sMake sMk1
        rw [sAct_n (by omega), w4_n (by omega)]
        exact if_pos ⟨rfl, rfl, rfl⟩
      have e7 : sMake S N e x 7 e 0 0 = S 7 e 0 0 + nI 1 := by
        unfold sMake sMk1
        rw [sAct_n (by omega), w4_s]
      have e11 : ∀ i c, i ≠ N 3 e 0 → sMake S N e x 11 e i c = S 11 e i c := fun i c z => by
        unfold sMake sMk1
        rw [sAct_n (by omega), w4_n (by omega), sMk_n (by omega)]
      have e11n : ∀ c, sMake S N e x 11 e (N 3 e 0) c = if c = 0 then nI (1000 + N 2 e 0) else if c = 1 then -1 else if c = 2 then x else if c = 3 then nI 0 else -1 := fun c => if_pos ⟨rfl, rfl, rfl⟩
      exact ⟨h1, h2, h3.make (fun k z => e9 k (by omega)) e9n e7, h4.make hn2 (fun k z => e9 k (by omega)) e9n (fun i c z _ => e11 i c (by omega)) (by rw [e11n]; exact hx) (by rw [e11n]; rfl) (by rw [e11n]; rfl), h5.cg (by omega) (Nat.le_refl _) (fun _ _ => rfl) (fun i z => e11 i 4 (by omega))⟩
    · refine (h.2.2 e he).cg e1 (fun f hf => eS f e (by omega) (by omega)) (fun f hf => ?_)
      unfold nMake nMk
      rw [w3_d (by omega), w3_d (by omega)]
