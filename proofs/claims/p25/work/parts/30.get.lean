/-! what a wrapper answers in range -/
theorem kin_ok {m hi : Nat} (h : m ≤ hi) (h2 : hi < 2 ^ 31) : kin (nI m) (nI 0) (nI hi) := ⟨nI_nlt (Nat.zero_le _) (by omega), nI_le h h2⟩
theorem hf_no {S : kI4} {N : kN3} {d : Nat} {job : Int32} (h1 : ∀ k, k < N 2 d 0 → job ≠ nI (1000 + k)) (h2 : ∀ n, n < 40 → job = nI n → S 5 d n 0 = nI 0) : ∀ o, kHf S N d job o → o = none := by
  intro o h
  rcases h with ⟨k, a1, a2, _⟩ | ⟨_, r, a2, ⟨n, b1, b2, b3, _⟩ | ⟨_, b⟩⟩
  · exact absurd a2 (h1 k a1)
  · rcases a2 with ⟨k, c1, c2, _⟩ | ⟨_, c2⟩
    · exact absurd c2 (h1 k c1)
    · rw [c2] at b2
      exact absurd (h2 n b1 b2) b3
  · exact b
theorem vS.m2 {S : kI4} {N : kN3} {T d : Nat} (V : vS S N T) (hd : d < 4) : N 2 d 0 ≤ N 3 d 0 := (V.2.2 d hd).2.2.2.1.2.1
theorem hf_no1 {S : kI4} {N : kN3} {T d k : Nat} (V : vS S N T) (hO : okX S N) (hd : d < 4) (hk : k < N 1 0 0) (h : ¬ ¬ S 5 d k 0 = nI 0) : ∀ o, kHf S N d (nI k) o → o = none := by
  have hV := V.1
  have hA := (hO.2 d hd).1
  refine hf_no (fun q hq e => ?_) (fun n hn e => ?_)
  · have := nI_inj e (by omega) (by omega)
    omega
  · have := nI_inj e (by omega) (by omega)
    subst this
    exact Classical.not_not.mp h
theorem hf_yes {S : kI4} {N : kN3} {T d k : Nat} (V : vS S N T) (hO : okX S N) (hd : d < 4) (hk : k < N 1 0 0) (h : ¬ S 5 d k 0 = nI 0) : kHf S N d (nI k) (some (16, d, k)) := by
  have hV := V.1
  have hA := (hO.2 d hd).1
  have hn : ∀ q, q < N 2 d 0 → nI k ≠ nI (1000 + q) := fun q hq e => by
    have := nI_inj e (by omega) (by omega)
    omega
  refine Or.inr ⟨fun q hq e => absurd e (hn q hq), nI k, Or.inr ⟨hn, rfl⟩, Or.inl ⟨k, by omega, rfl, h, Or.inl ⟨?_, rfl⟩⟩⟩
  rcases (V.2.2 d hd).2.1.1 k (by omega) with z | z
  · exact absurd z h
  · exact z.2.2
theorem hf_own {S : kI4} {N : kN3} {T d k : Nat} (V : vS S N T) (hd : d < 4) (hk : k < N 2 d 0) (h : ¬ S 9 d k 0 = -1) : ∃ j, j < N 1 0 0 ∧ S 9 d k 0 = nI j := by
  rcases (V.2.2 d hd).2.2.1.1 k hk with z | z
  · exact absurd z h
  · exact z
theorem hf_ownN {S : kI4} {N : kN3} {T d k j : Nat} (V : vS S N T) (hO : okX S N) (hd : d < 4) (hk : k < N 2 d 0) (hj : j < N 1 0 0) (h9 : S 9 d k 0 = nI j) (h : S 5 d j 0 = nI 0) : kHf S N d (nI (1000 + k)) none := by
  have hV := V.1
  have hA := (hO.2 d hd).1
  refine Or.inr ⟨fun q hq e => ?_, nI j, Or.inl ⟨k, hk, rfl, h9.symm⟩, Or.inr ⟨fun n hn e => ?_, rfl⟩⟩
  · have := kown_inj e (by omega) (by omega)
    subst this
    rw [h9]
    exact nI_m1 (by omega)
  · have := nI_inj e (by omega) (by omega)
    subst this
    exact h
theorem hf_ownY {S : kI4} {N : kN3} {T d k j : Nat} (V : vS S N T) (hO : okX S N) (hd : d < 4) (hk : k < N 2 d 0) (hj : j < N 1 0 0) (h9 : S 9 d k 0 = nI j) (h : ¬ S 5 d j 0 = nI 0) : kHf S N d (nI (1000 + k)) (some (16, d, j)) := by
  have hV := V.1
  have hA := (hO.2 d hd).1
  refine Or.inr ⟨fun q hq e => ?_, nI j, Or.inl ⟨k, hk, rfl, h9.symm⟩, Or.inl ⟨j, by omega, rfl, h, Or.inl ⟨?_, rfl⟩⟩⟩
  · have := kown_inj e (by omega) (by omega)
    subst this
    rw [h9]
    exact nI_m1 (by omega)
  · rcases (V.2.2 d hd).2.1.1 j (by omega) with z | z
    · exact absurd z h
    · exact z.2.2
theorem kFh.c8 {N : kN3} {d ff fS kk k : Nat} (h : (some (ff, d, kk) : Option kT) = some (16, d, k)) (g : kFh N d ff fS kk) : fS = 8 ∧ kk = k := by
  have e1 : ff = 16 := congrArg (fun t : kT => t.1) (Option.some.inj h)
  have e2 : kk = k := congrArg (fun t : kT => t.2.2) (Option.some.inj h)
  rcases g with ⟨a, b, _⟩ | ⟨a, b, _⟩
  · exact ⟨b, e2⟩
  · omega
theorem kFh.c10 {N : kN3} {d ff fS kk k : Nat} (h : (some (ff, d, kk) : Option kT) = some (18, d, k)) (g : kFh N d ff fS kk) : fS = 10 ∧ kk = k := by
  have e1 : ff = 18 := congrArg (fun t : kT => t.1) (Option.some.inj h)
  have e2 : kk = k := congrArg (fun t : kT => t.2.2) (Option.some.inj h)
  rcases g with ⟨a, b, _⟩ | ⟨a, b, _⟩
  · omega
  · exact ⟨b, e2⟩
/-- does the device hold its own job -/
def kOq (S : kI4) (d k : Nat) : Nat := if S 9 d k 0 = -1 then 1 else kCq (S 5 d) (S 9 d k 0).toNatClampNeg
/-- the value of a job as a device holds it -/
def kHv (S : kI4) (d k f : Nat) : Int32 := if S 5 d k 0 = nI 0 then (-2000000003) else S 8 d k f
def kOv (S : kI4) (d k f : Nat) : Int32 := if S 9 d k 0 = -1 then S 10 d k f else kHv S d (S 9 d k 0).toNatClampNeg f
theorem g_crew {l : Launch} (htr : l.stackTraces = false) {E : kE} {A : Nat → Prop} {C : kC} {L : kL} {S : kI4} {N : kN3} (hX : isX E C L S N) (hO : okX S N) {k : Nat} (hk : k < N 1 0 0) : kMH l yL_crew cL_crew 3 (some .int) [(0, 5, 6, 22)] 8 124 1 6 E A C L [.ref (L (1, 0, 0)), .int (nI k)] (fun v C' L' => v = some (.int (S 2 k 0 0)) ∧ L = L' ∧ C = C') := by
  have hj := hO.1
  refine (h_crew htr hX hO (nI k)).imp (fun v C' L' h => ?_)
  rcases h with h | h
  · obtain ⟨⟨i, hi, e, e2⟩, e3, e4⟩ := h
    have z := nI_inj e (by omega) (by omega)
    subst z
    exact ⟨e2, e3, e4⟩
  · obtain ⟨_, b, _⟩ := h
    exact absurd (kix.of hk (by omega)) b
theorem g_site {l : Launch} (htr : l.stackTraces = false) {E : kE} {A : Nat → Prop} {C : kC} {L : kL} {S : kI4} {N : kN3} (hX : isX E C L S N) (hO : okX S N) {k : Nat} (hk : k < N 1 0 0) : kMH l yL_site cL_site 3 (some .int) [(0, 5, 6, 22)] 8 124 1 6 E A C L [.ref (L (1, 0, 0)), .int (nI k)] (fun v C' L' => v = some (.int (S 1 k 0 0)) ∧ L = L' ∧ C = C') := by
  have hj := hO.1
  refine (h_site htr hX hO (nI k)).imp (fun v C' L' h => ?_)
  rcases h with h | h
  · obtain ⟨⟨i, hi, e, e2⟩, e3, e4⟩ := h
    have z := nI_inj e (by omega) (by omega)
    subst z
    exact ⟨e2, e3, e4⟩
  · obtain ⟨_, b, _⟩ := h
    exact absurd (kix.of hk (by omega)) b
theorem g_value0 {l : Launch} (htr : l.stackTraces = false) {E : kE} {A : Nat → Prop} {C : kC} {L : kL} {S : kI4} {N : kN3} (hX : isX E C L S N) (hO : okX S N) {k : Nat} (hk : k < N 1 0 0) : kMH l yL_value cL_value 4 (some .int) [(0, 6, 7, 22), (0, 6, 11, 13)] 9 147 2 12 E A C L [.ref (L (1, 0, 0)), .int (nI k), .int (nI 0)] (fun v C' L' => v = some (.int (S 3 k 0 0)) ∧ L = L' ∧ C = C') := by
  have hj := hO.1
  refine (h_value htr hX hO (nI k) (nI 0)).imp (fun v C' L' h => ?_)
  rcases h with h | h | h
  · obtain ⟨⟨i, hi, e, e1, e2⟩, e3, e4⟩ := h
    have z := nI_inj e (by omega) (by omega)
    subst z
    rw [if_pos rfl] at e2
    exact ⟨e2, e3, e4⟩
  · obtain ⟨_, b, _⟩ := h
    exact absurd (kix.of hk (by omega)) b
  · obtain ⟨_, b, _⟩ := h
    exact absurd (kin_ok (by decide) (by decide)) b.2
theorem g_value1 {l : Launch} (htr : l.stackTraces = false) {E : kE} {A : Nat → Prop} {C : kC} {L : kL} {S : kI4} {N : kN3} (hX : isX E C L S N) (hO : okX S N) {k : Nat} (hk : k < N 1 0 0) : kMH l yL_value cL_value 4 (some .int) [(0, 6, 7, 22), (0, 6, 11, 13)] 9 147 2 12 E A C L [.ref (L (1, 0, 0)), .int (nI k), .int (nI 1)] (fun v C' L' => v = some (.int (S 3 k 0 1)) ∧ L = L' ∧ C = C') := by
  have hj := hO.1
  refine (h_value htr hX hO (nI k) (nI 1)).imp (fun v C' L' h => ?_)
  rcases h with h | h | h
  · obtain ⟨⟨i, hi, e, e1, e2⟩, e3, e4⟩ := h
    have z := nI_inj e (by omega) (by omega)
    subst z
    rw [if_neg (by decide)] at e2
    exact ⟨e2, e3, e4⟩
  · obtain ⟨_, b, _⟩ := h
    exact absurd (kix.of hk (by omega)) b
  · obtain ⟨_, b, _⟩ := h
    exact absurd (kin_ok (by decide) (by decide)) b.2
theorem g_version0 {l : Launch} (htr : l.stackTraces = false) {E : kE} {A : Nat → Prop} {C : kC} {L : kL} {S : kI4} {N : kN3} (hX : isX E C L S N) (hO : okX S N) {k : Nat} (hk : k < N 1 0 0) : kMH l yL_version cL_version 4 (some .int) [(0, 6, 7, 22), (0, 6, 11, 13)] 9 147 2 12 E A C L [.ref (L (1, 0, 0)), .int (nI k), .int (nI 0)] (fun v C' L' => v = some (.int (S 3 k 0 2)) ∧ L = L' ∧ C = C') := by
  have hj := hO.1
  refine (h_version htr hX hO (nI k) (nI 0)).imp (fun v C' L' h => ?_)
  rcases h with h | h | h
  · obtain ⟨⟨i, hi, e, e1, e2⟩, e3, e4⟩ := h
    have z := nI_inj e (by omega) (by omega)
    subst z
    rw [if_pos rfl] at e2
    exact ⟨e2, e3, e4⟩
  · obtain ⟨_, b, _⟩ := h
    exact absurd (kix.of hk (by omega)) b
  · obtain ⟨_, b, _⟩ := h
    exact absurd (kin_ok (by decide) (by decide)) b.2
theorem g_version1 {l : Launch} (htr : l.stackTraces = false) {E : kE} {A : Nat → Prop} {C : kC} {L : kL} {S : kI4} {N : kN3} (hX : isX E C L S N) (hO : okX S N) {k : Nat} (hk : k < N 1 0 0) : kMH l yL_version cL_version 4 (some .int) [(0, 6, 7, 22), (0, 6, 11, 13)] 9 147 2 12 E A C L [.ref (L (1, 0, 0)), .int (nI k), .int (nI 1)] (fun v C' L' => v = some (.int (S 3 k 0 3)) ∧ L = L' ∧ C = C') := by
  have hj := hO.1
  refine (h_version htr hX hO (nI k) (nI 1)).imp (fun v C' L' h => ?_)
  rcases h with h | h | h
  · obtain ⟨⟨i, hi, e, e1, e2⟩, e3, e4⟩ := h
    have z := nI_inj e (by omega) (by omega)
    subst z
    rw [if_neg (by decide)] at e2
    exact ⟨e2, e3, e4⟩
  · obtain ⟨_, b, _⟩ := h
    exact absurd (kix.of hk (by omega)) b
  · obtain ⟨_, b, _⟩ := h
    exact absurd (kin_ok (by decide) (by decide)) b.2
theorem g_held {l : Launch} (htr : l.stackTraces = false) {E : kE} {A : Nat → Prop} {C : kC} {L : kL} {S : kI4} {N : kN3} (hX : isX E C L S N) (hO : okX S N) {d : Nat} (hd : d < 4) : kMH l yL_held cL_held 3 (some .int) [(0, 5, 6, 22)] 8 124 1 6 E A C L [.ref (L (1, 0, 0)), .int (nI d)] (fun v C' L' => v = some (.int (S 6 d 0 0 + S 7 d 0 0)) ∧ L = L' ∧ C = C') := by
  have hj := hO.1
  refine (h_held htr hX hO (nI d)).imp (fun v C' L' h => ?_)
  rcases h with h | h
  · obtain ⟨⟨i, hi, e, e2⟩, e3, e4⟩ := h
    have z := nI_d e hd hi
    subst z
    exact ⟨e2, e3, e4⟩
  · obtain ⟨_, b, _⟩ := h
    exact absurd (kix.of hd (by decide)) b
theorem g_waiting {l : Launch} (htr : l.stackTraces = false) {E : kE} {A : Nat → Prop} {C : kC} {L : kL} {S : kI4} {N : kN3} (hX : isX E C L S N) (hO : okX S N) {d : Nat} (hd : d < 4) : kMH l yL_waiting cL_waiting 3 (some .int) [(0, 5, 6, 22)] 8 124 1 6 E A C L [.ref (L (1, 0, 0)), .int (nI d)] (fun v C' L' => v = some (.int (nI (N 3 d 0 - N 4 d 0))) ∧ L = L' ∧ C = C') := by
  have hj := hO.1
  refine (h_waiting htr hX hO (nI d)).imp (fun v C' L' h => ?_)
  rcases h with h | h
  · obtain ⟨⟨i, hi, e, e2⟩, e3, e4⟩ := h
    have z := nI_d e hd hi
    subst z
    exact ⟨e2, e3, e4⟩
  · obtain ⟨_, b, _⟩ := h
    exact absurd (kix.of hd (by decide)) b
theorem g_pile {l : Launch} (htr : l.stackTraces = false) {E : kE} {A : Nat → Prop} {C : kC} {L : kL} {S : kI4} {N : kN3} (hX : isX E C L S N) (hO : okX S N) {d : Nat} (hd : d < 4) : kMH l yL_pile cL_pile 3 (some .int) [(0, 5, 6, 22)] 8 124 1 6 E A C L [.ref (L (1, 0, 0)), .int (nI d)] (fun v C' L' => v = some (.int (nI (N 5 d 0))) ∧ L = L' ∧ C = C') := by
  have hj := hO.1
  refine (h_pile htr hX hO (nI d)).imp (fun v C' L' h => ?_)
  rcases h with h | h
  · obtain ⟨⟨i, hi, e, e2⟩, e3, e4⟩ := h
    have z := nI_d e hd hi
    subst z
    exact ⟨e2, e3, e4⟩
  · obtain ⟨_, b, _⟩ := h
    exact absurd (kix.of hd (by decide)) b
theorem g_holds0 {l : Launch} (htr : l.stackTraces = false) {E : kE} {A : Nat → Prop} {C : kC} {L : kL} {S : kI4} {N : kN3} (hX : isX E C L S N) (hO : okX S N) {d : Nat} (hd : d < 4) (job : Int32) (hno : ∀ o, kHf S N d job o → o = none) : kMH l yL_holds cL_holds 4 (some .int) [(0, 14, 15, 22)] 8 130 1 6 E A C L [.ref (L (1, 0, 0)), .int (nI d), .int job] (fun v C' L' => v = some (.int (nI 0)) ∧ L = L' ∧ C = C') := by
  have hj := hO.1
  refine (h_holds htr hX hO (nI d) job).imp (fun v C' L' h => ?_)
  rcases h with h | h
  · obtain ⟨⟨i, hi, e, o, ho, e2⟩, e3, e4⟩ := h
    have z := nI_d e hd hi
    subst z
    have z := hno o ho
    subst z
    exact ⟨e2, e3, e4⟩
  · obtain ⟨_, b, _⟩ := h
    exact absurd (kix.of hd (by decide)) b
theorem g_holds {l : Launch} (htr : l.stackTraces = false) {E : kE} {A : Nat → Prop} {C : kC} {L : kL} {S : kI4} {N : kN3} (hX : isX E C L S N) (hO : okX S N) {T : Nat} (V : vS S N T) {d : Nat} (hd : d < 4) {k : Nat} (hk : k < N 1 0 0) : kMH l yL_holds cL_holds 4 (some .int) [(0, 14, 15, 22)] 8 130 1 6 E A C L [.ref (L (1, 0, 0)), .int (nI d), .int (nI k)] (fun v C' L' => v = some (.int (nI (kCq (S 5 d) k))) ∧ L = L' ∧ C = C') := by
  have hj := hO.1
  refine (h_holds htr hX hO (nI d) (nI k)).imp (fun v C' L' h => ?_)
  rcases h with h | h
  · obtain ⟨⟨i, hi, e, o, ho, e2⟩, e3, e4⟩ := h
    have z := nI_d e hd hi
    subst z
    have hV := V.1
    by_cases c : S 5 d k 0 = nI 0
    · have z := hf_no1 V hO hd hk (fun q => q c) o ho
      subst z
      unfold kCq
      rw [if_pos c]
      exact ⟨e2, e3, e4⟩
    · have z := kHf.un (hO.2 d hd).1 ho (hf_yes V hO hd hk c)
      subst z
      unfold kCq
      rw [if_neg c]
      exact ⟨e2, e3, e4⟩
  · obtain ⟨_, b, _⟩ := h
    exact absurd (kix.of hd (by decide)) b
theorem g_own {l : Launch} (htr : l.stackTraces = false) {E : kE} {A : Nat → Prop} {C : kC} {L : kL} {S : kI4} {N : kN3} (hX : isX E C L S N) (hO : okX S N) {T : Nat} (V : vS S N T) {d : Nat} (hd : d < 4) {k : Nat} (hk : k < N 2 d 0) : kMH l yL_holds cL_holds 4 (some .int) [(0, 14, 15, 22)] 8 130 1 6 E A C L [.ref (L (1, 0, 0)), .int (nI d), .int (nI (1000 + k))] (fun v C' L' => v = some (.int (nI (kOq S d k))) ∧ L = L' ∧ C = C') := by
  have hj := hO.1
  refine (h_holds htr hX hO (nI d) (nI (1000 + k))).imp (fun v C' L' h => ?_)
  rcases h with h | h
  · obtain ⟨⟨i, hi, e, o, ho, e2⟩, e3, e4⟩ := h
    have z := nI_d e hd hi
    subst z
    have hV := V.1
    unfold kOq
    by_cases c : S 9 d k 0 = -1
    · have z := kHf.un (hO.2 d hd).1 ho (Or.inl ⟨k, hk, rfl, c, rfl⟩)
      subst z
      rw [if_pos c]
      exact ⟨e2, e3, e4⟩
    · rw [if_neg c]
      obtain ⟨j, hj1, hj2⟩ := hf_own V hd hk c
      rw [hj2, nI_clamp (by omega)]
      by_cases c2 : S 5 d j 0 = nI 0
      · have z := kHf.un (hO.2 d hd).1 ho (hf_ownN V hO hd hk hj1 hj2 c2)
        subst z
        unfold kCq
        rw [if_pos c2]
        exact ⟨e2, e3, e4⟩
      · have z := kHf.un (hO.2 d hd).1 ho (hf_ownY V hO hd hk hj1 hj2 c2)
        subst z
        unfold kCq
        rw [if_neg c2]
        exact ⟨e2, e3, e4⟩
  · obtain ⟨_, b, _⟩ := h
    exact absurd (kix.of hd (by decide)) b
theorem g_number {l : Launch} (htr : l.stackTraces = false) {E : kE} {A : Nat → Prop} {C : kC} {L : kL} {S : kI4} {N : kN3} (hX : isX E C L S N) (hO : okX S N) {d : Nat} (hd : d < 4) {k : Nat} (hk : k < N 2 d 0) : kMH l yL_number cL_number 4 (some .int) [(0, 6, 7, 22), (0, 6, 11, 13)] 8 126 2 12 E A C L [.ref (L (1, 0, 0)), .int (nI d), .int (nI (1000 + k))] (fun v C' L' => v = some (.int (S 9 d k 0)) ∧ L = L' ∧ C = C') := by
  have hj := hO.1
  refine (h_numberOf htr hX hO (nI d) (nI (1000 + k))).imp (fun v C' L' h => ?_)
  have hb := (hO.2 d hd).1
  rcases h with h | h | h
  · obtain ⟨⟨i, hi, e, k2, hk2, e1, e2⟩, e3, e4⟩ := h
    have z := nI_d e hd hi
    subst z
    have z := kown_inj e1 (by omega) (by omega)
    subst z
    exact ⟨e2, e3, e4⟩
  · obtain ⟨_, b, _⟩ := h
    exact absurd (kix.of hd (by decide)) b
  · obtain ⟨_, ⟨i, hi, e, b⟩, _⟩ := h
    have z := nI_d e hd hi
    subst z
    exact absurd rfl (b k hk)
theorem g_hv0 {l : Launch} (htr : l.stackTraces = false) {E : kE} {A : Nat → Prop} {C : kC} {L : kL} {S : kI4} {N : kN3} (hX : isX E C L S N) (hO : okX S N) {T : Nat} (V : vS S N T) {d : Nat} (hd : d < 4) {k : Nat} (hk : k < N 1 0 0) : kMH l yL_heldValue cL_heldValue 5 (some .int) [(0, 7, 8, 22), (0, 7, 13, 13), (0, 7, 18, 16)] 9 154 3 18 E A C L [.ref (L (1, 0, 0)), .int (nI d), .int (nI k), .int (nI 0)] (fun v C' L' => v = some (.int (kHv S d k 0)) ∧ L = L' ∧ C = C') := by
  have hj := hO.1
  refine (h_heldValue htr hX hO (nI d) (nI k) (nI 0)).imp (fun v C' L' h => ?_)
  rcases h with h | h | h | h
  · obtain ⟨⟨i, hi, e, e1, ff, fS, kk, g1, g2, e2⟩, e3, e4⟩ := h
    have z := nI_d e hd hi
    subst z
    rw [if_pos rfl] at e2
    have hV := V.1
    by_cases c : S 5 d k 0 = nI 0
    · exact absurd (hf_no1 V hO hd hk (fun q => q c) _ g1) (by simp)
    · have z := kHf.un (hO.2 d hd).1 g1 (hf_yes V hO hd hk c)
      obtain ⟨rfl, rfl⟩ := kFh.c8 z g2
      unfold kHv
      rw [if_neg c]
      exact ⟨e2, e3, e4⟩
  · obtain ⟨_, b, _⟩ := h
    exact absurd (kix.of hd (by decide)) b
  · obtain ⟨_, b, _⟩ := h
    exact absurd (kin_ok (by decide) (by decide)) b.2
  · obtain ⟨e2, ⟨i, hi, e, e1, g1⟩, e3, e4⟩ := h
    have z := nI_d e hd hi
    subst z
    by_cases c : S 5 d k 0 = nI 0
    · unfold kHv
      rw [if_pos c]
      exact ⟨e2, e3, e4⟩
    · exact absurd (kHf.un (hO.2 d hd).1 g1 (hf_yes V hO hd hk c)) (by simp)
theorem g_ov0 {l : Launch} (htr : l.stackTraces = false) {E : kE} {A : Nat → Prop} {C : kC} {L : kL} {S : kI4} {N : kN3} (hX : isX E C L S N) (hO : okX S N) {T : Nat} (V : vS S N T) {d : Nat} (hd : d < 4) {k : Nat} (hk : k < N 2 d 0) : kMH l yL_heldValue cL_heldValue 5 (some .int) [(0, 7, 8, 22), (0, 7, 13, 13), (0, 7, 18, 16)] 9 154 3 18 E A C L [.ref (L (1, 0, 0)), .int (nI d), .int (nI (1000 + k)), .int (nI 0)] (fun v C' L' => v = some (.int (kOv S d k 0)) ∧ L = L' ∧ C = C') := by
  have hj := hO.1
  refine (h_heldValue htr hX hO (nI d) (nI (1000 + k)) (nI 0)).imp (fun v C' L' h => ?_)
  rcases h with h | h | h | h
  · obtain ⟨⟨i, hi, e, e1, ff, fS, kk, g1, g2, e2⟩, e3, e4⟩ := h
    have z := nI_d e hd hi
    subst z
    rw [if_pos rfl] at e2
    have hV := V.1
    unfold kOv
    by_cases c : S 9 d k 0 = -1
    · have z := kHf.un (hO.2 d hd).1 g1 (Or.inl ⟨k, hk, rfl, c, rfl⟩)
      obtain ⟨rfl, rfl⟩ := kFh.c10 z g2
      rw [if_pos c]
      exact ⟨e2, e3, e4⟩
    · rw [if_neg c]
      obtain ⟨j, hj1, hj2⟩ := hf_own V hd hk c
      rw [hj2, nI_clamp (by omega)]
      unfold kHv
      by_cases c2 : S 5 d j 0 = nI 0
      · exact absurd (kHf.un (hO.2 d hd).1 g1 (hf_ownN V hO hd hk hj1 hj2 c2)) (by simp)
      · have z := kHf.un (hO.2 d hd).1 g1 (hf_ownY V hO hd hk hj1 hj2 c2)
        obtain ⟨rfl, rfl⟩ := kFh.c8 z g2
        rw [if_neg c2]
        exact ⟨e2, e3, e4⟩
  · obtain ⟨_, b, _⟩ := h
    exact absurd (kix.of hd (by decide)) b
  · obtain ⟨_, b, _⟩ := h
    exact absurd (kin_ok (by decide) (by decide)) b.2
  · obtain ⟨e2, ⟨i, hi, e, e1, g1⟩, e3, e4⟩ := h
    have z := nI_d e hd hi
    subst z
    have hV := V.1
    unfold kOv
    by_cases c : S 9 d k 0 = -1
    · exact absurd (kHf.un (hO.2 d hd).1 g1 (Or.inl ⟨k, hk, rfl, c, rfl⟩)) (by simp)
    · rw [if_neg c]
      obtain ⟨j, hj1, hj2⟩ := hf_own V hd hk c
      rw [hj2, nI_clamp (by omega)]
      unfold kHv
      by_cases c2 : S 5 d j 0 = nI 0
      · rw [if_pos c2]
        exact ⟨e2, e3, e4⟩
      · exact absurd (kHf.un (hO.2 d hd).1 g1 (hf_ownY V hO hd hk hj1 hj2 c2)) (by simp)
theorem g_hv1 {l : Launch} (htr : l.stackTraces = false) {E : kE} {A : Nat → Prop} {C : kC} {L : kL} {S : kI4} {N : kN3} (hX : isX E C L S N) (hO : okX S N) {T : Nat} (V : vS S N T) {d : Nat} (hd : d < 4) {k : Nat} (hk : k < N 1 0 0) : kMH l yL_heldValue cL_heldValue 5 (some .int) [(0, 7, 8, 22), (0, 7, 13, 13), (0, 7, 18, 16)] 9 154 3 18 E A C L [.ref (L (1, 0, 0)), .int (nI d), .int (nI k), .int (nI 1)] (fun v C' L' => v = some (.int (kHv S d k 1)) ∧ L = L' ∧ C = C') := by
  have hj := hO.1
  refine (h_heldValue htr hX hO (nI d) (nI k) (nI 1)).imp (fun v C' L' h => ?_)
  rcases h with h | h | h | h
  · obtain ⟨⟨i, hi, e, e1, ff, fS, kk, g1, g2, e2⟩, e3, e4⟩ := h
    have z := nI_d e hd hi
    subst z
    rw [if_neg (by decide)] at e2
    have hV := V.1
    by_cases c : S 5 d k 0 = nI 0
    · exact absurd (hf_no1 V hO hd hk (fun q => q c) _ g1) (by simp)
    · have z := kHf.un (hO.2 d hd).1 g1 (hf_yes V hO hd hk c)
      obtain ⟨rfl, rfl⟩ := kFh.c8 z g2
      unfold kHv
      rw [if_neg c]
      exact ⟨e2, e3, e4⟩
  · obtain ⟨_, b, _⟩ := h
    exact absurd (kix.of hd (by decide)) b
  · obtain ⟨_, b, _⟩ := h
    exact absurd (kin_ok (by decide) (by decide)) b.2
  · obtain ⟨e2, ⟨i, hi, e, e1, g1⟩, e3, e4⟩ := h
    have z := nI_d e hd hi
    subst z
    by_cases c : S 5 d k 0 = nI 0
    · unfold kHv
      rw [if_pos c]
      exact ⟨e2, e3, e4⟩
    · exact absurd (kHf.un (hO.2 d hd).1 g1 (hf_yes V hO hd hk c)) (by simp)
theorem g_ov1 {l : Launch} (htr : l.stackTraces = false) {E : kE} {A : Nat → Prop} {C : kC} {L : kL} {S : kI4} {N : kN3} (hX : isX E C L S N) (hO : okX S N) {T : Nat} (V : vS S N T) {d : Nat} (hd : d < 4) {k : Nat} (hk : k < N 2 d 0) : kMH l yL_heldValue cL_heldValue 5 (some .int) [(0, 7, 8, 22), (0, 7, 13, 13), (0, 7, 18, 16)] 9 154 3 18 E A C L [.ref (L (1, 0, 0)), .int (nI d), .int (nI (1000 + k)), .int (nI 1)] (fun v C' L' => v = some (.int (kOv S d k 1)) ∧ L = L' ∧ C = C') := by
  have hj := hO.1
  refine (h_heldValue htr hX hO (nI d) (nI (1000 + k)) (nI 1)).imp (fun v C' L' h => ?_)
  rcases h with h | h | h | h
  · obtain ⟨⟨i, hi, e, e1, ff, fS, kk, g1, g2, e2⟩, e3, e4⟩ := h
    have z := nI_d e hd hi
    subst z
    rw [if_neg (by decide)] at e2
    have hV := V.1
    unfold kOv
    by_cases c : S 9 d k 0 = -1
    · have z := kHf.un (hO.2 d hd).1 g1 (Or.inl ⟨k, hk, rfl, c, rfl⟩)
      obtain ⟨rfl, rfl⟩ := kFh.c10 z g2
      rw [if_pos c]
      exact ⟨e2, e3, e4⟩
    · rw [if_neg c]
      obtain ⟨j, hj1, hj2⟩ := hf_own V hd hk c
      rw [hj2, nI_clamp (by omega)]
      unfold kHv
      by_cases c2 : S 5 d j 0 = nI 0
      · exact absurd (kHf.un (hO.2 d hd).1 g1 (hf_ownN V hO hd hk hj1 hj2 c2)) (by simp)
      · have z := kHf.un (hO.2 d hd).1 g1 (hf_ownY V hO hd hk hj1 hj2 c2)
        obtain ⟨rfl, rfl⟩ := kFh.c8 z g2
        rw [if_neg c2]
        exact ⟨e2, e3, e4⟩
  · obtain ⟨_, b, _⟩ := h
    exact absurd (kix.of hd (by decide)) b
  · obtain ⟨_, b, _⟩ := h
    exact absurd (kin_ok (by decide) (by decide)) b.2
  · obtain ⟨e2, ⟨i, hi, e, e1, g1⟩, e3, e4⟩ := h
    have z := nI_d e hd hi
    subst z
    have hV := V.1
    unfold kOv
    by_cases c : S 9 d k 0 = -1
    · exact absurd (kHf.un (hO.2 d hd).1 g1 (Or.inl ⟨k, hk, rfl, c, rfl⟩)) (by simp)
    · rw [if_neg c]
      obtain ⟨j, hj1, hj2⟩ := hf_own V hd hk c
      rw [hj2, nI_clamp (by omega)]
      unfold kHv
      by_cases c2 : S 5 d j 0 = nI 0
      · rw [if_pos c2]
        exact ⟨e2, e3, e4⟩
      · exact absurd (kHf.un (hO.2 d hd).1 g1 (hf_ownY V hO hd hk hj1 hj2 c2)) (by simp)
theorem g_reason {l : Launch} (htr : l.stackTraces = false) {E : kE} {A : Nat → Prop} {C : kC} {L : kL} {S : kI4} {N : kN3} (hX : isX E C L S N) (hO : okX S N) {d : Nat} (hd : d < 4) {k : Nat} (hk : k < N 5 d 0) : kMH l yL_reason cL_reason 4 (some .int) [(0, 6, 7, 22)] 9 148 2 12 E A C L [.ref (L (1, 0, 0)), .int (nI d), .int (nI k)] (fun v C' L' => v = some (.int (S 11 d (N 6 d k) 4)) ∧ L = L' ∧ C = C') := by
  have hj := hO.1
  refine (h_reason htr hX hO (nI d) (nI k)).imp (fun v C' L' h => ?_)
  have hb := (hO.2 d hd).2.2.2.1
  rcases h with h | h
  · obtain ⟨⟨i, hi, e, k2, hk2, e1, e2⟩, e3, e4⟩ := h
    have z := nI_d e hd hi
    subst z
    have z := nI_inj e1 (by omega) (by omega)
    subst z
    exact ⟨e2, e3, e4⟩
  · obtain ⟨_, b | ⟨i, hi, e, b⟩, _⟩ := h
    · exact absurd (kix.of hd (by decide)) b
    · have z := nI_d e hd hi
      subst z
      exact absurd (kix.of hk (by omega)) b
theorem g_refused {l : Launch} (htr : l.stackTraces = false) {E : kE} {A : Nat → Prop} {C : kC} {L : kL} {S : kI4} {N : kN3} (hX : isX E C L S N) (hO : okX S N) {d : Nat} (hd : d < 4) {k : Nat} (hk : k < N 5 d 0) : kMH l yL_refused cL_refused 4 (some .int) [(0, 6, 7, 22)] 9 148 2 12 E A C L [.ref (L (1, 0, 0)), .int (nI d), .int (nI k)] (fun v C' L' => v = some (.int (S 11 d (N 6 d k) 2)) ∧ L = L' ∧ C = C') := by
  have hj := hO.1
  refine (h_refusedValue htr hX hO (nI d) (nI k)).imp (fun v C' L' h => ?_)
  have hb := (hO.2 d hd).2.2.2.1
  rcases h with h | h
  · obtain ⟨⟨i, hi, e, k2, hk2, e1, e2⟩, e3, e4⟩ := h
    have z := nI_d e hd hi
    subst z
    have z := nI_inj e1 (by omega) (by omega)
    subst z
    exact ⟨e2, e3, e4⟩
  · obtain ⟨_, b | ⟨i, hi, e, b⟩, _⟩ := h
    · exact absurd (kix.of hd (by decide)) b
    · have z := nI_d e hd hi
      subst z
      exact absurd (kix.of hk (by omega)) b
