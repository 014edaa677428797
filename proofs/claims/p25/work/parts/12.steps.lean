theorem isX.f15 {E : kE} {C C' : kC} {L L' : kL} {S S' : kI4} {N N' : kN3} {i : Nat} (hv : C' (15, i, 0) = some (kF S' 3 i 0)) (h : isX E C L S N) (hC : ∀ f d' k, ¬ (f = 15 ∧ d' = i) → C' (f, d', k) = C (f, d', k)) (hL : ∀ f d' k, f = f → L' (f, d', k) = L (f, d', k)) (hS : ∀ f d' k j, ¬ (f = 3 ∧ d' = i) → S' f d' k j = S f d' k j) (hN : ∀ f d' k, f = f → N' f d' k = N f d' k) : isX E C' L' S' N' := by
  obtain ⟨hc9, hd9⟩ := h
  refine ⟨?_, fun d hd => (hd9 d hd).keep (fun f k _ _ _ _ => hC f d k (by omega)) (fun f k _ _ _ _ => hL f d k (by omega)) (fun f k j _ _ => hS f d k j (by omega)) (fun f k _ _ => hN f d k (by omega))⟩
  obtain ⟨⟨h11, h10⟩, h2, h3, h4⟩ := hc9
  have hN1 := hN 1 0 0 rfl
  have cc9 : ∀ f x9, (¬ (f = 15 ∧ x9 = i)) → C' (f, x9, 0) = C (f, x9, 0) := fun f x9 z => hC f x9 0 z
  have lq : ∀ f x9, (f = f) → L' (f, x9, 0) = L (f, x9, 0) := fun f x9 z => hL f x9 0 z
  have qq9 : ∀ f x9 j, (¬ (f = 3 ∧ x9 = i)) → S' f x9 0 j = S f x9 0 j := fun f x9 j z => hS f x9 0 j z
  refine ⟨?_, ?_, ?_, ?_⟩
  ·
    refine ⟨?_, by rw [(cc9 60 0 (by omega))]; exact h10⟩
    rw [(cc9 1 0 (by omega)), h11, (lq 2 0 (by omega)), (lq 4 0 (by omega)), qq9 12 0 0 (by omega)]
  ·
    rw [hN1]
    exact h2.keep (cc9 2 0 (by omega)) (cc9 3 0 (by omega)) (lq 3 0 (by omega)) (fun j _ => (lq 14 j (by omega)))
  ·
    rw [(cc9 4 0 (by omega)), h3]
    have e : ∀ d, L' (5, d, 0) = L (5, d, 0) := fun d => (lq 5 d (by omega))
    simp only [e]
  ·
    intro i9 hi
    rw [hN1] at hi
    by_cases e : i9 = i
    · subst e
      refine ⟨?_, hv⟩
      rw [(cc9 14 i9 (by omega)), (h4 i9 hi).1, lq 15 i9 (by omega), qq9 1 i9 0 (by omega), qq9 2 i9 0 (by omega)]
    · rw [(cc9 14 i9 (by omega)), (cc9 15 i9 (by omega)), (h4 i9 hi).1, (h4 i9 hi).2, lq 15 i9 (by omega), qq9 1 i9 0 (by omega), qq9 2 i9 0 (by omega)]
      simp only [kF, qq9 3 i9 0 (by omega), qq9 3 i9 1 (by omega), qq9 3 i9 2 (by omega), qq9 3 i9 3 (by omega), and_self]

theorem isX.j14 {E : kE} {C C' : kC} {L L' : kL} {S S' : kI4} {N N' : kN3} {i : Nat} (hv : C' (14, i, 0) = some (.inr (4, [.int (S' 1 i 0 0), .int (S' 2 i 0 0), .ref (L' (15, i, 0))]))) (h : isX E C L S N) (hC : ∀ f d' k, ¬ (f = 14 ∧ d' = i) → C' (f, d', k) = C (f, d', k)) (hL : ∀ f d' k, f = f → L' (f, d', k) = L (f, d', k)) (hS : ∀ f d' k j, ¬ ((f = 1 ∨ f = 2) ∧ d' = i) → S' f d' k j = S f d' k j) (hN : ∀ f d' k, f = f → N' f d' k = N f d' k) : isX E C' L' S' N' := by
  obtain ⟨hc9, hd9⟩ := h
  refine ⟨?_, fun d hd => (hd9 d hd).keep (fun f k _ _ _ _ => hC f d k (by omega)) (fun f k _ _ _ _ => hL f d k (by omega)) (fun f k j _ _ => hS f d k j (by omega)) (fun f k _ _ => hN f d k (by omega))⟩
  obtain ⟨⟨h11, h10⟩, h2, h3, h4⟩ := hc9
  have hN1 := hN 1 0 0 rfl
  have cc9 : ∀ f x9, (¬ (f = 14 ∧ x9 = i)) → C' (f, x9, 0) = C (f, x9, 0) := fun f x9 z => hC f x9 0 z
  have lq : ∀ f x9, (f = f) → L' (f, x9, 0) = L (f, x9, 0) := fun f x9 z => hL f x9 0 z
  have qq9 : ∀ f x9 j, (¬ ((f = 1 ∨ f = 2) ∧ x9 = i)) → S' f x9 0 j = S f x9 0 j := fun f x9 j z => hS f x9 0 j z
  refine ⟨?_, ?_, ?_, ?_⟩
  ·
    refine ⟨?_, by rw [(cc9 60 0 (by omega))]; exact h10⟩
    rw [(cc9 1 0 (by omega)), h11, (lq 2 0 (by omega)), (lq 4 0 (by omega)), qq9 12 0 0 (by omega)]
  ·
    rw [hN1]
    exact h2.keep (cc9 2 0 (by omega)) (cc9 3 0 (by omega)) (lq 3 0 (by omega)) (fun j _ => lq 14 j (by omega))
  ·
    rw [(cc9 4 0 (by omega)), h3]
    have e : ∀ d, L' (5, d, 0) = L (5, d, 0) := fun d => (lq 5 d (by omega))
    simp only [e]
  ·
    intro i9 hi
    rw [hN1] at hi
    by_cases e : i9 = i
    · subst e
      refine ⟨hv, ?_⟩
      rw [(cc9 15 i9 (by omega)), (h4 i9 hi).2]
      simp only [kF, qq9 3 i9 0 (by omega), qq9 3 i9 1 (by omega), qq9 3 i9 2 (by omega), qq9 3 i9 3 (by omega)]
    · rw [(cc9 14 i9 (by omega)), (cc9 15 i9 (by omega)), (h4 i9 hi).1, (h4 i9 hi).2, lq 15 i9 (by omega), qq9 1 i9 0 (by omega), qq9 2 i9 0 (by omega)]
      simp only [kF, qq9 3 i9 0 (by omega), qq9 3 i9 1 (by omega), qq9 3 i9 2 (by omega), qq9 3 i9 3 (by omega), and_self]

theorem isX.s1 {E : kE} {C C' : kC} {L L' : kL} {S S' : kI4} {N N' : kN3} (hv : C' (1, 0, 0) = some (.inr (6, [.ref (L' (2, 0, 0)), .ref (L' (4, 0, 0)), .int (S' 12 0 0 0)]))) (h : isX E C L S N) (hC : ∀ f d' k, f ≠ 1 → C' (f, d', k) = C (f, d', k)) (hL : ∀ f d' k, f = f → L' (f, d', k) = L (f, d', k)) (hS : ∀ f d' k j, f ≠ 12 → S' f d' k j = S f d' k j) (hN : ∀ f d' k, f = f → N' f d' k = N f d' k) : isX E C' L' S' N' := by
  obtain ⟨hc9, hd9⟩ := h
  refine ⟨?_, fun d hd => (hd9 d hd).keep (fun f k _ _ _ _ => hC f d k (by omega)) (fun f k _ _ _ _ => hL f d k (by omega)) (fun f k j _ _ => hS f d k j (by omega)) (fun f k _ _ => hN f d k (by omega))⟩
  obtain ⟨⟨h11, h10⟩, h2, h3, h4⟩ := hc9
  have hN1 := hN 1 0 0 rfl
  have cc9 : ∀ f x9, (f ≠ 1) → C' (f, x9, 0) = C (f, x9, 0) := fun f x9 z => hC f x9 0 z
  have lq : ∀ f x9, (f = f) → L' (f, x9, 0) = L (f, x9, 0) := fun f x9 z => hL f x9 0 z
  have qq9 : ∀ f x9 j, (f ≠ 12) → S' f x9 0 j = S f x9 0 j := fun f x9 j z => hS f x9 0 j z
  refine ⟨?_, ?_, ?_, ?_⟩
  ·
    exact ⟨hv, by rw [(cc9 60 0 (by omega))]; exact h10⟩
  ·
    rw [hN1]
    exact h2.keep (cc9 2 0 (by omega)) (cc9 3 0 (by omega)) (lq 3 0 (by omega)) (fun j _ => (lq 14 j (by omega)))
  ·
    rw [(cc9 4 0 (by omega)), h3]
    have e : ∀ d, L' (5, d, 0) = L (5, d, 0) := fun d => (lq 5 d (by omega))
    simp only [e]
  ·
    intro i9 hi
    rw [hN1] at hi
    rw [(cc9 14 i9 (by omega)), (cc9 15 i9 (by omega)), (h4 i9 hi).1, (h4 i9 hi).2, (lq 15 i9 (by omega)), qq9 1 i9 0 (by omega), qq9 2 i9 0 (by omega)]
    simp only [kF, qq9 3 i9 0 (by omega), qq9 3 i9 1 (by omega), qq9 3 i9 2 (by omega), qq9 3 i9 3 (by omega), and_self]

theorem isX.addJ {E : kE} {C C' : kC} {L L' : kL} {S S' : kI4} {N N' : kN3} (hl : kLs E C' L' 2 3 0 (N 1 0 0 + 1) (fun j => L' (14, j, 0))) (hN1 : N' 1 0 0 = N 1 0 0 + 1) (hj : C' (14, N 1 0 0, 0) = some (.inr (4, [.int (S' 1 (N 1 0 0) 0 0), .int (S' 2 (N 1 0 0) 0 0), .ref (L' (15, N 1 0 0, 0))]))) (hv : C' (15, N 1 0 0, 0) = some (kF S' 3 (N 1 0 0) 0)) (h : isX E C L S N) (hC : ∀ f d' k, ¬ (f = 2 ∨ f = 3 ∨ ((f = 14 ∨ f = 15) ∧ d' = N 1 0 0)) → C' (f, d', k) = C (f, d', k)) (hL : ∀ f d' k, ¬ (f = 3 ∨ ((f = 14 ∨ f = 15) ∧ d' = N 1 0 0)) → L' (f, d', k) = L (f, d', k)) (hS : ∀ f d' k j, ¬ ((f = 1 ∨ f = 2 ∨ f = 3) ∧ d' = N 1 0 0) → S' f d' k j = S f d' k j) (hN : ∀ f d' k, f ≠ 1 → N' f d' k = N f d' k) : isX E C' L' S' N' := by
  obtain ⟨hc9, hd9⟩ := h
  refine ⟨?_, fun d hd => (hd9 d hd).keep (fun f k _ _ _ _ => hC f d k (by omega)) (fun f k _ _ _ _ => hL f d k (by omega)) (fun f k j _ _ => hS f d k j (by omega)) (fun f k _ _ => hN f d k (by omega))⟩
  obtain ⟨⟨h11, h10⟩, h2, h3, h4⟩ := hc9
  
  have cc9 : ∀ f x9, (¬ (f = 2 ∨ f = 3 ∨ ((f = 14 ∨ f = 15) ∧ x9 = N 1 0 0))) → C' (f, x9, 0) = C (f, x9, 0) := fun f x9 z => hC f x9 0 z
  have lq : ∀ f x9, (¬ (f = 3 ∨ ((f = 14 ∨ f = 15) ∧ x9 = N 1 0 0))) → L' (f, x9, 0) = L (f, x9, 0) := fun f x9 z => hL f x9 0 z
  have qq9 : ∀ f x9 j, (¬ ((f = 1 ∨ f = 2 ∨ f = 3) ∧ x9 = N 1 0 0)) → S' f x9 0 j = S f x9 0 j := fun f x9 j z => hS f x9 0 j z
  refine ⟨?_, ?_, ?_, ?_⟩
  ·
    refine ⟨?_, by rw [(cc9 60 0 (by omega))]; exact h10⟩
    rw [(cc9 1 0 (by omega)), h11, (lq 2 0 (by omega)), (lq 4 0 (by omega)), qq9 12 0 0 (by omega)]
  ·
    rw [hN1]
    exact hl
  ·
    rw [(cc9 4 0 (by omega)), h3]
    have e : ∀ d, L' (5, d, 0) = L (5, d, 0) := fun d => (lq 5 d (by omega))
    simp only [e]
  ·
    intro i9 hi
    rw [hN1] at hi
    by_cases e : i9 = N 1 0 0
    · subst e
      exact ⟨hj, hv⟩
    · have hi2 : i9 < N 1 0 0 := by omega
      rw [(cc9 14 i9 (by omega)), (cc9 15 i9 (by omega)), (h4 i9 hi2).1, (h4 i9 hi2).2, (lq 15 i9 (by omega)), qq9 1 i9 0 (by omega), qq9 2 i9 0 (by omega)]
      simp only [kF, qq9 3 i9 0 (by omega), qq9 3 i9 1 (by omega), qq9 3 i9 2 (by omega), qq9 3 i9 3 (by omega), and_self]

theorem isX.d5 {E : kE} {C C' : kC} {L L' : kL} {S S' : kI4} {N N' : kN3} {d : Nat} (hv : C' (5, d, 0) = some (kDev L' S' N' d)) (h : isX E C L S N) (hC : ∀ f d' k, ¬ (f = 5 ∧ d' = d) → C' (f, d', k) = C (f, d', k)) (hL : ∀ f d' k, f = f → L' (f, d', k) = L (f, d', k)) (hS : ∀ f d' k j, ¬ ((f = 4 ∨ f = 6 ∨ f = 7) ∧ d' = d) → S' f d' k j = S f d' k j) (hN : ∀ f d' k, ¬ (f = 4 ∧ d' = d) → N' f d' k = N f d' k) : isX E C' L' S' N' := by
  obtain ⟨hc9, hd9⟩ := h
  refine ⟨hc9.keep (fun f i z => hC f i 0 (by omega)) (fun f i z => hL f i 0 (by omega)) (fun f i j z => hS f i 0 j (by omega)) (hN 1 0 0 (by omega)), fun d9 hd0 => ?_⟩
  by_cases e9 : d9 = d
  · subst e9
    obtain ⟨h1, h2, h3, h4, h5, h6, h7, h8, h9⟩ := hd9 d9 hd0
    
    have c : ∀ f k, (¬ (f = 5 ∧ d9 = d9)) → C' (f, d9, k) = C (f, d9, k) := fun f k z => hC f d9 k z
    have lq : ∀ f k, (f = f) → L' (f, d9, k) = L (f, d9, k) := fun f k z => hL f d9 k z
    have q : ∀ f k j, (¬ ((f = 4 ∨ f = 6 ∨ f = 7) ∧ d9 = d9)) → S' f d9 k j = S f d9 k j := fun f k j z => hS f d9 k j z
    have r : ∀ f k, (¬ (f = 4 ∧ d9 = d9)) → N' f d9 k = N f d9 k := fun f k z => hN f d9 k z
    refine ⟨?_, ?_, ?_, ?_, ?_, ?_, ?_, ?_, ?_⟩
    ·
      exact hv
    ·
      rw [(c 6 0 (by omega)), h2]
      have e : ∀ n, N' 11 d9 n = N 11 d9 n := fun n => r 11 n (by omega)
      have e2 : ∀ n, L' (16, d9, n) = L (16, d9, n) := fun n => (lq 16 n (by omega))
      simp only [kCps, e, e2]
    ·
      rw [(c 7 0 (by omega)), h3]
      have e : ∀ n, S' 5 d9 n 0 = S 5 d9 n 0 := fun n => q 5 n 0 (by omega)
      simp only [e]
    ·
      rw [r 2 0 (by omega)]
      exact h4.keep (c 8 0 (by omega)) (c 9 0 (by omega)) (lq 9 0 (by omega)) (fun j _ => (lq 17 j (by omega)))
    ·
      rw [r 3 0 (by omega)]
      exact h5.keep (c 10 0 (by omega)) (c 11 0 (by omega)) (lq 11 0 (by omega)) (fun j _ => (lq 19 j (by omega)))
    ·
      rw [r 5 0 (by omega)]
      exact h6.keep (c 12 0 (by omega)) (c 13 0 (by omega)) (lq 13 0 (by omega)) (fun j _ => by rw [r 6 j (by omega)]; exact (lq 19 _ (by omega)))
    ·
      intro n9 hn
      rw [r 11 n9 (by omega)] at hn
      rw [(c 16 n9 (by omega)), h7 n9 hn]
      simp only [kF, q 8 n9 0 (by omega), q 8 n9 1 (by omega), q 8 n9 2 (by omega), q 8 n9 3 (by omega)]
    ·
      intro k9 hk
      rw [r 2 0 (by omega)] at hk
      rw [(c 17 k9 (by omega)), (c 18 k9 (by omega)), (h8 k9 hk).1, (h8 k9 hk).2, (lq 18 k9 (by omega)), q 9 k9 0 (by omega)]
      simp only [kF, q 10 k9 0 (by omega), q 10 k9 1 (by omega), q 10 k9 2 (by omega), q 10 k9 3 (by omega), and_self]
    ·
      intro k9 hk
      rw [r 3 0 (by omega)] at hk
      rw [(c 19 k9 (by omega)), h9 k9 hk]
      simp only [kAct, q 11 k9 0 (by omega), q 11 k9 1 (by omega), q 11 k9 2 (by omega), q 11 k9 3 (by omega), q 11 k9 4 (by omega)]
  · exact (hd9 d9 hd0).keep (fun f k _ _ _ _ => hC f d9 k (by omega)) (fun f k _ _ _ _ => hL f d9 k (by omega)) (fun f k j _ _ => hS f d9 k j (by omega)) (fun f k _ _ => hN f d9 k (by omega))

theorem isX.a7 {E : kE} {C C' : kC} {L L' : kL} {S S' : kI4} {N N' : kN3} {d : Nat} (hv : C' (7, d, 0) = some (.inl (E.2.1 1, 40, .inl (fun n => S' 5 d n 0)))) (h : isX E C L S N) (hC : ∀ f d' k, ¬ (f = 7 ∧ d' = d) → C' (f, d', k) = C (f, d', k)) (hL : ∀ f d' k, f = f → L' (f, d', k) = L (f, d', k)) (hS : ∀ f d' k j, ¬ (f = 5 ∧ d' = d) → S' f d' k j = S f d' k j) (hN : ∀ f d' k, f = f → N' f d' k = N f d' k) : isX E C' L' S' N' := by
  obtain ⟨hc9, hd9⟩ := h
  refine ⟨hc9.keep (fun f i z => hC f i 0 (by omega)) (fun f i z => hL f i 0 (by omega)) (fun f i j z => hS f i 0 j (by omega)) (hN 1 0 0 (by omega)), fun d9 hd0 => ?_⟩
  by_cases e9 : d9 = d
  · subst e9
    obtain ⟨h1, h2, h3, h4, h5, h6, h7, h8, h9⟩ := hd9 d9 hd0
    
    have c : ∀ f k, (¬ (f = 7 ∧ d9 = d9)) → C' (f, d9, k) = C (f, d9, k) := fun f k z => hC f d9 k z
    have lq : ∀ f k, (f = f) → L' (f, d9, k) = L (f, d9, k) := fun f k z => hL f d9 k z
    have q : ∀ f k j, (¬ (f = 5 ∧ d9 = d9)) → S' f d9 k j = S f d9 k j := fun f k j z => hS f d9 k j z
    have r : ∀ f k, (f = f) → N' f d9 k = N f d9 k := fun f k z => hN f d9 k z
    refine ⟨?_, ?_, ?_, ?_, ?_, ?_, ?_, ?_, ?_⟩
    ·
      rw [(c 5 0 (by omega)), h1]
      simp only [kDev, q 4 0 0 (by omega), q 6 0 0 (by omega), q 7 0 0 (by omega), r 4 0 (by omega), (lq 6 0 (by omega)), (lq 7 0 (by omega)), (lq 8 0 (by omega)), (lq 10 0 (by omega)), (lq 12 0 (by omega))]
    ·
      rw [(c 6 0 (by omega)), h2]
      have e : ∀ n, N' 11 d9 n = N 11 d9 n := fun n => r 11 n (by omega)
      have e2 : ∀ n, L' (16, d9, n) = L (16, d9, n) := fun n => (lq 16 n (by omega))
      simp only [kCps, e, e2]
    ·
      exact hv
    ·
      rw [r 2 0 (by omega)]
      exact h4.keep (c 8 0 (by omega)) (c 9 0 (by omega)) (lq 9 0 (by omega)) (fun j _ => (lq 17 j (by omega)))
    ·
      rw [r 3 0 (by omega)]
      exact h5.keep (c 10 0 (by omega)) (c 11 0 (by omega)) (lq 11 0 (by omega)) (fun j _ => (lq 19 j (by omega)))
    ·
      rw [r 5 0 (by omega)]
      exact h6.keep (c 12 0 (by omega)) (c 13 0 (by omega)) (lq 13 0 (by omega)) (fun j _ => by rw [r 6 j (by omega)]; exact (lq 19 _ (by omega)))
    ·
      intro n9 hn
      rw [r 11 n9 (by omega)] at hn
      rw [(c 16 n9 (by omega)), h7 n9 hn]
      simp only [kF, q 8 n9 0 (by omega), q 8 n9 1 (by omega), q 8 n9 2 (by omega), q 8 n9 3 (by omega)]
    ·
      intro k9 hk
      rw [r 2 0 (by omega)] at hk
      rw [(c 17 k9 (by omega)), (c 18 k9 (by omega)), (h8 k9 hk).1, (h8 k9 hk).2, (lq 18 k9 (by omega)), q 9 k9 0 (by omega)]
      simp only [kF, q 10 k9 0 (by omega), q 10 k9 1 (by omega), q 10 k9 2 (by omega), q 10 k9 3 (by omega), and_self]
    ·
      intro k9 hk
      rw [r 3 0 (by omega)] at hk
      rw [(c 19 k9 (by omega)), h9 k9 hk]
      simp only [kAct, q 11 k9 0 (by omega), q 11 k9 1 (by omega), q 11 k9 2 (by omega), q 11 k9 3 (by omega), q 11 k9 4 (by omega)]
  · exact (hd9 d9 hd0).keep (fun f k _ _ _ _ => hC f d9 k (by omega)) (fun f k _ _ _ _ => hL f d9 k (by omega)) (fun f k j _ _ => hS f d9 k j (by omega)) (fun f k _ _ => hN f d9 k (by omega))

theorem isX.f16 {E : kE} {C C' : kC} {L L' : kL} {S S' : kI4} {N N' : kN3} {d n : Nat} (hv : C' (16, d, n) = some (kF S' 8 d n)) (h : isX E C L S N) (hC : ∀ f d' k, ¬ (f = 16 ∧ d' = d ∧ k = n) → C' (f, d', k) = C (f, d', k)) (hL : ∀ f d' k, f = f → L' (f, d', k) = L (f, d', k)) (hS : ∀ f d' k j, ¬ (f = 8 ∧ d' = d ∧ k = n) → S' f d' k j = S f d' k j) (hN : ∀ f d' k, f = f → N' f d' k = N f d' k) : isX E C' L' S' N' := by
  obtain ⟨hc9, hd9⟩ := h
  refine ⟨hc9.keep (fun f i z => hC f i 0 (by omega)) (fun f i z => hL f i 0 (by omega)) (fun f i j z => hS f i 0 j (by omega)) (hN 1 0 0 (by omega)), fun d9 hd0 => ?_⟩
  by_cases e9 : d9 = d
  · subst e9
    obtain ⟨h1, h2, h3, h4, h5, h6, h7, h8, h9⟩ := hd9 d9 hd0
    
    have c : ∀ f k, (¬ (f = 16 ∧ d9 = d9 ∧ k = n)) → C' (f, d9, k) = C (f, d9, k) := fun f k z => hC f d9 k z
    have lq : ∀ f k, (f = f) → L' (f, d9, k) = L (f, d9, k) := fun f k z => hL f d9 k z
    have q : ∀ f k j, (¬ (f = 8 ∧ d9 = d9 ∧ k = n)) → S' f d9 k j = S f d9 k j := fun f k j z => hS f d9 k j z
    have r : ∀ f k, (f = f) → N' f d9 k = N f d9 k := fun f k z => hN f d9 k z
    refine ⟨?_, ?_, ?_, ?_, ?_, ?_, ?_, ?_, ?_⟩
    ·
      rw [(c 5 0 (by omega)), h1]
      simp only [kDev, q 4 0 0 (by omega), q 6 0 0 (by omega), q 7 0 0 (by omega), r 4 0 (by omega), (lq 6 0 (by omega)), (lq 7 0 (by omega)), (lq 8 0 (by omega)), (lq 10 0 (by omega)), (lq 12 0 (by omega))]
    ·
      rw [(c 6 0 (by omega)), h2]
      have e : ∀ n, N' 11 d9 n = N 11 d9 n := fun n => r 11 n (by omega)
      have e2 : ∀ n, L' (16, d9, n) = L (16, d9, n) := fun n => lq 16 n (by omega)
      simp only [kCps, e, e2]
    ·
      rw [(c 7 0 (by omega)), h3]
      have e : ∀ n, S' 5 d9 n 0 = S 5 d9 n 0 := fun n => q 5 n 0 (by omega)
      simp only [e]
    ·
      rw [r 2 0 (by omega)]
      exact h4.keep (c 8 0 (by omega)) (c 9 0 (by omega)) (lq 9 0 (by omega)) (fun j _ => (lq 17 j (by omega)))
    ·
      rw [r 3 0 (by omega)]
      exact h5.keep (c 10 0 (by omega)) (c 11 0 (by omega)) (lq 11 0 (by omega)) (fun j _ => (lq 19 j (by omega)))
    ·
      rw [r 5 0 (by omega)]
      exact h6.keep (c 12 0 (by omega)) (c 13 0 (by omega)) (lq 13 0 (by omega)) (fun j _ => by rw [r 6 j (by omega)]; exact (lq 19 _ (by omega)))
    ·
      intro n9 hn
      by_cases e : n9 = n
      · subst e
        exact hv
      · rw [r 11 n9 (by omega)] at hn
        rw [(c 16 n9 (by omega)), h7 n9 hn]
        simp only [kF, q 8 n9 0 (by omega), q 8 n9 1 (by omega), q 8 n9 2 (by omega), q 8 n9 3 (by omega)]
    ·
      intro k9 hk
      rw [r 2 0 (by omega)] at hk
      rw [(c 17 k9 (by omega)), (c 18 k9 (by omega)), (h8 k9 hk).1, (h8 k9 hk).2, (lq 18 k9 (by omega)), q 9 k9 0 (by omega)]
      simp only [kF, q 10 k9 0 (by omega), q 10 k9 1 (by omega), q 10 k9 2 (by omega), q 10 k9 3 (by omega), and_self]
    ·
      intro k9 hk
      rw [r 3 0 (by omega)] at hk
      rw [(c 19 k9 (by omega)), h9 k9 hk]
      simp only [kAct, q 11 k9 0 (by omega), q 11 k9 1 (by omega), q 11 k9 2 (by omega), q 11 k9 3 (by omega), q 11 k9 4 (by omega)]
  · exact (hd9 d9 hd0).keep (fun f k _ _ _ _ => hC f d9 k (by omega)) (fun f k _ _ _ _ => hL f d9 k (by omega)) (fun f k j _ _ => hS f d9 k j (by omega)) (fun f k _ _ => hN f d9 k (by omega))

theorem isX.newc {E : kE} {C C' : kC} {L L' : kL} {S S' : kI4} {N N' : kN3} {d n : Nat} (hn0 : N' 11 d n ≠ 0) (hv6 : C' (6, d, 0) = some (kCps E L' N' d)) (hv : C' (16, d, n) = some (kF S' 8 d n)) (h : isX E C L S N) (hC : ∀ f d' k, ¬ ((f = 6 ∧ d' = d) ∨ (f = 16 ∧ d' = d ∧ k = n)) → C' (f, d', k) = C (f, d', k)) (hL : ∀ f d' k, ¬ (f = 16 ∧ d' = d ∧ k = n) → L' (f, d', k) = L (f, d', k)) (hS : ∀ f d' k j, ¬ (f = 8 ∧ d' = d ∧ k = n) → S' f d' k j = S f d' k j) (hN : ∀ f d' k, ¬ (f = 11 ∧ d' = d ∧ k = n) → N' f d' k = N f d' k) : isX E C' L' S' N' := by
  obtain ⟨hc9, hd9⟩ := h
  refine ⟨hc9.keep (fun f i z => hC f i 0 (by omega)) (fun f i z => hL f i 0 (by omega)) (fun f i j z => hS f i 0 j (by omega)) (hN 1 0 0 (by omega)), fun d9 hd0 => ?_⟩
  by_cases e9 : d9 = d
  · subst e9
    obtain ⟨h1, h2, h3, h4, h5, h6, h7, h8, h9⟩ := hd9 d9 hd0
    
    have c : ∀ f k, (¬ ((f = 6 ∧ d9 = d9) ∨ (f = 16 ∧ d9 = d9 ∧ k = n))) → C' (f, d9, k) = C (f, d9, k) := fun f k z => hC f d9 k z
    have lq : ∀ f k, (¬ (f = 16 ∧ d9 = d9 ∧ k = n)) → L' (f, d9, k) = L (f, d9, k) := fun f k z => hL f d9 k z
    have q : ∀ f k j, (¬ (f = 8 ∧ d9 = d9 ∧ k = n)) → S' f d9 k j = S f d9 k j := fun f k j z => hS f d9 k j z
    have r : ∀ f k, (¬ (f = 11 ∧ d9 = d9 ∧ k = n)) → N' f d9 k = N f d9 k := fun f k z => hN f d9 k z
    refine ⟨?_, ?_, ?_, ?_, ?_, ?_, ?_, ?_, ?_⟩
    ·
      rw [(c 5 0 (by omega)), h1]
      simp only [kDev, q 4 0 0 (by omega), q 6 0 0 (by omega), q 7 0 0 (by omega), r 4 0 (by omega), (lq 6 0 (by omega)), (lq 7 0 (by omega)), (lq 8 0 (by omega)), (lq 10 0 (by omega)), (lq 12 0 (by omega))]
    ·
      exact hv6
    ·
      rw [(c 7 0 (by omega)), h3]
      have e : ∀ n, S' 5 d9 n 0 = S 5 d9 n 0 := fun n => q 5 n 0 (by omega)
      simp only [e]
    ·
      rw [r 2 0 (by omega)]
      exact h4.keep (c 8 0 (by omega)) (c 9 0 (by omega)) (lq 9 0 (by omega)) (fun j _ => (lq 17 j (by omega)))
    ·
      rw [r 3 0 (by omega)]
      exact h5.keep (c 10 0 (by omega)) (c 11 0 (by omega)) (lq 11 0 (by omega)) (fun j _ => (lq 19 j (by omega)))
    ·
      rw [r 5 0 (by omega)]
      exact h6.keep (c 12 0 (by omega)) (c 13 0 (by omega)) (lq 13 0 (by omega)) (fun j _ => by rw [r 6 j (by omega)]; exact (lq 19 _ (by omega)))
    ·
      intro n9 hn
      by_cases e : n9 = n
      · subst e
        exact hv
      · rw [r 11 n9 (by omega)] at hn
        rw [(c 16 n9 (by omega)), h7 n9 hn]
        simp only [kF, q 8 n9 0 (by omega), q 8 n9 1 (by omega), q 8 n9 2 (by omega), q 8 n9 3 (by omega)]
    ·
      intro k9 hk
      rw [r 2 0 (by omega)] at hk
      rw [(c 17 k9 (by omega)), (c 18 k9 (by omega)), (h8 k9 hk).1, (h8 k9 hk).2, (lq 18 k9 (by omega)), q 9 k9 0 (by omega)]
      simp only [kF, q 10 k9 0 (by omega), q 10 k9 1 (by omega), q 10 k9 2 (by omega), q 10 k9 3 (by omega), and_self]
    ·
      intro k9 hk
      rw [r 3 0 (by omega)] at hk
      rw [(c 19 k9 (by omega)), h9 k9 hk]
      simp only [kAct, q 11 k9 0 (by omega), q 11 k9 1 (by omega), q 11 k9 2 (by omega), q 11 k9 3 (by omega), q 11 k9 4 (by omega)]
  · exact (hd9 d9 hd0).keep (fun f k _ _ _ _ => hC f d9 k (by omega)) (fun f k _ _ _ _ => hL f d9 k (by omega)) (fun f k j _ _ => hS f d9 k j (by omega)) (fun f k _ _ => hN f d9 k (by omega))

theorem isX.m17 {E : kE} {C C' : kC} {L L' : kL} {S S' : kI4} {N N' : kN3} {d n : Nat} (hv : C' (17, d, n) = some (.inr (5, [.int (S' 9 d n 0), .ref (L' (18, d, n))]))) (h : isX E C L S N) (hC : ∀ f d' k, ¬ (f = 17 ∧ d' = d ∧ k = n) → C' (f, d', k) = C (f, d', k)) (hL : ∀ f d' k, f = f → L' (f, d', k) = L (f, d', k)) (hS : ∀ f d' k j, ¬ (f = 9 ∧ d' = d ∧ k = n) → S' f d' k j = S f d' k j) (hN : ∀ f d' k, f = f → N' f d' k = N f d' k) : isX E C' L' S' N' := by
  obtain ⟨hc9, hd9⟩ := h
  refine ⟨hc9.keep (fun f i z => hC f i 0 (by omega)) (fun f i z => hL f i 0 (by omega)) (fun f i j z => hS f i 0 j (by omega)) (hN 1 0 0 (by omega)), fun d9 hd0 => ?_⟩
  by_cases e9 : d9 = d
  · subst e9
    obtain ⟨h1, h2, h3, h4, h5, h6, h7, h8, h9⟩ := hd9 d9 hd0
    
    have c : ∀ f k, (¬ (f = 17 ∧ d9 = d9 ∧ k = n)) → C' (f, d9, k) = C (f, d9, k) := fun f k z => hC f d9 k z
    have lq : ∀ f k, (f = f) → L' (f, d9, k) = L (f, d9, k) := fun f k z => hL f d9 k z
    have q : ∀ f k j, (¬ (f = 9 ∧ d9 = d9 ∧ k = n)) → S' f d9 k j = S f d9 k j := fun f k j z => hS f d9 k j z
    have r : ∀ f k, (f = f) → N' f d9 k = N f d9 k := fun f k z => hN f d9 k z
    refine ⟨?_, ?_, ?_, ?_, ?_, ?_, ?_, ?_, ?_⟩
    ·
      rw [(c 5 0 (by omega)), h1]
      simp only [kDev, q 4 0 0 (by omega), q 6 0 0 (by omega), q 7 0 0 (by omega), r 4 0 (by omega), (lq 6 0 (by omega)), (lq 7 0 (by omega)), (lq 8 0 (by omega)), (lq 10 0 (by omega)), (lq 12 0 (by omega))]
    ·
      rw [(c 6 0 (by omega)), h2]
      have e : ∀ n, N' 11 d9 n = N 11 d9 n := fun n => r 11 n (by omega)
      have e2 : ∀ n, L' (16, d9, n) = L (16, d9, n) := fun n => (lq 16 n (by omega))
      simp only [kCps, e, e2]
    ·
      rw [(c 7 0 (by omega)), h3]
      have e : ∀ n, S' 5 d9 n 0 = S 5 d9 n 0 := fun n => q 5 n 0 (by omega)
      simp only [e]
    ·
      rw [r 2 0 (by omega)]
      exact h4.keep (c 8 0 (by omega)) (c 9 0 (by omega)) (lq 9 0 (by omega)) (fun j _ => lq 17 j (by omega))
    ·
      rw [r 3 0 (by omega)]
      exact h5.keep (c 10 0 (by omega)) (c 11 0 (by omega)) (lq 11 0 (by omega)) (fun j _ => (lq 19 j (by omega)))
    ·
      rw [r 5 0 (by omega)]
      exact h6.keep (c 12 0 (by omega)) (c 13 0 (by omega)) (lq 13 0 (by omega)) (fun j _ => by rw [r 6 j (by omega)]; exact (lq 19 _ (by omega)))
    ·
      intro n9 hn
      rw [r 11 n9 (by omega)] at hn
      rw [(c 16 n9 (by omega)), h7 n9 hn]
      simp only [kF, q 8 n9 0 (by omega), q 8 n9 1 (by omega), q 8 n9 2 (by omega), q 8 n9 3 (by omega)]
    ·
      intro k9 hk
      rw [r 2 0 (by omega)] at hk
      by_cases e : k9 = n
      · subst e
        refine ⟨hv, ?_⟩
        rw [(c 18 k9 (by omega)), (h8 k9 hk).2]
        simp only [kF, q 10 k9 0 (by omega), q 10 k9 1 (by omega), q 10 k9 2 (by omega), q 10 k9 3 (by omega)]
      · rw [(c 17 k9 (by omega)), (c 18 k9 (by omega)), (h8 k9 hk).1, (h8 k9 hk).2, (lq 18 k9 (by omega)), q 9 k9 0 (by omega)]
        simp only [kF, q 10 k9 0 (by omega), q 10 k9 1 (by omega), q 10 k9 2 (by omega), q 10 k9 3 (by omega), and_self]
    ·
      intro k9 hk
      rw [r 3 0 (by omega)] at hk
      rw [(c 19 k9 (by omega)), h9 k9 hk]
      simp only [kAct, q 11 k9 0 (by omega), q 11 k9 1 (by omega), q 11 k9 2 (by omega), q 11 k9 3 (by omega), q 11 k9 4 (by omega)]
  · exact (hd9 d9 hd0).keep (fun f k _ _ _ _ => hC f d9 k (by omega)) (fun f k _ _ _ _ => hL f d9 k (by omega)) (fun f k j _ _ => hS f d9 k j (by omega)) (fun f k _ _ => hN f d9 k (by omega))

theorem isX.m18 {E : kE} {C C' : kC} {L L' : kL} {S S' : kI4} {N N' : kN3} {d n : Nat} (hv : C' (18, d, n) = some (kF S' 10 d n)) (h : isX E C L S N) (hC : ∀ f d' k, ¬ (f = 18 ∧ d' = d ∧ k = n) → C' (f, d', k) = C (f, d', k)) (hL : ∀ f d' k, f = f → L' (f, d', k) = L (f, d', k)) (hS : ∀ f d' k j, ¬ (f = 10 ∧ d' = d ∧ k = n) → S' f d' k j = S f d' k j) (hN : ∀ f d' k, f = f → N' f d' k = N f d' k) : isX E C' L' S' N' := by
  obtain ⟨hc9, hd9⟩ := h
  refine ⟨hc9.keep (fun f i z => hC f i 0 (by omega)) (fun f i z => hL f i 0 (by omega)) (fun f i j z => hS f i 0 j (by omega)) (hN 1 0 0 (by omega)), fun d9 hd0 => ?_⟩
  by_cases e9 : d9 = d
  · subst e9
    obtain ⟨h1, h2, h3, h4, h5, h6, h7, h8, h9⟩ := hd9 d9 hd0
    
    have c : ∀ f k, (¬ (f = 18 ∧ d9 = d9 ∧ k = n)) → C' (f, d9, k) = C (f, d9, k) := fun f k z => hC f d9 k z
    have lq : ∀ f k, (f = f) → L' (f, d9, k) = L (f, d9, k) := fun f k z => hL f d9 k z
    have q : ∀ f k j, (¬ (f = 10 ∧ d9 = d9 ∧ k = n)) → S' f d9 k j = S f d9 k j := fun f k j z => hS f d9 k j z
    have r : ∀ f k, (f = f) → N' f d9 k = N f d9 k := fun f k z => hN f d9 k z
    refine ⟨?_, ?_, ?_, ?_, ?_, ?_, ?_, ?_, ?_⟩
    ·
      rw [(c 5 0 (by omega)), h1]
      simp only [kDev, q 4 0 0 (by omega), q 6 0 0 (by omega), q 7 0 0 (by omega), r 4 0 (by omega), (lq 6 0 (by omega)), (lq 7 0 (by omega)), (lq 8 0 (by omega)), (lq 10 0 (by omega)), (lq 12 0 (by omega))]
    ·
      rw [(c 6 0 (by omega)), h2]
      have e : ∀ n, N' 11 d9 n = N 11 d9 n := fun n => r 11 n (by omega)
      have e2 : ∀ n, L' (16, d9, n) = L (16, d9, n) := fun n => (lq 16 n (by omega))
      simp only [kCps, e, e2]
    ·
      rw [(c 7 0 (by omega)), h3]
      have e : ∀ n, S' 5 d9 n 0 = S 5 d9 n 0 := fun n => q 5 n 0 (by omega)
      simp only [e]
    ·
      rw [r 2 0 (by omega)]
      exact h4.keep (c 8 0 (by omega)) (c 9 0 (by omega)) (lq 9 0 (by omega)) (fun j _ => (lq 17 j (by omega)))
    ·
      rw [r 3 0 (by omega)]
      exact h5.keep (c 10 0 (by omega)) (c 11 0 (by omega)) (lq 11 0 (by omega)) (fun j _ => (lq 19 j (by omega)))
    ·
      rw [r 5 0 (by omega)]
      exact h6.keep (c 12 0 (by omega)) (c 13 0 (by omega)) (lq 13 0 (by omega)) (fun j _ => by rw [r 6 j (by omega)]; exact (lq 19 _ (by omega)))
    ·
      intro n9 hn
      rw [r 11 n9 (by omega)] at hn
      rw [(c 16 n9 (by omega)), h7 n9 hn]
      simp only [kF, q 8 n9 0 (by omega), q 8 n9 1 (by omega), q 8 n9 2 (by omega), q 8 n9 3 (by omega)]
    ·
      intro k9 hk
      rw [r 2 0 (by omega)] at hk
      by_cases e : k9 = n
      · subst e
        refine ⟨?_, hv⟩
        rw [(c 17 k9 (by omega)), (h8 k9 hk).1, lq 18 k9 (by omega), q 9 k9 0 (by omega)]
      · rw [(c 17 k9 (by omega)), (c 18 k9 (by omega)), (h8 k9 hk).1, (h8 k9 hk).2, (lq 18 k9 (by omega)), q 9 k9 0 (by omega)]
        simp only [kF, q 10 k9 0 (by omega), q 10 k9 1 (by omega), q 10 k9 2 (by omega), q 10 k9 3 (by omega), and_self]
    ·
      intro k9 hk
      rw [r 3 0 (by omega)] at hk
      rw [(c 19 k9 (by omega)), h9 k9 hk]
      simp only [kAct, q 11 k9 0 (by omega), q 11 k9 1 (by omega), q 11 k9 2 (by omega), q 11 k9 3 (by omega), q 11 k9 4 (by omega)]
  · exact (hd9 d9 hd0).keep (fun f k _ _ _ _ => hC f d9 k (by omega)) (fun f k _ _ _ _ => hL f d9 k (by omega)) (fun f k j _ _ => hS f d9 k j (by omega)) (fun f k _ _ => hN f d9 k (by omega))

theorem isX.addM {E : kE} {C C' : kC} {L L' : kL} {S S' : kI4} {N N' : kN3} {d : Nat} (hl : kLs E C' L' 8 9 d (N 2 d 0 + 1) (fun k => L' (17, d, k))) (hN2 : N' 2 d 0 = N 2 d 0 + 1) (hm : C' (17, d, N 2 d 0) = some (.inr (5, [.int (S' 9 d (N 2 d 0) 0), .ref (L' (18, d, N 2 d 0))]))) (hv : C' (18, d, N 2 d 0) = some (kF S' 10 d (N 2 d 0))) (h : isX E C L S N) (hC : ∀ f d' k, ¬ (((f = 8 ∨ f = 9) ∧ d' = d) ∨ ((f = 17 ∨ f = 18) ∧ d' = d ∧ k = N 2 d 0)) → C' (f, d', k) = C (f, d', k)) (hL : ∀ f d' k, ¬ ((f = 9 ∧ d' = d) ∨ ((f = 17 ∨ f = 18) ∧ d' = d ∧ k = N 2 d 0)) → L' (f, d', k) = L (f, d', k)) (hS : ∀ f d' k j, ¬ ((f = 9 ∨ f = 10) ∧ d' = d ∧ k = N 2 d 0) → S' f d' k j = S f d' k j) (hN : ∀ f d' k, ¬ (f = 2 ∧ d' = d) → N' f d' k = N f d' k) : isX E C' L' S' N' := by
  obtain ⟨hc9, hd9⟩ := h
  refine ⟨hc9.keep (fun f i z => hC f i 0 (by omega)) (fun f i z => hL f i 0 (by omega)) (fun f i j z => hS f i 0 j (by omega)) (hN 1 0 0 (by omega)), fun d9 hd0 => ?_⟩
  by_cases e9 : d9 = d
  · subst e9
    obtain ⟨h1, h2, h3, h4, h5, h6, h7, h8, h9⟩ := hd9 d9 hd0
    
    have c : ∀ f k, (¬ (((f = 8 ∨ f = 9) ∧ d9 = d9) ∨ ((f = 17 ∨ f = 18) ∧ d9 = d9 ∧ k = N 2 d9 0))) → C' (f, d9, k) = C (f, d9, k) := fun f k z => hC f d9 k z
    have lq : ∀ f k, (¬ ((f = 9 ∧ d9 = d9) ∨ ((f = 17 ∨ f = 18) ∧ d9 = d9 ∧ k = N 2 d9 0))) → L' (f, d9, k) = L (f, d9, k) := fun f k z => hL f d9 k z
    have q : ∀ f k j, (¬ ((f = 9 ∨ f = 10) ∧ d9 = d9 ∧ k = N 2 d9 0)) → S' f d9 k j = S f d9 k j := fun f k j z => hS f d9 k j z
    have r : ∀ f k, (¬ (f = 2 ∧ d9 = d9)) → N' f d9 k = N f d9 k := fun f k z => hN f d9 k z
    refine ⟨?_, ?_, ?_, ?_, ?_, ?_, ?_, ?_, ?_⟩
    ·
      rw [(c 5 0 (by omega)), h1]
      simp only [kDev, q 4 0 0 (by omega), q 6 0 0 (by omega), q 7 0 0 (by omega), r 4 0 (by omega), (lq 6 0 (by omega)), (lq 7 0 (by omega)), (lq 8 0 (by omega)), (lq 10 0 (by omega)), (lq 12 0 (by omega))]
    ·
      rw [(c 6 0 (by omega)), h2]
      have e : ∀ n, N' 11 d9 n = N 11 d9 n := fun n => r 11 n (by omega)
      have e2 : ∀ n, L' (16, d9, n) = L (16, d9, n) := fun n => (lq 16 n (by omega))
      simp only [kCps, e, e2]
    ·
      rw [(c 7 0 (by omega)), h3]
      have e : ∀ n, S' 5 d9 n 0 = S 5 d9 n 0 := fun n => q 5 n 0 (by omega)
      simp only [e]
    ·
      rw [hN2]
      exact hl
    ·
      rw [r 3 0 (by omega)]
      exact h5.keep (c 10 0 (by omega)) (c 11 0 (by omega)) (lq 11 0 (by omega)) (fun j _ => (lq 19 j (by omega)))
    ·
      rw [r 5 0 (by omega)]
      exact h6.keep (c 12 0 (by omega)) (c 13 0 (by omega)) (lq 13 0 (by omega)) (fun j _ => by rw [r 6 j (by omega)]; exact (lq 19 _ (by omega)))
    ·
      intro n9 hn
      rw [r 11 n9 (by omega)] at hn
      rw [(c 16 n9 (by omega)), h7 n9 hn]
      simp only [kF, q 8 n9 0 (by omega), q 8 n9 1 (by omega), q 8 n9 2 (by omega), q 8 n9 3 (by omega)]
    ·
      intro k9 hk
      rw [hN2] at hk
      by_cases e : k9 = N 2 d9 0
      · subst e
        exact ⟨hm, hv⟩
      · have hk2 : k9 < N 2 d9 0 := by omega
        rw [(c 17 k9 (by omega)), (c 18 k9 (by omega)), (h8 k9 hk2).1, (h8 k9 hk2).2, (lq 18 k9 (by omega)), q 9 k9 0 (by omega)]
        simp only [kF, q 10 k9 0 (by omega), q 10 k9 1 (by omega), q 10 k9 2 (by omega), q 10 k9 3 (by omega), and_self]
    ·
      intro k9 hk
      rw [r 3 0 (by omega)] at hk
      rw [(c 19 k9 (by omega)), h9 k9 hk]
      simp only [kAct, q 11 k9 0 (by omega), q 11 k9 1 (by omega), q 11 k9 2 (by omega), q 11 k9 3 (by omega), q 11 k9 4 (by omega)]
  · exact (hd9 d9 hd0).keep (fun f k _ _ _ _ => hC f d9 k (by omega)) (fun f k _ _ _ _ => hL f d9 k (by omega)) (fun f k j _ _ => hS f d9 k j (by omega)) (fun f k _ _ => hN f d9 k (by omega))

theorem isX.addA {E : kE} {C C' : kC} {L L' : kL} {S S' : kI4} {N N' : kN3} {d : Nat} (hl : kLs E C' L' 10 11 d (N 3 d 0 + 1) (fun k => L' (19, d, k))) (hN2 : N' 3 d 0 = N 3 d 0 + 1) (hv : C' (19, d, N 3 d 0) = some (kAct S' d (N 3 d 0))) (hR9 : ∀ i, i < N 5 d 0 → N 6 d i < N 3 d 0) (h : isX E C L S N) (hC : ∀ f d' k, ¬ (((f = 10 ∨ f = 11) ∧ d' = d) ∨ (f = 19 ∧ d' = d ∧ k = N 3 d 0)) → C' (f, d', k) = C (f, d', k)) (hL : ∀ f d' k, ¬ ((f = 11 ∧ d' = d) ∨ (f = 19 ∧ d' = d ∧ k = N 3 d 0)) → L' (f, d', k) = L (f, d', k)) (hS : ∀ f d' k j, ¬ (f = 11 ∧ d' = d ∧ k = N 3 d 0) → S' f d' k j = S f d' k j) (hN : ∀ f d' k, ¬ (f = 3 ∧ d' = d) → N' f d' k = N f d' k) : isX E C' L' S' N' := by
  obtain ⟨hc9, hd9⟩ := h
  refine ⟨hc9.keep (fun f i z => hC f i 0 (by omega)) (fun f i z => hL f i 0 (by omega)) (fun f i j z => hS f i 0 j (by omega)) (hN 1 0 0 (by omega)), fun d9 hd0 => ?_⟩
  by_cases e9 : d9 = d
  · subst e9
    obtain ⟨h1, h2, h3, h4, h5, h6, h7, h8, h9⟩ := hd9 d9 hd0
    
    have c : ∀ f k, (¬ (((f = 10 ∨ f = 11) ∧ d9 = d9) ∨ (f = 19 ∧ d9 = d9 ∧ k = N 3 d9 0))) → C' (f, d9, k) = C (f, d9, k) := fun f k z => hC f d9 k z
    have lq : ∀ f k, (¬ ((f = 11 ∧ d9 = d9) ∨ (f = 19 ∧ d9 = d9 ∧ k = N 3 d9 0))) → L' (f, d9, k) = L (f, d9, k) := fun f k z => hL f d9 k z
    have q : ∀ f k j, (¬ (f = 11 ∧ d9 = d9 ∧ k = N 3 d9 0)) → S' f d9 k j = S f d9 k j := fun f k j z => hS f d9 k j z
    have r : ∀ f k, (¬ (f = 3 ∧ d9 = d9)) → N' f d9 k = N f d9 k := fun f k z => hN f d9 k z
    refine ⟨?_, ?_, ?_, ?_, ?_, ?_, ?_, ?_, ?_⟩
    ·
      rw [(c 5 0 (by omega)), h1]
      simp only [kDev, q 4 0 0 (by omega), q 6 0 0 (by omega), q 7 0 0 (by omega), r 4 0 (by omega), (lq 6 0 (by omega)), (lq 7 0 (by omega)), (lq 8 0 (by omega)), (lq 10 0 (by omega)), (lq 12 0 (by omega))]
    ·
      rw [(c 6 0 (by omega)), h2]
      have e : ∀ n, N' 11 d9 n = N 11 d9 n := fun n => r 11 n (by omega)
      have e2 : ∀ n, L' (16, d9, n) = L (16, d9, n) := fun n => (lq 16 n (by omega))
      simp only [kCps, e, e2]
    ·
      rw [(c 7 0 (by omega)), h3]
      have e : ∀ n, S' 5 d9 n 0 = S 5 d9 n 0 := fun n => q 5 n 0 (by omega)
      simp only [e]
    ·
      rw [r 2 0 (by omega)]
      exact h4.keep (c 8 0 (by omega)) (c 9 0 (by omega)) (lq 9 0 (by omega)) (fun j _ => (lq 17 j (by omega)))
    ·
      rw [hN2]
      exact hl
    ·
      rw [r 5 0 (by omega)]
      exact h6.keep (c 12 0 (by omega)) (c 13 0 (by omega)) (lq 13 0 (by omega)) (fun j hj => by have h9 := hR9 j hj; rw [r 6 j (by omega)]; exact (lq 19 _ (by omega)))
    ·
      intro n9 hn
      rw [r 11 n9 (by omega)] at hn
      rw [(c 16 n9 (by omega)), h7 n9 hn]
      simp only [kF, q 8 n9 0 (by omega), q 8 n9 1 (by omega), q 8 n9 2 (by omega), q 8 n9 3 (by omega)]
    ·
      intro k9 hk
      rw [r 2 0 (by omega)] at hk
      rw [(c 17 k9 (by omega)), (c 18 k9 (by omega)), (h8 k9 hk).1, (h8 k9 hk).2, (lq 18 k9 (by omega)), q 9 k9 0 (by omega)]
      simp only [kF, q 10 k9 0 (by omega), q 10 k9 1 (by omega), q 10 k9 2 (by omega), q 10 k9 3 (by omega), and_self]
    ·
      intro k9 hk
      rw [hN2] at hk
      by_cases e : k9 = N 3 d9 0
      · subst e
        exact hv
      · have hk2 : k9 < N 3 d9 0 := by omega
        rw [(c 19 k9 (by omega)), h9 k9 hk2]
        simp only [kAct, q 11 k9 0 (by omega), q 11 k9 1 (by omega), q 11 k9 2 (by omega), q 11 k9 3 (by omega), q 11 k9 4 (by omega)]
  · exact (hd9 d9 hd0).keep (fun f k _ _ _ _ => hC f d9 k (by omega)) (fun f k _ _ _ _ => hL f d9 k (by omega)) (fun f k j _ _ => hS f d9 k j (by omega)) (fun f k _ _ => hN f d9 k (by omega))

theorem isX.a19 {E : kE} {C C' : kC} {L L' : kL} {S S' : kI4} {N N' : kN3} {d n : Nat} (hv : C' (19, d, n) = some (kAct S' d n)) (h : isX E C L S N) (hC : ∀ f d' k, ¬ (f = 19 ∧ d' = d ∧ k = n) → C' (f, d', k) = C (f, d', k)) (hL : ∀ f d' k, f = f → L' (f, d', k) = L (f, d', k)) (hS : ∀ f d' k j, ¬ (f = 11 ∧ d' = d ∧ k = n) → S' f d' k j = S f d' k j) (hN : ∀ f d' k, f = f → N' f d' k = N f d' k) : isX E C' L' S' N' := by
  obtain ⟨hc9, hd9⟩ := h
  refine ⟨hc9.keep (fun f i z => hC f i 0 (by omega)) (fun f i z => hL f i 0 (by omega)) (fun f i j z => hS f i 0 j (by omega)) (hN 1 0 0 (by omega)), fun d9 hd0 => ?_⟩
  by_cases e9 : d9 = d
  · subst e9
    obtain ⟨h1, h2, h3, h4, h5, h6, h7, h8, h9⟩ := hd9 d9 hd0
    
    have c : ∀ f k, (¬ (f = 19 ∧ d9 = d9 ∧ k = n)) → C' (f, d9, k) = C (f, d9, k) := fun f k z => hC f d9 k z
    have lq : ∀ f k, (f = f) → L' (f, d9, k) = L (f, d9, k) := fun f k z => hL f d9 k z
    have q : ∀ f k j, (¬ (f = 11 ∧ d9 = d9 ∧ k = n)) → S' f d9 k j = S f d9 k j := fun f k j z => hS f d9 k j z
    have r : ∀ f k, (f = f) → N' f d9 k = N f d9 k := fun f k z => hN f d9 k z
    refine ⟨?_, ?_, ?_, ?_, ?_, ?_, ?_, ?_, ?_⟩
    ·
      rw [(c 5 0 (by omega)), h1]
      simp only [kDev, q 4 0 0 (by omega), q 6 0 0 (by omega), q 7 0 0 (by omega), r 4 0 (by omega), (lq 6 0 (by omega)), (lq 7 0 (by omega)), (lq 8 0 (by omega)), (lq 10 0 (by omega)), (lq 12 0 (by omega))]
    ·
      rw [(c 6 0 (by omega)), h2]
      have e : ∀ n, N' 11 d9 n = N 11 d9 n := fun n => r 11 n (by omega)
      have e2 : ∀ n, L' (16, d9, n) = L (16, d9, n) := fun n => (lq 16 n (by omega))
      simp only [kCps, e, e2]
    ·
      rw [(c 7 0 (by omega)), h3]
      have e : ∀ n, S' 5 d9 n 0 = S 5 d9 n 0 := fun n => q 5 n 0 (by omega)
      simp only [e]
    ·
      rw [r 2 0 (by omega)]
      exact h4.keep (c 8 0 (by omega)) (c 9 0 (by omega)) (lq 9 0 (by omega)) (fun j _ => (lq 17 j (by omega)))
    ·
      rw [r 3 0 (by omega)]
      exact h5.keep (c 10 0 (by omega)) (c 11 0 (by omega)) (lq 11 0 (by omega)) (fun j _ => lq 19 j (by omega))
    ·
      rw [r 5 0 (by omega)]
      exact h6.keep (c 12 0 (by omega)) (c 13 0 (by omega)) (lq 13 0 (by omega)) (fun j _ => by rw [r 6 j (by omega)]; exact lq 19 _ (by omega))
    ·
      intro n9 hn
      rw [r 11 n9 (by omega)] at hn
      rw [(c 16 n9 (by omega)), h7 n9 hn]
      simp only [kF, q 8 n9 0 (by omega), q 8 n9 1 (by omega), q 8 n9 2 (by omega), q 8 n9 3 (by omega)]
    ·
      intro k9 hk
      rw [r 2 0 (by omega)] at hk
      rw [(c 17 k9 (by omega)), (c 18 k9 (by omega)), (h8 k9 hk).1, (h8 k9 hk).2, (lq 18 k9 (by omega)), q 9 k9 0 (by omega)]
      simp only [kF, q 10 k9 0 (by omega), q 10 k9 1 (by omega), q 10 k9 2 (by omega), q 10 k9 3 (by omega), and_self]
    ·
      intro k9 hk
      rw [r 3 0 (by omega)] at hk
      by_cases e : k9 = n
      · subst e
        exact hv
      · rw [(c 19 k9 (by omega)), h9 k9 hk]
        simp only [kAct, q 11 k9 0 (by omega), q 11 k9 1 (by omega), q 11 k9 2 (by omega), q 11 k9 3 (by omega), q 11 k9 4 (by omega)]
  · exact (hd9 d9 hd0).keep (fun f k _ _ _ _ => hC f d9 k (by omega)) (fun f k _ _ _ _ => hL f d9 k (by omega)) (fun f k j _ _ => hS f d9 k j (by omega)) (fun f k _ _ => hN f d9 k (by omega))

theorem isX.addR {E : kE} {C C' : kC} {L L' : kL} {S S' : kI4} {N N' : kN3} {d : Nat} (hl : kLs E C' L' 12 13 d (N 5 d 0 + 1) (fun i => L' (19, d, N' 6 d i))) (hN2 : N' 5 d 0 = N 5 d 0 + 1) (h : isX E C L S N) (hC : ∀ f d' k, ¬ ((f = 12 ∨ f = 13) ∧ d' = d) → C' (f, d', k) = C (f, d', k)) (hL : ∀ f d' k, ¬ (f = 13 ∧ d' = d) → L' (f, d', k) = L (f, d', k)) (hS : ∀ f d' k j, f = f → S' f d' k j = S f d' k j) (hN : ∀ f d' k, ¬ (((f = 5) ∧ d' = d) ∨ (f = 6 ∧ d' = d ∧ k = N 5 d 0)) → N' f d' k = N f d' k) : isX E C' L' S' N' := by
  obtain ⟨hc9, hd9⟩ := h
  refine ⟨hc9.keep (fun f i z => hC f i 0 (by omega)) (fun f i z => hL f i 0 (by omega)) (fun f i j z => hS f i 0 j (by omega)) (hN 1 0 0 (by omega)), fun d9 hd0 => ?_⟩
  by_cases e9 : d9 = d
  · subst e9
    obtain ⟨h1, h2, h3, h4, h5, h6, h7, h8, h9⟩ := hd9 d9 hd0
    
    have c : ∀ f k, (¬ ((f = 12 ∨ f = 13) ∧ d9 = d9)) → C' (f, d9, k) = C (f, d9, k) := fun f k z => hC f d9 k z
    have lq : ∀ f k, (¬ (f = 13 ∧ d9 = d9)) → L' (f, d9, k) = L (f, d9, k) := fun f k z => hL f d9 k z
    have q : ∀ f k j, (f = f) → S' f d9 k j = S f d9 k j := fun f k j z => hS f d9 k j z
    have r : ∀ f k, (¬ (((f = 5) ∧ d9 = d9) ∨ (f = 6 ∧ d9 = d9 ∧ k = N 5 d9 0))) → N' f d9 k = N f d9 k := fun f k z => hN f d9 k z
    refine ⟨?_, ?_, ?_, ?_, ?_, ?_, ?_, ?_, ?_⟩
    ·
      rw [(c 5 0 (by omega)), h1]
      simp only [kDev, q 4 0 0 (by omega), q 6 0 0 (by omega), q 7 0 0 (by omega), r 4 0 (by omega), (lq 6 0 (by omega)), (lq 7 0 (by omega)), (lq 8 0 (by omega)), (lq 10 0 (by omega)), (lq 12 0 (by omega))]
    ·
      rw [(c 6 0 (by omega)), h2]
      have e : ∀ n, N' 11 d9 n = N 11 d9 n := fun n => r 11 n (by omega)
      have e2 : ∀ n, L' (16, d9, n) = L (16, d9, n) := fun n => (lq 16 n (by omega))
      simp only [kCps, e, e2]
    ·
      rw [(c 7 0 (by omega)), h3]
      have e : ∀ n, S' 5 d9 n 0 = S 5 d9 n 0 := fun n => q 5 n 0 (by omega)
      simp only [e]
    ·
      rw [r 2 0 (by omega)]
      exact h4.keep (c 8 0 (by omega)) (c 9 0 (by omega)) (lq 9 0 (by omega)) (fun j _ => (lq 17 j (by omega)))
    ·
      rw [r 3 0 (by omega)]
      exact h5.keep (c 10 0 (by omega)) (c 11 0 (by omega)) (lq 11 0 (by omega)) (fun j _ => (lq 19 j (by omega)))
    ·
      rw [hN2]
      exact hl
    ·
      intro n9 hn
      rw [r 11 n9 (by omega)] at hn
      rw [(c 16 n9 (by omega)), h7 n9 hn]
      simp only [kF, q 8 n9 0 (by omega), q 8 n9 1 (by omega), q 8 n9 2 (by omega), q 8 n9 3 (by omega)]
    ·
      intro k9 hk
      rw [r 2 0 (by omega)] at hk
      rw [(c 17 k9 (by omega)), (c 18 k9 (by omega)), (h8 k9 hk).1, (h8 k9 hk).2, (lq 18 k9 (by omega)), q 9 k9 0 (by omega)]
      simp only [kF, q 10 k9 0 (by omega), q 10 k9 1 (by omega), q 10 k9 2 (by omega), q 10 k9 3 (by omega), and_self]
    ·
      intro k9 hk
      rw [r 3 0 (by omega)] at hk
      rw [(c 19 k9 (by omega)), h9 k9 hk]
      simp only [kAct, q 11 k9 0 (by omega), q 11 k9 1 (by omega), q 11 k9 2 (by omega), q 11 k9 3 (by omega), q 11 k9 4 (by omega)]
  · exact (hd9 d9 hd0).keep (fun f k _ _ _ _ => hC f d9 k (by omega)) (fun f k _ _ _ _ => hL f d9 k (by omega)) (fun f k j _ _ => hS f d9 k j (by omega)) (fun f k _ _ => hN f d9 k (by omega))
