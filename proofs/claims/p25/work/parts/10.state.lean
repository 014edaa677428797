/-! THE STATE OF FieldStore: numbers S (family, device or job, place, field), counts N (family, device, place).
S: 1 site, 2 crew, 3 fields of a job; of a device: 4 room, 5 copied, 6 copyCount, 7 unnumbered, 8 fields of a copy, 9 number and 10 fields of a made job, 11 act (job, field, value, version, reason); 12 acts done.
N: 1 jobs; of a device: 2 made, 3 acts, 4 next act, 5 refused, 6 which act was refused, 11 whether a copy's thing is there.
Things by name: 1 store, 2 3 list of jobs, 4 devices, 5 device, 6 copies, 7 copied, 8 9 made, 10 11 acts, 12 13 refused, 14 job, 15 its fields, 16 copy, 17 made, 18 its fields, 19 act; 60 is nobody's. -/
abbrev kI4 : Type := Nat → Nat → Nat → Nat → Int32
abbrev kN3 : Type := Nat → Nat → Nat → Nat
def w4 (S : kI4) (f d k j : Nat) (v : Int32) : kI4 := fun f' d' k' j' => if f' = f ∧ d' = d ∧ k' = k ∧ j' = j then v else S f' d' k' j'
def w3 (N : kN3) (f d k : Nat) (v : Nat) : kN3 := fun f' d' k' => if f' = f ∧ d' = d ∧ k' = k then v else N f' d' k'
theorem w4_s {S : kI4} {f d k j : Nat} {v : Int32} : w4 S f d k j v f d k j = v := if_pos ⟨rfl, rfl, rfl, rfl⟩
theorem w4_n {S : kI4} {f d k j f' d' k' j' : Nat} {v : Int32} (h : ¬ (f' = f ∧ d' = d ∧ k' = k ∧ j' = j)) : w4 S f d k j v f' d' k' j' = S f' d' k' j' := if_neg h
theorem w3_s {N : kN3} {f d k v : Nat} : w3 N f d k v f d k = v := if_pos ⟨rfl, rfl, rfl⟩
theorem w3_n {N : kN3} {f d k v f' d' k' : Nat} (h : ¬ (f' = f ∧ d' = d ∧ k' = k)) : w3 N f d k v f' d' k' = N f' d' k' := if_neg h
def kF (S : kI4) (f d k : Nat) : va_E := .inr (3, [.int (S f d k 0), .int (S f d k 1), .int (S f d k 2), .int (S f d k 3)])
def kAct (S : kI4) (d k : Nat) : va_E := .inr (1, [.int (S 11 d k 0), .int (S 11 d k 1), .int (S 11 d k 2), .int (S 11 d k 3), .int (S 11 d k 4)])
/-- the first n of g -/
def kfst (n : Nat) (g : Nat → Nat) : Nat → Option Nat := fun j => if j < n then some (g j) else none
theorem kfst_in {n j : Nat} {g : Nat → Nat} (h : j < n) : kfst n g j = some (g j) := if_pos h
theorem kfst_out {n : Nat} {g : Nat → Nat} : ∀ j, n ≤ j → kfst n g j = none := fun j h => if_neg (by omega)
theorem kfst_up {n : Nat} {g g' : Nat → Nat} {b : Nat} (h : ∀ j, j < n → g' j = g j) (hb : g' n = b) : va_up (kfst n g) n (some b) = kfst (n + 1) g' := by
  funext j
  by_cases e : j = n
  · subst e
    simp [va_up, kfst, hb]
  · by_cases e2 : j < n
    · simp [va_up, kfst, e, e2, h j e2, Nat.lt_succ_of_lt e2]
    · simp [va_up, kfst, e, e2, show ¬ j < n + 1 by omega]
def kLs (E : kE) (C : kC) (L : kL) (fh fa d n : Nat) (g : Nat → Nat) : Prop := ∃ cap arr : Nat, C (fh, d, 0) = some (.inr (0, [.int (nI n), .ref arr, .int (nI n)])) ∧ ((cap = 0 ∧ n = 0 ∧ arr = E.2.2.1 ∧ kfst n g = fun _ => none) ∨ (arr = L (fa, d, 0) ∧ n ≤ cap ∧ 10 ≤ cap ∧ cap < 100000 ∧ C (fa, d, 0) = some (.inl (E.2.1 3, cap, .inr (.inr (.inr (.inr (kfst n g))))))))
theorem kLs.keep {E : kE} {C C' : kC} {L L' : kL} {fh fa d n : Nat} {g g' : Nat → Nat} (h : kLs E C L fh fa d n g) (h1 : C' (fh, d, 0) = C (fh, d, 0)) (h2 : C' (fa, d, 0) = C (fa, d, 0)) (h3 : L' (fa, d, 0) = L (fa, d, 0)) (hg : ∀ j, j < n → g' j = g j) : kLs E C' L' fh fa d n g' := by
  obtain ⟨cap, arr, a1, a2⟩ := h
  have e : kfst n g' = kfst n g := by
    funext j
    by_cases c : j < n
    · rw [kfst_in c, kfst_in c, hg j c]
    · rw [kfst_out j (by omega), kfst_out j (by omega)]
  exact ⟨cap, arr, by rw [h1]; exact a1, by rw [h2, h3, e]; exact a2⟩
def isC (E : kE) (C : kC) (L : kL) (S : kI4) (N : kN3) : Prop :=
  (C (1, 0, 0) = some (.inr (6, [.ref (L (2, 0, 0)), .ref (L (4, 0, 0)), .int (S 12 0 0 0)])) ∧ C (60, 0, 0) = none) ∧
  kLs E C L 2 3 0 (N 1 0 0) (fun j => L (14, j, 0)) ∧
  C (4, 0, 0) = some (.inl (E.2.1 5, 4, .inr (.inr (.inr (.inr (kfst 4 (fun d => L (5, d, 0)))))))) ∧
  (∀ i, i < N 1 0 0 → C (14, i, 0) = some (.inr (4, [.int (S 1 i 0 0), .int (S 2 i 0 0), .ref (L (15, i, 0))])) ∧ C (15, i, 0) = some (kF S 3 i 0))
def kDev (L : kL) (S : kI4) (N : kN3) (d : Nat) : va_E := .inr (2, [.int (S 4 d 0 0), .ref (L (6, d, 0)), .ref (L (7, d, 0)), .int (S 6 d 0 0), .ref (L (8, d, 0)), .int (S 7 d 0 0), .ref (L (10, d, 0)), .int (nI (N 4 d 0)), .ref (L (12, d, 0))])
def kCps (E : kE) (L : kL) (N : kN3) (d : Nat) : va_E := .inl (E.2.1 4, 40, .inr (.inr (.inr (.inr (fun n => if N 11 d n = 0 then none else some (L (16, d, n)))))))
def isD (E : kE) (C : kC) (L : kL) (S : kI4) (N : kN3) (d : Nat) : Prop :=
  C (5, d, 0) = some (kDev L S N d) ∧
  C (6, d, 0) = some (kCps E L N d) ∧
  C (7, d, 0) = some (.inl (E.2.1 1, 40, .inl (fun n => S 5 d n 0))) ∧
  kLs E C L 8 9 d (N 2 d 0) (fun k => L (17, d, k)) ∧
  kLs E C L 10 11 d (N 3 d 0) (fun k => L (19, d, k)) ∧
  kLs E C L 12 13 d (N 5 d 0) (fun i => L (19, d, N 6 d i)) ∧
  (∀ n, N 11 d n ≠ 0 → C (16, d, n) = some (kF S 8 d n)) ∧
  (∀ k, k < N 2 d 0 → C (17, d, k) = some (.inr (5, [.int (S 9 d k 0), .ref (L (18, d, k))])) ∧ C (18, d, k) = some (kF S 10 d k)) ∧
  (∀ k, k < N 3 d 0 → C (19, d, k) = some (kAct S d k))
def isX (E : kE) (C : kC) (L : kL) (S : kI4) (N : kN3) : Prop := isC E C L S N ∧ ∀ d, d < 4 → isD E C L S N d
/-- what is known of the counts -/
def okX (S : kI4) (N : kN3) : Prop := N 1 0 0 ≤ 40 ∧ ∀ d, d < 4 → N 2 d 0 ≤ 512 ∧ N 3 d 0 ≤ 512 ∧ N 4 d 0 ≤ N 3 d 0 ∧ N 5 d 0 ≤ 512 ∧ (∀ i, i < N 5 d 0 → N 6 d i < N 3 d 0)
/-- all that isn't FieldStore's stays -/
def kFr (C : kC) (L : kL) (C' : kC) (L' : kL) : Prop := ∀ t : kT, 30 ≤ t.1 → C' t = C t ∧ L' t = L t
theorem kFr.rf {C : kC} {L : kL} : kFr C L C L := fun _ _ => ⟨rfl, rfl⟩
theorem kFr.tr {C C1 C2 : kC} {L L1 L2 : kL} (h : kFr C L C1 L1) (h2 : kFr C1 L1 C2 L2) : kFr C L C2 L2 := fun t ht => ⟨(h2 t ht).1.trans (h t ht).1, (h2 t ht).2.trans (h t ht).2⟩
theorem kFr.up {C C1 : kC} {L L1 : kL} (h : kFr C L C1 L1) {f d k : Nat} {e : Option va_E} (hf : f < 30) : kFr C L (kup C1 (f, d, k) e) L1 := fun t ht => ⟨(kup_n (fun z => by rw [z] at ht; exact absurd ht (by show ¬ 30 ≤ f; omega))).trans (h t ht).1, (h t ht).2⟩
theorem kFr.upL {C C1 : kC} {L L1 : kL} (h : kFr C L C1 L1) {f d k : Nat} {q : Nat} (hf : f < 30) : kFr C L C1 (kup L1 (f, d, k) q) := fun t ht => ⟨(h t ht).1, (kup_n (fun z => by rw [z] at ht; exact absurd ht (by show ¬ 30 ≤ f; omega))).trans (h t ht).2⟩
theorem isD.keep {E : kE} {C C' : kC} {L L' : kL} {S S' : kI4} {N N' : kN3} {d : Nat} (h : isD E C L S N d) (hC : ∀ f k, 5 ≤ f → f ≤ 19 → f ≠ 14 → f ≠ 15 → C' (f, d, k) = C (f, d, k)) (hL : ∀ f k, 5 ≤ f → f ≤ 19 → f ≠ 14 → f ≠ 15 → L' (f, d, k) = L (f, d, k)) (hS : ∀ f k j, 4 ≤ f → f ≤ 11 → S' f d k j = S f d k j) (hN : ∀ f k, 2 ≤ f → f ≤ 11 → N' f d k = N f d k) : isD E C' L' S' N' d := by
  obtain ⟨h1, h2, h3, h4, h5, h6, h7, h8, h9⟩ := h
  have c : ∀ f k, 5 ≤ f ∧ f ≤ 19 ∧ f ≠ 14 ∧ f ≠ 15 → C' (f, d, k) = C (f, d, k) ∧ L' (f, d, k) = L (f, d, k) := fun f k z => ⟨hC f k z.1 z.2.1 z.2.2.1 z.2.2.2, hL f k z.1 z.2.1 z.2.2.1 z.2.2.2⟩
  have q : ∀ f k j, 4 ≤ f ∧ f ≤ 11 → S' f d k j = S f d k j := fun f k j z => hS f k j z.1 z.2
  have r : ∀ f k, 2 ≤ f ∧ f ≤ 11 → N' f d k = N f d k := fun f k z => hN f k z.1 z.2
  refine ⟨?_, ?_, ?_, ?_, ?_, ?_, fun n hn => ?_, fun k hk => ?_, fun k hk => ?_⟩
  · rw [(c 5 0 (by decide)).1, h1]
    simp only [kDev, q 4 0 0 (by decide), q 6 0 0 (by decide), q 7 0 0 (by decide), r 4 0 (by decide), (c 6 0 (by decide)).2, (c 7 0 (by decide)).2, (c 8 0 (by decide)).2, (c 10 0 (by decide)).2, (c 12 0 (by decide)).2]
  · rw [(c 6 0 (by decide)).1, h2]
    have e : ∀ n, N' 11 d n = N 11 d n := fun n => r 11 n (by decide)
    have e2 : ∀ n, L' (16, d, n) = L (16, d, n) := fun n => (c 16 n (by decide)).2
    simp only [kCps, e, e2]
  · rw [(c 7 0 (by decide)).1, h3]
    have e : ∀ n, S' 5 d n 0 = S 5 d n 0 := fun n => q 5 n 0 (by decide)
    simp only [e]
  · rw [r 2 0 (by decide)]
    exact h4.keep (c 8 0 (by decide)).1 (c 9 0 (by decide)).1 (c 9 0 (by decide)).2 (fun j _ => (c 17 j (by decide)).2)
  · rw [r 3 0 (by decide)]
    exact h5.keep (c 10 0 (by decide)).1 (c 11 0 (by decide)).1 (c 11 0 (by decide)).2 (fun j _ => (c 19 j (by decide)).2)
  · rw [r 5 0 (by decide)]
    exact h6.keep (c 12 0 (by decide)).1 (c 13 0 (by decide)).1 (c 13 0 (by decide)).2 (fun j _ => by rw [r 6 j (by decide)]; exact (c 19 _ (by decide)).2)
  · rw [r 11 n (by decide)] at hn
    rw [(c 16 n (by decide)).1, h7 n hn]
    simp only [kF, q 8 n 0 (by decide), q 8 n 1 (by decide), q 8 n 2 (by decide), q 8 n 3 (by decide)]
  · rw [r 2 0 (by decide)] at hk
    rw [(c 17 k (by decide)).1, (c 18 k (by decide)).1, (h8 k hk).1, (h8 k hk).2, (c 18 k (by decide)).2, q 9 k 0 (by decide)]
    simp only [kF, q 10 k 0 (by decide), q 10 k 1 (by decide), q 10 k 2 (by decide), q 10 k 3 (by decide), and_self]
  · rw [r 3 0 (by decide)] at hk
    rw [(c 19 k (by decide)).1, h9 k hk]
    simp only [kAct, q 11 k 0 (by decide), q 11 k 1 (by decide), q 11 k 2 (by decide), q 11 k 3 (by decide), q 11 k 4 (by decide)]
theorem isC.keep {E : kE} {C C' : kC} {L L' : kL} {S S' : kI4} {N N' : kN3} (h : isC E C L S N) (hC : ∀ f i, f ≤ 4 ∨ f = 14 ∨ f = 15 ∨ f = 60 → C' (f, i, 0) = C (f, i, 0)) (hL : ∀ f i, f ≤ 5 ∨ f = 14 ∨ f = 15 → L' (f, i, 0) = L (f, i, 0)) (hS : ∀ f i j, f ≤ 3 ∨ f = 12 → S' f i 0 j = S f i 0 j) (hN : N' 1 0 0 = N 1 0 0) : isC E C' L' S' N' := by
  obtain ⟨⟨h1, h0⟩, h2, h3, h4⟩ := h
  refine ⟨⟨?_, by rw [hC 60 0 (by decide)]; exact h0⟩, ?_, ?_, fun i hi => ?_⟩
  · rw [hC 1 0 (by decide), h1, hL 2 0 (by decide), hL 4 0 (by decide), hS 12 0 0 (by decide)]
  · rw [hN]
    exact h2.keep (hC 2 0 (by decide)) (hC 3 0 (by decide)) (hL 3 0 (by decide)) (fun j _ => hL 14 j (by decide))
  · rw [hC 4 0 (by decide), h3]
    have e : ∀ d, L' (5, d, 0) = L (5, d, 0) := fun d => hL 5 d (by decide)
    simp only [e]
  · rw [hN] at hi
    rw [hC 14 i (by decide), hC 15 i (by decide), (h4 i hi).1, (h4 i hi).2, hL 15 i (by decide), hS 1 i 0 (by decide), hS 2 i 0 (by decide)]
    simp only [kF, hS 3 i 0 (by decide), hS 3 i 1 (by decide), hS 3 i 2 (by decide), hS 3 i 3 (by decide), and_self]
