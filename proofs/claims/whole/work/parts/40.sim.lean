/-! CLASS AND REFERENCE ALIKE: what holds between (S, N) and (M, Q) -/
theorem kcn_cg {f g : Nat → Nat} : ∀ {n : Nat}, (∀ i, i < n → f i = g i) → kcn f n = kcn g n
  | 0, _ => rfl
  | n + 1, h => by
    show kcn f n + f n = kcn g n + g n
    rw [kcn_cg (fun i hi => h i (Nat.lt_succ_of_lt hi)), h n (Nat.lt_succ_self n)]
theorem kcn_0 {f : Nat → Nat} : ∀ {n : Nat}, (∀ i, i < n → f i = 0) → kcn f n = 0
  | 0, _ => rfl
  | n + 1, h => by
    show kcn f n + f n = 0
    rw [kcn_0 (fun i hi => h i (Nat.lt_succ_of_lt hi)), h n (Nat.lt_succ_self n)]
theorem kcn_mono {f : Nat → Nat} {m n : Nat} (h : m ≤ n) : kcn f m ≤ kcn f n := by
  induction n with
  | zero => rw [Nat.le_zero.mp h]; exact Nat.le_refl _
  | succ n ih =>
    by_cases e : m = n + 1
    · rw [e]
      exact Nat.le_refl _
    · exact Nat.le_trans (ih (by omega)) (Nat.le_add_right _ _)
theorem kcn_lt {f : Nat → Nat} {i n : Nat} (h : i < n) (h1 : f i = 1) : kcn f i < kcn f n := by
  have h2 : kcn f (i + 1) ≤ kcn f n := kcn_mono h
  have h3 : kcn f (i + 1) = kcn f i + f i := rfl
  omega
theorem kcn_inj {f : Nat → Nat} {i j : Nat} (h1 : f i = 1) (h2 : f j = 1) (h : kcn f i = kcn f j) : i = j := by
  rcases Nat.lt_trichotomy i j with z | z | z
  · have := kcn_lt z h1
    omega
  · exact z
  · have := kcn_lt z h2
    omega
theorem kcn_ex {f : Nat → Nat} (hf : ∀ i, f i ≤ 1) : ∀ {n r : Nat}, r < kcn f n → ∃ i, i < n ∧ f i = 1 ∧ kcn f i = r
  | 0, r, h => absurd h (Nat.not_lt_zero r)
  | n + 1, r, h => by
    have h2 : r < kcn f n + f n := h
    by_cases e : r < kcn f n
    · obtain ⟨i, h3, h4⟩ := kcn_ex hf e
      exact ⟨i, by omega, h4⟩
    · have := hf n
      exact ⟨n, by omega, by omega, by omega⟩
theorem kcn_up {f g : Nat → Nat} {i : Nat} (hi : f i = 0 ∧ g i = 1) (hj : ∀ j, j ≠ i → g j = f j) : ∀ {n : Nat}, i < n → kcn g n = kcn f n + 1
  | 0, h => absurd h (Nat.not_lt_zero i)
  | n + 1, h => by
    show kcn g n + g n = kcn f n + f n + 1
    by_cases e : i = n
    · subst e
      rw [hi.1, hi.2, kcn_cg (fun j hj2 => hj j (by omega))]
    · rw [kcn_up hi hj (by omega), hj n (by omega)]
      omega
theorem w4_f {S : kI4} {f d k j f' : Nat} {v : Int32} (h : f' ≠ f) : w4 S f d k j v f' = S f' := by
  funext a b c
  exact w4_n (fun z => h z.1)
theorem w3_f {N : kN3} {f d k f' : Nat} {v : Nat} (h : f' ≠ f) : w3 N f d k v f' = N f' := by
  funext a b
  exact w3_n (fun z => h z.1)
theorem w2_f {α : Type} {M : Nat → Nat → α} {a i b : Nat} {x : α} (h : b ≠ a) : w2 M a i x b = M b := w2_row b h
abbrev kR1 : Type := Nat → Int32
abbrev kR3 : Type := Nat → Nat → Nat → Int32
/-- the central store -/
def kS1 (s1 s2 s3 : kR3) (nj : Nat) (m2 m3 m4 m5 : kR1) (qj : Nat) : Prop := qj = nj ∧ nj ≤ 40 ∧ (∀ i, i < nj → m2 i = s2 i 0 0 ∧ m3 i = s1 i 0 0 ∧ kin (s3 i 0 0) (nI 0) (nI 2) ∧ ∀ f, f < 2 → m4 (2 * i + f) = s3 i 0 f ∧ m5 (2 * i + f) = s3 i 0 (2 + f)) ∧ (∀ i, nj ≤ i → i < 40 → ∀ f, f < 2 → m4 (2 * i + f) = nI 0 ∧ m5 (2 * i + f) = nI 0)
/-- the rooms -/
def kS2 (s4 : kR3) (m6 : kR1) : Prop := ∀ d, d < 4 → m6 d = s4 d 0 0 ∧ kin (s4 d 0 0) (nI 0) (nI 40)
def kHd (m7 : kR1) (d k : Nat) : Nat := if m7 (40 * d + k) = 0 then 0 else 1
def kUn (m11 : kR1) (d k : Nat) : Nat := if m11 (600 * d + k) = -1 then 1 else 0
def kDv (m15 : kR1) (d g : Nat) : Nat := if m15 g = nI d then 1 else 0
/-- the copies -/
def kS3 (s5 s6 s8 : kR3) (n11 : Nat → Nat → Nat) (nj : Nat) (m7 m8 m9 : kR1) : Prop := ∀ d, d < 4 → s6 d 0 0 = nI (kcn (kHd m7 d) 40) ∧ ∀ n, n < 40 → m7 (40 * d + n) = s5 d n 0 ∧ (s5 d n 0 = nI 0 ∨ (s5 d n 0 = nI 1 ∧ n < nj ∧ n11 d n ≠ 0 ∧ ∀ f, f < 2 → m8 (2 * (40 * d + n) + f) = s8 d n f ∧ m9 (2 * (40 * d + n) + f) = s8 d n (2 + f)))
/-- the made jobs -/
def kS4 (s7 s9 s10 : kR3) (nj : Nat) (n2 n3 : Nat → Nat → Nat) (m11 m12 m13 : kR1) (q10 : Nat → Nat) : Prop := ∀ d, d < 4 → q10 d = n2 d 0 ∧ n2 d 0 ≤ n3 d 0 ∧ s7 d 0 0 = nI (kcn (kUn m11 d) (n2 d 0)) ∧ (∀ k, k < n2 d 0 → m11 (600 * d + k) = s9 d k 0 ∧ (s9 d k 0 = -1 ∨ ∃ j, j < nj ∧ s9 d k 0 = nI j) ∧ ∀ f, f < 2 → m12 (2 * (600 * d + k) + f) = s10 d k f ∧ m13 (2 * (600 * d + k) + f) = s10 d k (2 + f)) ∧ (∀ k, n2 d 0 ≤ k → k < 600 → ∀ f, f < 2 → m12 (2 * (600 * d + k) + f) = nI 0 ∧ m13 (2 * (600 * d + k) + f) = nI 0)
/-- one act: g of all, j of d's -/
def kAc (s9 s11 : kR3) (n2 n4 : Nat → Nat → Nat) (m16 m17 m18 m19 m20 : kR1) (d g j : Nat) : Prop := m17 g = s11 d j 1 ∧ m18 g = s11 d j 2 ∧ m19 g = s11 d j 3 ∧ m20 g = (if j < n4 d 0 then nI 1 else nI 0) ∧ ((m17 g = -1 ∧ ∃ k, k < n2 d 0 ∧ m16 g = nI (1000 + k) ∧ s11 d j 0 = nI (1000 + k) ∧ (n4 d 0 ≤ j → s9 d k 0 = -1)) ∨ (kin (m17 g) (nI 0) (nI 1) ∧ (m17 g = nI 0 → kin (m18 g) (nI 0) (nI 2)) ∧ (m16 g = s11 d j 0 ∨ ∃ k, k < n2 d 0 ∧ s11 d j 0 = nI (1000 + k) ∧ s9 d k 0 ≠ -1 ∧ m16 g = s9 d k 0)))
/-- the acts -/
def kS5 (s9 s11 : kR3) (n2 n3 n4 : Nat → Nat → Nat) (m15 m16 m17 m18 m19 m20 : kR1) (q14 : Nat) : Prop := q14 ≤ 512 ∧ (∀ d, d < 4 → n3 d 0 = kcn (kDv m15 d) q14 ∧ n4 d 0 ≤ n3 d 0) ∧ (∀ g, g < q14 → ∃ d, d < 4 ∧ m15 g = nI d ∧ kAc s9 s11 n2 n4 m16 m17 m18 m19 m20 d g (kcn (kDv m15 d) g)) ∧ (∀ g h, g < q14 → h < q14 → m17 g = -1 → m17 h = -1 → m15 g = m15 h → m16 g = m16 h → g = h) ∧ (∀ g, q14 ≤ g → g < 600 → m20 g = nI 0)
def kSe (m20 : kR1) (g : Nat) : Nat := if m20 g = nI 1 then 1 else 0
def kRf (m15 : kR1) (q22 : Nat → Nat) (d r : Nat) : Nat := if m15 (q22 r) = nI d then 1 else 0
/-- the piles -/
def kS6 (s11 : kR3) (n4 n5 n6 : Nat → Nat → Nat) (m15 m20 m23 : kR1) (q14 q21 : Nat) (q22 : Nat → Nat) : Prop := q21 ≤ kcn (kSe m20) q14 ∧ (∀ d, d < 4 → n5 d 0 = kcn (kRf m15 q22 d) q21 ∧ n5 d 0 ≤ n4 d 0) ∧ (∀ r, r < q21 → q22 r < q14 ∧ ∀ d, d < 4 → m15 (q22 r) = nI d → n6 d (kcn (kRf m15 q22 d) r) = kcn (kDv m15 d) (q22 r) ∧ kcn (kDv m15 d) (q22 r) < n4 d 0 ∧ m23 r = s11 d (kcn (kDv m15 d) (q22 r)) 4)
def kSim (S : kI4) (N : kN3) (M : kM2) (Q : kQ2) : Prop :=
  kS1 (S 1) (S 2) (S 3) (N 1 0 0) (M 2) (M 3) (M 4) (M 5) (Q 1 0) ∧
  kS2 (S 4) (M 6) ∧
  kS3 (S 5) (S 6) (S 8) (N 11) (N 1 0 0) (M 7) (M 8) (M 9) ∧
  kS4 (S 7) (S 9) (S 10) (N 1 0 0) (N 2) (N 3) (M 11) (M 12) (M 13) (Q 10) ∧
  kS5 (S 9) (S 11) (N 2) (N 3) (N 4) (M 15) (M 16) (M 17) (M 18) (M 19) (M 20) (Q 14 0) ∧
  kS6 (S 11) (N 4) (N 5) (N 6) (M 15) (M 20) (M 23) (Q 14 0) (Q 21 0) (Q 22) ∧
  S 12 0 0 0 = M 24 0
theorem kdv_le {m15 : kR1} {d g : Nat} : kDv m15 d g ≤ 1 := by
  unfold kDv
  by_cases h : m15 g = nI d
  · rw [if_pos h]; exact Nat.le_refl 1
  · rw [if_neg h]; exact Nat.zero_le 1
theorem kse_le {m20 : kR1} {g : Nat} : kSe m20 g ≤ 1 := by
  unfold kSe
  by_cases h : m20 g = nI 1
  · rw [if_pos h]; exact Nat.le_refl 1
  · rw [if_neg h]; exact Nat.zero_le 1
theorem krf_le {m15 : kR1} {q22 : Nat → Nat} {d g : Nat} : kRf m15 q22 d g ≤ 1 := by
  unfold kRf
  by_cases h : m15 (q22 g) = nI d
  · rw [if_pos h]; exact Nat.le_refl 1
  · rw [if_neg h]; exact Nat.zero_le 1
theorem nI_d {a b : Nat} (h : nI a = nI b) (ha : a < 4) (hb : b < 4) : a = b := nI_inj h (by omega) (by omega)
/-- the start -/
theorem kSim.start : kSim S00 N00 M00 Q00 := by
  refine ⟨⟨rfl, by decide, fun i hi => absurd hi (Nat.not_lt_zero i), fun i _ _ f _ => ⟨?_, ?_⟩⟩, fun d hd => ⟨?_, ?_⟩, fun d hd => ⟨?_, fun n hn => ⟨?_, Or.inl rfl⟩⟩, fun d hd => ⟨rfl, Nat.le_refl _, rfl, fun k hk => absurd hk (Nat.not_lt_zero k), fun k _ _ f _ => ⟨?_, ?_⟩⟩, ⟨by decide, fun d hd => ⟨rfl, Nat.le_refl _⟩, fun g hg => absurd hg (Nat.not_lt_zero g), fun g h hg => absurd hg (Nat.not_lt_zero g), fun g _ _ => ?_⟩, ⟨Nat.zero_le _, fun d hd => ⟨rfl, Nat.le_refl _⟩, fun r hr => absurd hr (Nat.not_lt_zero r)⟩, ?_⟩
  · exact if_neg (by omega)
  · exact if_neg (by omega)
  · exact if_pos ⟨rfl, hd⟩
  · exact ⟨show ¬ nI 10 < nI 0 by decide, show nI 10 ≤ nI 40 by decide⟩
  · rw [kcn_0 (fun i _ => ?_)]
    · rfl
    · exact if_pos (if_neg (by omega))
  · exact if_neg (by omega)
  · exact if_neg (by omega)
  · exact if_neg (by omega)
  · exact if_neg (by omega)
  · exact (if_neg (by omega) : M00 24 0 = nI 0).symm
