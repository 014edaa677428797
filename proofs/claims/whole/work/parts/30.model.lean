/-! THE REFERENCE: R its refusal, M its rows by the places of its fields (done at 24), Q what counts: jobs 1, made jobs 10, acts 14, refusals 21, acts that were refused 22.
Things by name: 30 the reference, 30 + a its row a. -/
abbrev kM2 : Type := Nat → Nat → Int32
abbrev kQ2 : Type := Nat → Nat → Nat
def w2 {α : Type} (M : Nat → Nat → α) (a i : Nat) (x : α) : Nat → Nat → α := fun a' i' => if a' = a ∧ i' = i then x else M a' i'
theorem w2_s {α : Type} {M : Nat → Nat → α} {a i : Nat} {x : α} : w2 M a i x a i = x := if_pos ⟨rfl, rfl⟩
theorem w2_a {α : Type} {M : Nat → Nat → α} {a i a' i' : Nat} {x : α} (h : a' ≠ a) : w2 M a i x a' i' = M a' i' := if_neg (fun z => h z.1)
theorem w2_i {α : Type} {M : Nat → Nat → α} {a i a' i' : Nat} {x : α} (h : i' ≠ i) : w2 M a i x a' i' = M a' i' := if_neg (fun z => h z.2)
def mS : Nat → Nat
  | 2 => 40
  | 3 => 40
  | 4 => 80
  | 5 => 80
  | 6 => 4
  | 7 => 160
  | 8 => 320
  | 9 => 320
  | 10 => 4
  | 11 => 2400
  | 12 => 4800
  | 13 => 4800
  | 15 => 600
  | 16 => 600
  | 17 => 600
  | 18 => 600
  | 19 => 600
  | 20 => 600
  | 22 => 600
  | 23 => 600
  | _ => 0
def mK (a : Nat) : Nat := if a = 7 then 1 else 0
def mF (M : kM2) (Q : kQ2) (a : Nat) : Nat → Int32 := if a = 10 ∨ a = 22 then fun i => nI (Q a i) else M a
theorem mF_n {M : kM2} {Q : kQ2} {a : Nat} (h : ¬ (a = 10 ∨ a = 22)) : mF M Q a = M a := if_neg h
theorem mF_q {M : kM2} {Q : kQ2} {a : Nat} (h : a = 10 ∨ a = 22) : mF M Q a = fun i => nI (Q a i) := if_pos h
def mO (L : kL) (R : Int32) (M : kM2) (Q : kQ2) : va_E := .inr (7, [.int R, .int (nI (Q 1 0)), .ref (L (32, 0, 0)), .ref (L (33, 0, 0)), .ref (L (34, 0, 0)), .ref (L (35, 0, 0)), .ref (L (36, 0, 0)), .ref (L (37, 0, 0)), .ref (L (38, 0, 0)), .ref (L (39, 0, 0)), .ref (L (40, 0, 0)), .ref (L (41, 0, 0)), .ref (L (42, 0, 0)), .ref (L (43, 0, 0)), .int (nI (Q 14 0)), .ref (L (45, 0, 0)), .ref (L (46, 0, 0)), .ref (L (47, 0, 0)), .ref (L (48, 0, 0)), .ref (L (49, 0, 0)), .ref (L (50, 0, 0)), .int (nI (Q 21 0)), .ref (L (52, 0, 0)), .ref (L (53, 0, 0)), .int (M 24 0)])
def isM (E : kE) (C : kC) (L : kL) (R : Int32) (M : kM2) (Q : kQ2) : Prop := C (30, 0, 0) = some (mO L R M Q) ∧ ∀ a, mS a ≠ 0 → C (30 + a, 0, 0) = some (.inl (E.2.1 (mK a), mS a, .inl (mF M Q a)))
theorem mS_lt {a : Nat} (h : mS a ≠ 0) : 0 < a ∧ a < 24 := by
  refine ⟨Nat.pos_of_ne_zero fun e => h (by rw [e]; rfl), Nat.lt_of_not_le fun z => h ?_⟩
  unfold mS
  split <;> first | omega | rfl
/-- all that isn't the reference's stays -/
def kFm (C C' : kC) : Prop := ∀ t : kT, (t.1 < 30 ∨ 53 < t.1) → C' t = C t
theorem kFm.rf {C : kC} : kFm C C := fun _ _ => rfl
theorem kFm.tr {C C1 C2 : kC} (h : kFm C C1) (h2 : kFm C1 C2) : kFm C C2 := fun t ht => (h2 t ht).trans (h t ht)
theorem kFm.up {C C1 : kC} (h : kFm C C1) {f d k : Nat} {e : Option va_E} (hf : 30 ≤ f ∧ f ≤ 53) : kFm C (kup C1 (f, d, k) e) := fun t ht => (kup_n (fun z => by rw [z] at ht; exact absurd ht (by show ¬ (f < 30 ∨ 53 < f); omega))).trans (h t ht)
theorem isM.keep {E : kE} {C C' : kC} {L L' : kL} {R : Int32} {M : kM2} {Q : kQ2} (h : isM E C L R M Q) (hC : ∀ t : kT, 30 ≤ t.1 → t.1 ≤ 53 → C' t = C t) (hL : ∀ t : kT, 30 ≤ t.1 → t.1 ≤ 53 → L' t = L t) : isM E C' L' R M Q := by
  refine ⟨?_, fun a ha => ?_⟩
  · rw [hC _ (show 30 ≤ 30 by decide) (show 30 ≤ 53 by decide), h.1]
    have e : ∀ a, a ≤ 23 → L' (30 + a, 0, 0) = L (30 + a, 0, 0) := fun a ha => hL _ (show 30 ≤ 30 + a by omega) (show 30 + a ≤ 53 by omega)
    unfold mO
    rw [show L' (32, 0, 0) = L (32, 0, 0) from e 2 (by decide), show L' (33, 0, 0) = L (33, 0, 0) from e 3 (by decide), show L' (34, 0, 0) = L (34, 0, 0) from e 4 (by decide), show L' (35, 0, 0) = L (35, 0, 0) from e 5 (by decide), show L' (36, 0, 0) = L (36, 0, 0) from e 6 (by decide), show L' (37, 0, 0) = L (37, 0, 0) from e 7 (by decide), show L' (38, 0, 0) = L (38, 0, 0) from e 8 (by decide), show L' (39, 0, 0) = L (39, 0, 0) from e 9 (by decide), show L' (40, 0, 0) = L (40, 0, 0) from e 10 (by decide), show L' (41, 0, 0) = L (41, 0, 0) from e 11 (by decide), show L' (42, 0, 0) = L (42, 0, 0) from e 12 (by decide), show L' (43, 0, 0) = L (43, 0, 0) from e 13 (by decide), show L' (45, 0, 0) = L (45, 0, 0) from e 15 (by decide), show L' (46, 0, 0) = L (46, 0, 0) from e 16 (by decide), show L' (47, 0, 0) = L (47, 0, 0) from e 17 (by decide), show L' (48, 0, 0) = L (48, 0, 0) from e 18 (by decide), show L' (49, 0, 0) = L (49, 0, 0) from e 19 (by decide), show L' (50, 0, 0) = L (50, 0, 0) from e 20 (by decide), show L' (52, 0, 0) = L (52, 0, 0) from e 22 (by decide), show L' (53, 0, 0) = L (53, 0, 0) from e 23 (by decide)]
  · have := mS_lt ha
    rw [hC _ (show 30 ≤ 30 + a by omega) (show 30 + a ≤ 53 by omega)]
    exact h.2 a ha
/-- the reference's own fields anew -/
theorem isM.obj {E : kE} {C : kC} {L : kL} {R R' : Int32} {M M' : kM2} {Q Q' : kQ2} (h : isM E C L R M Q) (hM : ∀ a, a ≠ 24 → M' a = M a) (hQ : ∀ a, a ≠ 1 → a ≠ 14 → a ≠ 21 → Q' a = Q a) : isM E (kup C (30, 0, 0) (some (mO L R' M' Q'))) L R' M' Q' := by
  refine ⟨kup_s, fun a ha => ?_⟩
  have := mS_lt ha
  rw [kup_n (kne1 (by omega)), h.2 a ha]
  have e : mF M' Q' a = mF M Q a := by
    unfold mF
    rw [hM a (by omega), hQ a (by rintro rfl; exact ha rfl) (by rintro rfl; exact ha rfl) (by rintro rfl; exact ha rfl)]
  rw [e]
/-- a row anew -/
theorem isM.row {E : kE} {C : kC} {L : kL} {R : Int32} {M M' : kM2} {Q Q' : kQ2} (h : isM E C L R M Q) (a : Nat) (ha : mS a ≠ 0) (hM : ∀ b, b ≠ a → M' b = M b) (hQ : ∀ b, b ≠ a → Q' b = Q b) : isM E (kup C (30 + a, 0, 0) (some (.inl (E.2.1 (mK a), mS a, .inl (mF M' Q' a))))) L R M' Q' := by
  have l := mS_lt ha
  refine ⟨?_, fun b hb => ?_⟩
  · rw [kup_n (kne1 (by omega)), h.1]
    unfold mO
    rw [hM 24 (by omega), hQ 1 (by rintro rfl; exact ha rfl), hQ 14 (by rintro rfl; exact ha rfl), hQ 21 (by rintro rfl; exact ha rfl)]
  · by_cases e : b = a
    · subst e
      exact kup_s
    · rw [kup_n (kne1 (by omega)), h.2 b hb]
      have e : mF M' Q' b = mF M Q b := by
        unfold mF
        rw [hM b e, hQ b e]
      rw [e]
theorem w2_row {α : Type} {M : Nat → Nat → α} {a i : Nat} {x : α} : ∀ b, b ≠ a → w2 M a i x b = M b := fun b h => funext fun j => w2_a h
theorem mF_up {M : kM2} {Q : kQ2} {a i : Nat} {x : Int32} (h : ¬ (a = 10 ∨ a = 22)) : upd (mF M Q a) i x = mF (w2 M a i x) Q a := by
  rw [mF_n h, mF_n h]
  funext j
  by_cases e : j = i
  · subst e
    simp [upd, w2]
  · simp [upd, w2, e]
theorem mF_upQ {M : kM2} {Q : kQ2} {a i n : Nat} (h : a = 10 ∨ a = 22) : upd (mF M Q a) i (nI n) = mF M (w2 Q a i n) a := by
  rw [mF_q h, mF_q h]
  funext j
  by_cases e : j = i
  · subst e
    simp [upd, w2]
  · simp [upd, w2, e]
section KM
variable {Γ : kG} {E : kE} {A : Nat → Prop} {cc : ByteArray} {own : String} {C C0 : kC} {L : kL} {cells slots pc : Nat} {lo : List (Nat × Value)} {rest : List Value} {R : Int32} {M : kM2} {Q : kQ2}
theorem k_mld (X : kX Γ E A cc own) (h : isM E C L R M Q) (a : Nat) {q i : Nat} (hq : L (30 + a, 0, 0) = q) (hS : mS a ≠ 0 ∧ a ≠ 7 ∧ ¬ (a = 10 ∨ a = 22)) (hi : i < mS a) (hdg : decode cc pc = .ok (.iaload, 1)) (k9 : kW Γ E A C L cells slots (pc + 1) lo (.int (M a i) :: rest)) : kW Γ E A C L cells slots pc lo (.int (nI i) :: .ref q :: rest) := by
  have h9 := h.2 a hS.1
  rw [mF_n hS.2.2, show mK a = 0 from if_neg hS.2.1] at h9
  have l := mS_lt hS.1
  have z : mS a < 2 ^ 31 := by unfold mS; split <;> decide
  exact k_iald X h9 hq (vp_in_nI hi z) hdg (by rw [nI_clamp (by omega)]; exact k9)
theorem k_mldQ (X : kX Γ E A cc own) (h : isM E C L R M Q) (a : Nat) {q i : Nat} (hq : L (30 + a, 0, 0) = q) (hS : mS a ≠ 0 ∧ a ≠ 7 ∧ (a = 10 ∨ a = 22)) (hi : i < mS a) (hdg : decode cc pc = .ok (.iaload, 1)) (k9 : kW Γ E A C L cells slots (pc + 1) lo (.int (nI (Q a i)) :: rest)) : kW Γ E A C L cells slots pc lo (.int (nI i) :: .ref q :: rest) := by
  have h9 := h.2 a hS.1
  rw [mF_q hS.2.2, show mK a = 0 from if_neg hS.2.1] at h9
  have z : mS a < 2 ^ 31 := by unfold mS; split <;> decide
  exact k_iald X h9 hq (vp_in_nI hi z) hdg (by rw [nI_clamp (by omega)]; exact k9)
theorem k_mldZ (X : kX Γ E A cc own) (h : isM E C L R M Q) {q i : Nat} (hq : L (37, 0, 0) = q) (hi : i < 160) (hdg : decode cc pc = .ok (.baload, 1)) (k9 : kW Γ E A C L cells slots (pc + 1) lo (.int (M 7 i) :: rest)) : kW Γ E A C L cells slots pc lo (.int (nI i) :: .ref q :: rest) := by
  have h9 := h.2 7 (by decide)
  rw [mF_n (by decide), show mK 7 = 1 from rfl] at h9
  exact k_zald X h9 hq (vp_in_nI hi (show mS 7 < 2 ^ 31 by decide)) hdg (by rw [nI_clamp (by omega)]; exact k9)
theorem k_mst (X : kX Γ E A cc own) (h : isM E C L R M Q) (f : kFm C0 C) (a : Nat) {q i : Nat} {x : Int32} (hq : L (30 + a, 0, 0) = q) (hS : mS a ≠ 0 ∧ a ≠ 7 ∧ ¬ (a = 10 ∨ a = 22)) (hi : i < mS a) (hdg : decode cc pc = .ok (.iastore, 1)) (k9 : ∀ C', isM E C' L R (w2 M a i x) Q → kFm C0 C' → kW Γ E A C' L cells slots (pc + 1) lo rest) : kW Γ E A C L cells slots pc lo (.int x :: .int (nI i) :: .ref q :: rest) := by
  have h9 := h.2 a hS.1
  have l := mS_lt hS.1
  have z : mS a < 2 ^ 31 := by unfold mS; split <;> decide
  have e0 : mK a = 0 := if_neg hS.2.1
  rw [e0] at h9
  refine k_iast X h9 hq (vp_in_nI hi z) hdg ?_
  rw [nI_clamp (by omega), mF_up hS.2.2]
  have h8 := isM.row (M' := w2 M a i x) (Q' := Q) h a hS.1 w2_row (fun _ _ => rfl)
  rw [e0] at h8
  exact k9 _ h8 (f.up (by omega))
theorem k_mstQ (X : kX Γ E A cc own) (h : isM E C L R M Q) (f : kFm C0 C) (a : Nat) {q i n : Nat} (hq : L (30 + a, 0, 0) = q) (hS : mS a ≠ 0 ∧ a ≠ 7 ∧ (a = 10 ∨ a = 22)) (hi : i < mS a) (hdg : decode cc pc = .ok (.iastore, 1)) (k9 : ∀ C', isM E C' L R M (w2 Q a i n) → kFm C0 C' → kW Γ E A C' L cells slots (pc + 1) lo rest) : kW Γ E A C L cells slots pc lo (.int (nI n) :: .int (nI i) :: .ref q :: rest) := by
  have h9 := h.2 a hS.1
  have l := mS_lt hS.1
  have z : mS a < 2 ^ 31 := by unfold mS; split <;> decide
  have e0 : mK a = 0 := if_neg hS.2.1
  rw [e0] at h9
  refine k_iast X h9 hq (vp_in_nI hi z) hdg ?_
  rw [nI_clamp (by omega), mF_upQ hS.2.2]
  have h8 := isM.row (M' := M) (Q' := w2 Q a i n) h a hS.1 (fun _ _ => rfl) w2_row
  rw [e0] at h8
  exact k9 _ h8 (f.up (by omega))
theorem k_mstZ (X : kX Γ E A cc own) (h : isM E C L R M Q) (f : kFm C0 C) {q i : Nat} {x : Int32} (hq : L (37, 0, 0) = q) (hx : vp_nar .boolean x = x) (hi : i < 160) (hdg : decode cc pc = .ok (.bastore, 1)) (k9 : ∀ C', isM E C' L R (w2 M 7 i x) Q → kFm C0 C' → kW Γ E A C' L cells slots (pc + 1) lo rest) : kW Γ E A C L cells slots pc lo (.int x :: .int (nI i) :: .ref q :: rest) := by
  have h9 := h.2 7 (by decide)
  have e0 : mK 7 = 1 := rfl
  rw [e0] at h9
  refine k_zast X h9 hq (vp_in_nI hi (show mS 7 < 2 ^ 31 by decide)) hdg ?_
  rw [nI_clamp (by omega), hx, mF_up (by decide)]
  have h8 := isM.row (M' := w2 M 7 i x) (Q' := Q) h 7 (by decide) w2_row (fun _ _ => rfl)
  rw [e0] at h8
  exact k9 _ h8 (f.up (by decide))
end KM
theorem kmin.nI {a : Nat} : nI a + (-1) = nI a - nI 1 := by
  rw [Int32.sub_eq_add_neg]
  rfl
