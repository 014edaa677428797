theorem kneD {f d' k f0 d k0 : Nat} (z : ¬ (f = f0 ∧ d' = d)) : ((f, d', k) : kT) ≠ (f0, d, k0) := fun e => z ⟨congrArg Prod.fst e, congrArg (fun x : kT => x.2.1) e⟩
theorem kneT {f d' k f0 d k0 : Nat} (z : ¬ (f = f0 ∧ d' = d ∧ k = k0)) : ((f, d', k) : kT) ≠ (f0, d, k0) := fun e => z ⟨congrArg Prod.fst e, congrArg (fun x : kT => x.2.1) e, congrArg (fun x : kT => x.2.2) e⟩
theorem kn16 {f d k : Nat} (h : f ≠ 16) : ((f, d, k) : kT).1 ≠ 16 := h
theorem c_X2_copyFromA {l : Launch} (htr : l.stackTraces = false) {E : kE} {A : Nat → Prop} {C : kC} {L : kL} {t u : kT} {q0 q1 : Nat} {a b c d a1 b1 c1 d1 : Int32} (ha0 : L t = q0) (ha1 : L u = q1) (hne : t ≠ u) (h : C t = some (.inr (3, [.int a, .int b, .int c, .int d]))) (g : C u = some (.inr (3, [.int a1, .int b1, .int c1, .int d1]))) : kM l yX2_copyFrom cX2_copyFrom 2 none 0 0 0 0 E A C L [.ref q0, .ref q1] (fun v C' L' => v = none ∧ L = L' ∧ C' = kup C t (some (.inr (3, [.int a1, .int b1, .int c1, .int d1])))) := by
  subst ha0
  subst ha1
  exact c_X2_copyFrom htr hne h g
/-- the first i copies dropped -/
def sDr (S : kI4) (d i : Nat) : kI4 := fun f d' k j => if f = 5 ∧ d' = d ∧ k < i ∧ j = 0 then nI 0 else S f d' k j
def sDrop (S : kI4) (d : Nat) : kI4 := w4 (sDr S d 40) 6 d 0 0 (nI 0)
theorem sDr_0 {S : kI4} {d : Nat} : sDr S d 0 = S := by
  funext f d' k j
  exact if_neg (by omega)
theorem sDr_n {S : kI4} {d i f d' k j : Nat} (z : ¬ (f = 5 ∧ d' = d)) : sDr S d i f d' k j = S f d' k j := if_neg (by omega)
theorem sDr_up {S : kI4} {d i : Nat} : upd (fun n => sDr S d i 5 d n 0) i (nI 0) = fun n => sDr S d (i + 1) 5 d n 0 := by
  funext n
  by_cases e : n = i
  · subst e
    simp [upd, sDr]
  · by_cases e2 : n < i
    · simp [upd, sDr, e, e2, Nat.lt_succ_of_lt e2]
    · simp [upd, sDr, e, e2, show ¬ n < i + 1 by omega]

set_option maxHeartbeats 4000000 in
set_option maxRecDepth 100000 in
theorem c_dropCopies {l : Launch} (htr : l.stackTraces = false) {E : kE} {A : Nat → Prop} {C : kC} {L : kL} {S : kI4} {N : kN3} (hX : isX E C L S N) (hO : okX S N) {d : Nat} (hd : d < 4)  : kM l yX1_dropCopies cX1_dropCopies 2 none 0 0 0 0 E A C L [.ref (L (5, d, 0))] (fun v C' L' => v = none ∧ L = L' ∧ kFr C L C' L ∧ isX E C' L (sDrop S d) N) := by
  refine kM.of htr (by decide) (Nat.le_of_ble_eq_true rfl) (fun Γ hl hR hN hnm X hE => ?_)
  refine k_lo (lo' := [(0, .ref (L (5, d, 0)))]) ⟨rfl, trivial⟩ ?_
  have loop : ∀ (m i : Nat) (C9 : kC), i + m = 40 → isX E C9 L (sDr S d i) N → kFr C L C9 L → kW Γ E A C9 L 0 0 2 [(0, .ref (L (5, d, 0))), (1, .int (nI i))] [] := by
    intro m
    induction m with
    | zero =>
      intro i C9 hi hX9 hfr
      have e40 : i = 40 := by omega
      subst e40
      refine k_iload_n X dX1_dropCopies_2 rfl rfl ?_
      refine k_bipush (v := (nI 40)) X dX1_dropCopies_3 (by decide) ?_
      refine k_icmp_ge (tgt := 21) X dX1_dropCopies_5 (by decide) (fun c5 => ?_) (fun c5 => absurd (nI_le (Nat.le_refl 40) (by decide)) c5)
      refine k_aload_n X dX1_dropCopies_21 rfl rfl ?_
      refine k_iconst (v := (nI 0)) X dX1_dropCopies_22 (by decide) ?_
      refine k_put1 X (hX9.2 d hd).1 (fs9 := [.int ((sDr S d 40) 4 d 0 0), .ref (L (6, d, 0)), .ref (L (7, d, 0)), .int (nI 0), .ref (L (8, d, 0)), .int ((sDr S d 40) 7 d 0 0), .ref (L (10, d, 0)), .int (nI (N 4 d 0)), .ref (L (12, d, 0))]) (q := (RX1, TX1, 9)) rfl inlX1 tyX1 tyX1_ok nmX1 3 (by decide) kb_42 (Or.inl rfl) (Or.inl rfl) rfl rfl rfl (Nat.le_of_ble_eq_true rfl) rfl dX1_dropCopies_23 ?_
      exact k_vret X hE dX1_dropCopies_26 (by first | omega | exact Nat.le_of_ble_eq_true rfl | (dsimp only; omega)) (by first | omega | exact Nat.le_of_ble_eq_true rfl | (dsimp only; omega)) ⟨rfl, rfl, hfr.up (by decide), isX.d5 (S' := sDrop S d) (N' := N) (L' := L) (kup_s.trans (by simp [kDev, sDrop, w4])) hX9 (fun f d' k z => kup_n (kneD z)) (fun _ _ _ _ => rfl) (fun f d' k j z => w4_n (by omega)) (fun _ _ _ _ => rfl)⟩
    | succ m ih =>
      intro i C9 hi hX9 hfr
      have hi2 : i < 40 := by omega
      refine k_iload_n X dX1_dropCopies_2 rfl rfl ?_
      refine k_bipush (v := (nI 40)) X dX1_dropCopies_3 (by decide) ?_
      refine k_icmp_ge (tgt := 21) X dX1_dropCopies_5 (by decide) (fun c5 => absurd c5 (nI_ge hi2 (by decide))) (fun c5 => ?_)
      refine k_aload_n X dX1_dropCopies_8 rfl rfl ?_
      refine k_get0 X (hX9.2 d hd).1 (q := (RX1, TX1, 9)) rfl inlX1 2 (by decide) kb_41 (Or.inl rfl) rfl rfl dX1_dropCopies_9 ?_
      refine k_iload_n X dX1_dropCopies_12 rfl rfl ?_
      refine k_iconst (v := (nI 0)) X dX1_dropCopies_13 (by decide) ?_
      refine k_zastN X (hX9.2 d hd).2.2.1 rfl hi2 (by decide) kzn0 dX1_dropCopies_14 ?_
      refine k_abs (fun C' => isX E C' L (sDr S d (i + 1)) N ∧ kFr C L C' L) ⟨isX.a7 (kup_s.trans (by rw [sDr_up])) hX9 (fun f d' k z => kup_n (kneD z)) (fun _ _ _ _ => rfl) (fun f d' k j z => by rw [sDr_n z, sDr_n z]) (fun _ _ _ _ => rfl), hfr.up (by decide)⟩ (fun C1 hC1 => ?_)
      refine k_iinc (v := (nI (i + 1))) X dX1_dropCopies_15 rfl (by rw [show Int32.ofInt 1 = nI 1 from by decide, nI_add]) (by rw [hN]; decide) ?_
      refine k_goto (tgt := 2) X dX1_dropCopies_18 (by decide) ?_
      exact k_lo (lo' := [(0, .ref (L (5, d, 0))), (1, .int (nI (i + 1)))]) ⟨rfl, rfl, trivial⟩ (ih (i + 1) C1 (by omega) hC1.1 hC1.2)
  refine k_iconst (v := (nI 0)) X dX1_dropCopies_0 (by decide) ?_
  refine k_istore_n X dX1_dropCopies_1 rfl (by rw [hN]; decide) ?_
  exact k_lo (lo' := [(0, .ref (L (5, d, 0))), (1, .int (nI 0))]) ⟨rfl, rfl, trivial⟩ (loop 40 0 C (by omega) (by rw [sDr_0]; exact hX) kFr.rf)

def sCopy (S : kI4) (d n : Nat) (g : Nat → Int32) : kI4 := fun f d' k j => if f = 8 ∧ d' = d ∧ k = n ∧ j < 4 then g j else S f d' k j
theorem sCopy_n {S : kI4} {d n f d' k j : Nat} {g : Nat → Int32} (z : ¬ (f = 8 ∧ d' = d ∧ k = n)) : sCopy S d n g f d' k j = S f d' k j := if_neg (by omega)
theorem sCopy_s {S : kI4} {d n j : Nat} {g : Nat → Int32} (h : j < 4) : sCopy S d n g 8 d n j = g j := if_pos ⟨rfl, rfl, rfl, h⟩
theorem sCopy_2 {S : kI4} {d n : Nat} {g g' : Nat → Int32} : sCopy (sCopy S d n g') d n g = sCopy S d n g := by
  funext f d' k j
  by_cases z : f = 8 ∧ d' = d ∧ k = n ∧ j < 4
  · simp [sCopy, z]
  · simp [sCopy, z]
def sHold (S : kI4) (d n : Nat) (g : Nat → Int32) : kI4 := if S 5 d n 0 = 0 then w4 (w4 (sCopy S d n g) 5 d n 0 (nI 1)) 6 d 0 0 (S 6 d 0 0 + nI 1) else sCopy S d n g
def nHold (N : kN3) (d n : Nat) : kN3 := if N 11 d n = 0 then w3 N 11 d n 1 else N
theorem nHold_n {N : kN3} {d n f d' k : Nat} (z : ¬ (f = 11 ∧ d' = d ∧ k = n)) : nHold N d n f d' k = N f d' k := by
  unfold nHold
  by_cases h : N 11 d n = 0
  · rw [if_pos h, w3_n z]
  · rw [if_neg h]
theorem okX.hold {S S' : kI4} {N : kN3} {d n : Nat} (h : okX S N) : okX S' (nHold N d n) := by
  refine ⟨by rw [nHold_n (by omega)]; exact h.1, fun d' hd' => ?_⟩
  have h2 := h.2 d' hd'
  rw [nHold_n (by omega), nHold_n (by omega), nHold_n (by omega), nHold_n (by omega)]
  exact ⟨h2.1, h2.2.1, h2.2.2.1, h2.2.2.2.1, fun i hi => by rw [nHold_n (by omega)]; exact h2.2.2.2.2 i hi⟩

theorem kupd_w4 {S : kI4} {d n : Nat} {x : Int32} : upd (fun m => S 5 d m 0) n x = fun m => w4 S 5 d n 0 x 5 d m 0 := by
  funext m
  by_cases e : m = n
  · subst e
    simp [upd, w4]
  · simp [upd, w4, e]
theorem kcps_up {E : kE} {L : kL} {N : kN3} {d n q9 : Nat} : (some (.inl (E.2.1 4, 40, .inr (.inr (.inr (.inr (va_up (fun m => if N 11 d m = 0 then none else some (L (16, d, m))) n (some q9))))))) : Option va_E) = some (kCps E (kup L (16, d, n) q9) (w3 N 11 d n 1) d) := by
  have h9 : va_up (fun m => if N 11 d m = 0 then none else some (L (16, d, m))) n (some q9) = fun m => if w3 N 11 d n 1 11 d m = 0 then none else some (kup L (16, d, n) q9 (16, d, m)) := by
    funext m
    by_cases e : m = n
    · subst e
      simp [va_up, w3, kup_s]
    · simp [va_up, w3, e, kup_n (kneT (fun z => e z.2.2) : ((16, d, m) : kT) ≠ (16, d, n))]
  unfold kCps
  rw [h9]
theorem k_aastF {Γ : kG} {E : kE} {A : Nat → Prop} {cc : ByteArray} {own : String} {C : kC} {L : kL} {cells slots pc : Nat} {lo : List (Nat × Value)} {rest : List Value} (X : kX Γ E A cc own) {t u : kT} {a v : Nat} {n n9 j ci : Nat} {nm : String} {f : Nat → Option Nat} {r : vw_C} {vs : List Value} (hC : C t = some (.inl (E.2.1 j, n, .inr (.inr (.inr (.inr f)))))) (hj : (kty E.2.1)[j]? = some (E.2.1 j, .object nm)) (ha : L t = a) (hu : C u = some (.inr (ci, vs))) (hv : L u = v) (hc : vwCl[ci]? = some r) (hca : r.1 = nm ∨ (r.1, nm) ∈ kCas) (h9 : n9 < n) (hn : n < 2 ^ 31) (hdg : decode cc pc = .ok (.aastore, 1)) (k9 : kW Γ E A (kup C t (some (.inl (E.2.1 j, n, .inr (.inr (.inr (.inr (va_up f n9 (some v))))))))) L cells slots (pc + 1) lo rest) : kW Γ E A C L cells slots pc lo (.ref v :: .int (nI n9) :: .ref a :: rest) := k_aastN X hC hj ha hu hv hc hca h9 hn hdg k9

set_option maxHeartbeats 4000000 in
set_option maxRecDepth 100000 in
theorem c_hold {l : Launch} (htr : l.stackTraces = false) {E : kE} {A : Nat → Prop} {C : kC} {L : kL} {S : kI4} {N : kN3} (hX : isX E C L S N) (hO : okX S N) {d : Nat} (hd : d < 4) {n : Nat} (hn : n < 40) {ff df kf : Nat} (hff : ff = 15 ∨ ff = 18) (g : Nat → Int32) (hg : C (ff, df, kf) = some (.inr (3, [.int (g 0), .int (g 1), .int (g 2), .int (g 3)]))) : kM l yX1_hold cX1_hold 4 none 2 32 1 4 E A C L [.ref (L (5, d, 0)), .int (nI n), .ref (L (ff, df, kf))] (fun v C' L' => v = none ∧ isX E C' L' (sHold S d n g) (nHold N d n) ∧ kFr C L C' L' ∧ ∀ t : kT, t.1 ≠ 16 → L' t = L t) := by
  refine kM.of htr (by decide) (Nat.le_of_ble_eq_true rfl) (fun Γ hl hR hN hnm X hE => ?_)
  refine k_lo (lo' := [(0, .ref (L (5, d, 0))), (1, .int (nI n)), (2, .ref (L (ff, df, kf)))]) ⟨rfl, rfl, rfl, trivial⟩ ?_
  have cont : ∀ (C1 : kC) (L1 : kL) (S1 : kI4) (N1 : kN3), isX E C1 L1 S1 N1 → N1 11 d n ≠ 0 → kFr C L C1 L1 → (∀ t : kT, t.1 ≠ 16 → L1 t = L t) → C1 (ff, df, kf) = some (.inr (3, [.int (g 0), .int (g 1), .int (g 2), .int (g 3)])) → sCopy S1 d n g = sCopy S d n g → nHold N d n = N1 → kW Γ E A C1 L1 1 4 37 [(0, .ref (L (5, d, 0))), (1, .int (nI n)), (2, .ref (L (ff, df, kf))), (3, .ref (L1 (16, d, n)))] [] := by
    intro C1 L1 S1 N1 hX1 hN1 hfr1 hL1 hg1 hS1 hNN
    refine k_aload_n X dX1_hold_37 rfl rfl ?_
    refine k_aload_n X dX1_hold_38 rfl rfl ?_
    refine k_callV (rest := []) X kv_X2_copyFrom kb_246 (c_X2_copyFromA X.tr (t := (16, d, n)) (u := (ff, df, kf)) rfl (hL1 _ (kn16 (by rcases hff with e | e <;> rw [e] <;> decide))) (kne1 (by rcases hff with e | e <;> rw [e] <;> decide)) ((hX1.2 d hd).2.2.2.2.2.2.1 n hN1) hg1) ((hX1.2 d hd).2.2.2.2.2.2.1 n hN1) rfl rfl rfl rfl rfl (Nat.le_of_ble_eq_true rfl) ⟨by rw [hR]; exact Nat.le_of_ble_eq_true rfl, by rw [hR]; exact Nat.le_of_ble_eq_true rfl⟩ ⟨by rw [hR]; exact Nat.le_of_ble_eq_true rfl, by rw [hR]; exact Nat.le_of_ble_eq_true rfl⟩ dX1_hold_39 (fun v39 C9 L9 h9 => ?_)
    obtain ⟨rfl, rfl, rfl⟩ := h9
    refine k_abs (fun C' => isX E C' L1 (sCopy S1 d n g) N1 ∧ kFr C L C' L1) ⟨isX.f16 (kup_s.trans (by simp only [kF, sCopy_s (show 0 < 4 by decide), sCopy_s (show 1 < 4 by decide), sCopy_s (show 2 < 4 by decide), sCopy_s (show 3 < 4 by decide)])) hX1 (fun f d' k z => kup_n (kneT z)) (fun _ _ _ _ => rfl) (fun f d' k j z => sCopy_n z) (fun _ _ _ _ => rfl), hfr1.up (by decide)⟩ (fun C2 hC2 => ?_)
    rw [hS1] at hC2
    refine k_aload_n X dX1_hold_42 rfl rfl ?_
    refine k_get0 X (hC2.1.2 d hd).1 (q := (RX1, TX1, 9)) rfl inlX1 2 (by decide) kb_41 (Or.inl rfl) (hL1 (5, d, 0) (kn16 (by decide))) rfl dX1_hold_43 ?_
    refine k_iload_n X dX1_hold_46 rfl rfl ?_
    refine k_zald X (hC2.1.2 d hd).2.2.1 rfl (vp_in_nI hn (by decide)) dX1_hold_47 ?_
    refine k_rw (y := S 5 d n 0) (by rw [nI_clamp (by omega)]; exact sCopy_n (by omega)) ?_
    refine k_if_ne (tgt := 68) X dX1_hold_48 (by decide) (fun c48 => ?_) (fun c48 => ?_)
    ·
      exact k_vret X hE dX1_hold_68 (by first | omega | exact Nat.le_of_ble_eq_true rfl | (dsimp only; omega)) (by first | omega | exact Nat.le_of_ble_eq_true rfl | (dsimp only; omega)) ⟨rfl, by rw [hNN]; unfold sHold; rw [if_neg c48]; exact hC2.1, hC2.2, hL1⟩
    ·
      refine k_aload_n X dX1_hold_51 rfl rfl ?_
      refine k_get0 X (hC2.1.2 d hd).1 (q := (RX1, TX1, 9)) rfl inlX1 2 (by decide) kb_41 (Or.inl rfl) (hL1 (5, d, 0) (kn16 (by decide))) rfl dX1_hold_52 ?_
      refine k_iload_n X dX1_hold_55 rfl rfl ?_
      refine k_iconst (v := (nI 1)) X dX1_hold_56 (by decide) ?_
      refine k_zastN X (hC2.1.2 d hd).2.2.1 rfl hn (by decide) kzn1 dX1_hold_57 ?_
      refine k_abs (fun C' => isX E C' L1 (w4 (sCopy S d n g) 5 d n 0 (nI 1)) N1 ∧ kFr C L C' L1) ⟨isX.a7 (kup_s.trans (by rw [kupd_w4])) hC2.1 (fun f d' k z => kup_n (kneD z)) (fun _ _ _ _ => rfl) (fun f d' k j z => w4_n (by omega)) (fun _ _ _ _ => rfl), hC2.2.up (by decide)⟩ (fun C3 hC3 => ?_)
      refine k_aload_n X dX1_hold_58 rfl rfl ?_
      refine k_dup X dX1_hold_59 rfl ?_
      refine k_get0 X (hC3.1.2 d hd).1 (q := (RX1, TX1, 9)) rfl inlX1 3 (by decide) kb_42 (Or.inl rfl) (hL1 (5, d, 0) (kn16 (by decide))) rfl dX1_hold_60 ?_
      refine k_iconst (v := (nI 1)) X dX1_hold_63 (by decide) ?_
      refine k_iadd X dX1_hold_64 ?_
      refine k_put1 X (hC3.1.2 d hd).1 (fs9 := [.int ((w4 (sCopy S d n g) 5 d n 0 (nI 1)) 4 d 0 0), .ref (L1 (6, d, 0)), .ref (L1 (7, d, 0)), .int (((w4 (sCopy S d n g) 5 d n 0 (nI 1)) 6 d 0 0) + (nI 1)), .ref (L1 (8, d, 0)), .int ((w4 (sCopy S d n g) 5 d n 0 (nI 1)) 7 d 0 0), .ref (L1 (10, d, 0)), .int (nI (N1 4 d 0)), .ref (L1 (12, d, 0))]) (q := (RX1, TX1, 9)) rfl inlX1 tyX1 tyX1_ok nmX1 3 (by decide) kb_42 (Or.inl rfl) (Or.inl rfl) (hL1 (5, d, 0) (kn16 (by decide))) rfl rfl (Nat.le_of_ble_eq_true rfl) rfl dX1_hold_65 ?_
      exact k_vret X hE dX1_hold_68 (by first | omega | exact Nat.le_of_ble_eq_true rfl | (dsimp only; omega)) (by first | omega | exact Nat.le_of_ble_eq_true rfl | (dsimp only; omega)) ⟨rfl, by rw [hNN]; unfold sHold; rw [if_pos c48]; exact isX.d5 (kup_s.trans (by simp only [kDev, w4_s, w4_n (show ¬ (4 = 6 ∧ d = d ∧ 0 = 0 ∧ 0 = 0) by omega), w4_n (show ¬ (7 = 6 ∧ d = d ∧ 0 = 0 ∧ 0 = 0) by omega)]; rw [show w4 (sCopy S d n g) 5 d n 0 (nI 1) 6 d 0 0 = S 6 d 0 0 from (w4_n (by omega)).trans (sCopy_n (by omega))])) hC3.1 (fun f d' k z => kup_n (kneD z)) (fun _ _ _ _ => rfl) (fun f d' k j z => w4_n (by omega)) (fun _ _ _ _ => rfl), hC3.2.up (by decide), hL1⟩
  refine k_iload_n X dX1_hold_0 rfl rfl ?_
  refine k_if_lt (tgt := 10) X dX1_hold_1 (by decide) (fun c1 => absurd c1 (nI_pos (by omega))) (fun c1 => ?_)
  refine k_iload_n X dX1_hold_4 rfl rfl ?_
  refine k_bipush (v := (nI 40)) X dX1_hold_5 (by decide) ?_
  refine k_icmp_lt (tgt := 11) X dX1_hold_7 (by decide) (fun c7 => ?_) (fun c7 => absurd (nI_lt hn (by decide)) c7)
  refine k_aload_n X dX1_hold_11 rfl rfl ?_
  refine k_get0 X (hX.2 d hd).1 (q := (RX1, TX1, 9)) rfl inlX1 1 (by decide) kb_39 (Or.inl rfl) rfl rfl dX1_hold_12 ?_
  refine k_iload_n X dX1_hold_15 rfl rfl ?_
  by_cases h11 : N 11 d n = 0
  ·
    refine k_aald X (hX.2 d hd).2.1 (nm := RX2) rfl rfl (vp_in_nI hn (by decide)) dX1_hold_16 (v := .null) (by rw [nI_clamp (by omega)]; simp only [if_pos h11, va_rf]) ?_
    refine k_astore_nN X dX1_hold_17 rfl (by rw [hN]; decide) ?_
    refine k_aload_nN X dX1_hold_18 rfl rfl ?_
    refine k_ifnonnullN X dX1_hold_19 ?_
    refine k_new0 X (16, d, n) (ci := 3) (q := (RX2, TX2, 4)) rfl inlX2 tyX2 tyX2_ok kb_38 kb_94 kb_95 (fs := [.int 0, .int 0, .int 0, .int 0]) (fun j hj => by rcases (show j = 0 ∨ j = 1 ∨ j = 2 ∨ j = 3 from by have : j < 4 := hj; omega) with rfl | rfl | rfl | rfl <;> rfl) dX1_hold_22 (by rw [hR]; exact Nat.le_of_ble_eq_true rfl) (by rw [hR]; exact Nat.le_of_ble_eq_true rfl) (fun q9 => ?_)
    refine k_dup X dX1_hold_25 rfl ?_
    refine k_callIN (rest := [.ref q9]) X ki_X2_init (host := RX5) (by decide +kernel) (c_X2_initA X.tr (t := (16, d, n)) (a := 0) (b := 0) (c := 0) (d := 0) kup_s kup_s) rfl rfl (Nat.le_of_ble_eq_true rfl) ⟨by rw [hR]; exact Nat.le_of_ble_eq_true rfl, by rw [hR]; exact Nat.le_of_ble_eq_true rfl⟩ ⟨by rw [hR]; exact Nat.le_of_ble_eq_true rfl, by rw [hR]; exact Nat.le_of_ble_eq_true rfl⟩ dX1_hold_26 (fun v26 C9 L9 h9 => ?_)
    obtain ⟨rfl, rfl, rfl⟩ := h9
    refine k_C (kup_kup).symm ?_
    refine k_astore_n X dX1_hold_29 rfl (by rw [hN]; decide) ?_
    refine k_aload_n X dX1_hold_30 rfl rfl ?_
    refine k_get0 X ((kup_n (kne1 (by decide))).trans (hX.2 d hd).1) (q := (RX1, TX1, 9)) rfl inlX1 1 (by decide) kb_39 (Or.inl rfl) ((kup_n (kne1 (by decide))).trans rfl) rfl dX1_hold_31 ?_
    refine k_iload_n X dX1_hold_34 rfl rfl ?_
    refine k_aload_n X dX1_hold_35 rfl rfl ?_
    refine k_aastF X (t := (6, d, 0)) (u := (16, d, n)) ((kup_n (kne1 (by decide))).trans (hX.2 d hd).2.1) (nm := RX2) rfl (kup_n (kne1 (by decide))) kup_s kup_s (r := (RX2, TX2, 4)) rfl (Or.inl rfl) hn (by decide) dX1_hold_36 ?_
    refine k_abs2 (fun C' L' => isX E C' L' (sCopy S d n (fun _ => nI 0)) (w3 N 11 d n 1) ∧ kFr C L C' L' ∧ (∀ t : kT, t.1 ≠ 16 → L' t = L t) ∧ L' (16, d, n) = q9 ∧ C' (ff, df, kf) = C (ff, df, kf)) ⟨?_, (kFr.rf.up (by decide)).upL (by decide) |>.up (by decide), fun t ht => kup_n (fun e => ht (congrArg Prod.fst e)), kup_s, by rw [kup_n (kne1 (by rcases hff with e | e <;> rw [e] <;> decide)), kup_n (kne1 (by rcases hff with e | e <;> rw [e] <;> decide))]⟩ (fun C1 L1 h1 => ?_)
    · exact isX.newc (d := d) (n := n) (by rw [w3_s]; decide) (kup_s.trans kcps_up) ((kup_n (kne1 (by decide))).trans (kup_s.trans (by simp only [kF, sCopy_s (show 0 < 4 by decide), sCopy_s (show 1 < 4 by decide), sCopy_s (show 2 < 4 by decide), sCopy_s (show 3 < 4 by decide)]))) hX (fun f d' k z => by rw [kup_n (kneD (by omega)), kup_n (kneT (by omega))]) (fun f d' k z => kup_n (kneT z)) (fun f d' k j z => sCopy_n z) (fun f d' k z => w3_n z)
    obtain ⟨hX1, hfr1, hL1, rfl, hg1⟩ := h1
    exact k_lo (lo' := [(0, .ref (L (5, d, 0))), (1, .int (nI n)), (2, .ref (L (ff, df, kf))), (3, .ref (L1 (16, d, n)))]) ⟨rfl, rfl, rfl, rfl, trivial⟩ (cont C1 L1 (sCopy S d n (fun _ => nI 0)) (w3 N 11 d n 1) hX1 (by rw [w3_s]; decide) hfr1 hL1 (hg1.trans hg) sCopy_2 (by unfold nHold; rw [if_pos h11]))
  ·
    refine k_aald X (hX.2 d hd).2.1 (nm := RX2) rfl rfl (vp_in_nI hn (by decide)) dX1_hold_16 (v := .ref (L (16, d, n))) (by rw [nI_clamp (by omega)]; simp only [if_neg h11, va_rf]) ?_
    refine k_astore_n X dX1_hold_17 rfl (by rw [hN]; decide) ?_
    refine k_aload_n X dX1_hold_18 rfl rfl ?_
    refine k_ifnonnull (tgt := 37) X dX1_hold_19 (by decide) ?_
    refine k_wide (Nat.zero_le 1) (Nat.zero_le 4) ?_
    exact k_lo (lo' := [(0, .ref (L (5, d, 0))), (1, .int (nI n)), (2, .ref (L (ff, df, kf))), (3, .ref (L (16, d, n)))]) ⟨rfl, rfl, rfl, rfl, trivial⟩ (cont C L S N hX h11 kFr.rf (fun _ _ => rfl) hg rfl (by unfold nHold; rw [if_neg h11]))
