/-- other names for the world, with what is known of it -/
theorem k_abs {Γ : kG} {E : kE} {A : Nat → Prop} {C : kC} {L : kL} {cells slots pc : Nat} {lo : List (Nat × Value)} {st : List Value} (Q : kC → Prop) (hq : Q C) (k9 : ∀ C', Q C' → kW Γ E A C' L cells slots pc lo st) : kW Γ E A C L cells slots pc lo st := k9 C hq
theorem k_abs2 {Γ : kG} {E : kE} {A : Nat → Prop} {C : kC} {L : kL} {cells slots pc : Nat} {lo : List (Nat × Value)} {st : List Value} (Q : kC → kL → Prop) (hq : Q C L) (k9 : ∀ C' L', Q C' L' → kW Γ E A C' L' cells slots pc lo st) : kW Γ E A C L cells slots pc lo st := k9 C L hq
theorem k_zastN {Γ : kG} {E : kE} {A : Nat → Prop} {cc : ByteArray} {own : String} {C : kC} {L : kL} {cells slots pc : Nat} {lo : List (Nat × Value)} {rest : List Value} (X : kX Γ E A cc own) {t : kT} {a : Nat} {n n9 : Nat} {f : Nat → Int32} {x : Int32} (hC : C t = some (.inl (E.2.1 1, n, .inl f))) (ha : L t = a) (h9 : n9 < n) (hn : n < 2 ^ 31) (hx9 : vp_nar .boolean x = x) (hdg : decode cc pc = .ok (.bastore, 1)) (k9 : kW Γ E A (kup C t (some (.inl (E.2.1 1, n, .inl (upd f n9 x))))) L cells slots (pc + 1) lo rest) : kW Γ E A C L cells slots pc lo (.int x :: .int (nI n9) :: .ref a :: rest) :=
  k_zast X hC ha (vp_in_nI h9 hn) hdg (by rw [nI_clamp (by omega), hx9]; exact k9)
theorem kzn0 : vp_nar .boolean (nI 0) = nI 0 := by decide
theorem kzn1 : vp_nar .boolean (nI 1) = nI 1 := by decide

theorem c_X2_initA {l : Launch} (htr : l.stackTraces = false) {E : kE} {A : Nat → Prop} {C : kC} {L : kL} {t : kT} {q0 : Nat} {a b c d : Int32} (ha : L t = q0) (h : C t = some (.inr (3, [.int a, .int b, .int c, .int d]))) : kM l yX2_init cX2_init 1 none 1 12 0 0 E A C L [.ref q0] (fun v C' L' => v = none ∧ L = L' ∧ C' = kup C t (some (.inr (3, [.int (nI 0), .int (nI 0), .int (nI 0), .int (nI 0)])))) := by
  subst ha
  exact c_X2_init htr h
theorem c_X0_initA {l : Launch} (htr : l.stackTraces = false) {E : kE} {A : Nat → Prop} {C : kC} {L : kL} {t : kT} {q0 : Nat} {a b c d e : Int32} (j f x y : Int32) (ha : L t = q0) (h : C t = some (.inr (1, [.int a, .int b, .int c, .int d, .int e]))) : kM l yX0_init cX0_init 5 none 1 12 0 0 E A C L [.ref q0, .int j, .int f, .int x, .int y] (fun v C' L' => v = none ∧ L = L' ∧ C' = kup C t (some (.inr (1, [.int j, .int f, .int x, .int y, .int (-1)])))) := by
  subst ha
  exact c_X0_init htr j f x y h
theorem c_Ls_sizeA {l : Launch} (htr : l.stackTraces = false) {E : kE} {A : Nat → Prop} {C : kC} {L : kL} {fh fa d n q0 : Nat} {g : Nat → Nat} (ha : L (fh, d, 0) = q0) (h : kLs E C L fh fa d n g) : kM l yJx4a65c_size_8abf5 cJx4a65c_size_8abf5 1 (some .int) 0 0 0 0 E A C L [.ref q0] (fun v C' L' => v = some (.int (nI n)) ∧ L = L' ∧ C = C') := by
  subst ha
  exact c_Ls_size htr h
theorem c_Ls_addA {l : Launch} (htr : l.stackTraces = false) {E : kE} {A : Nat → Prop} {C : kC} {L : kL} {fh fa d n ft dt kt ci q0 q1 : Nat} {g : Nat → Nat} {r : vw_C} {vsb : List Value} (ha0 : L (fh, d, 0) = q0) (ha1 : L (ft, dt, kt) = q1) (h : kLs E C L fh fa d n g) (hn : n ≤ 1000) (h60 : C (60, 0, 0) = none) (hc : vwCl[ci]? = some r) (hcas : (r.1, "java/lang/Object") ∈ kCas) (hb : C (ft, dt, kt) = some (.inr (ci, vsb))) (hf1 : fh ≠ fa) (hf2 : fh ≠ 60) (hf3 : fa ≠ 60) (ht1 : ft ≠ 60) (ht2 : ft ≠ fh) (ht3 : ft ≠ fa)
    (hel : ∀ i, i < n → ∃ (fz dz kz : Nat) (vs : List Value), fz ≠ 60 ∧ fz ≠ fh ∧ L (fz, dz, kz) = g i ∧ C (fz, dz, kz) = some (.inr (ci, vs))) :
    kM l yJx4a65c_add_9ea2d cJx4a65c_add_9ea2d 2 (some .boolean) 6 150 1 (10 + n + n / 2) E A C L [.ref q0, .ref q1] (fun v C' L' => v = some (.int (nI 1)) ∧ (∀ t, t ≠ (fh, d, 0) → t ≠ (fa, d, 0) → C' t = C t) ∧ (∀ t, t ≠ (fa, d, 0) → L' t = L t) ∧ ∀ g' : Nat → Nat, (∀ j, j < n → g' j = g j) → g' n = q1 → kLs E C' L' fh fa d (n + 1) g') := by
  subst ha0
  subst ha1
  exact c_Ls_add htr h hn h60 hc hcas hb hf1 hf2 hf3 ht1 ht2 ht3 hel

set_option maxHeartbeats 4000000 in
set_option maxRecDepth 100000 in
theorem c_X4_init {l : Launch} (htr : l.stackTraces = false) {E : kE} {A : Nat → Prop} {C : kC} {L : kL} {t tF : kT} {q0 : Nat} {a : Int32} {v1 : Value} (htf : t ≠ tF) (ha : L t = q0) (h : C t = some (.inr (5, [.int a, v1]))) : kM l yX4_init cX4_init 1 none 2 32 1 4 E A C L [.ref q0] (fun v C' L' => ∃ q : Nat, v = none ∧ L' = kup L tF q ∧ C' t = some (.inr (5, [.int (-1), .ref q])) ∧ C' tF = some (.inr (3, [.int (nI 0), .int (nI 0), .int (nI 0), .int (nI 0)])) ∧ ∀ x, x ≠ t → x ≠ tF → C' x = C x) := by
  refine kM.of htr (by decide) (Nat.le_of_ble_eq_true rfl) (fun Γ hl hR hN hnm X hE => ?_)
  refine k_lo (lo' := [(0, .ref q0)]) ⟨rfl, trivial⟩ ?_
  refine k_aload_n X dX4_init_0 rfl rfl ?_
  refine k_objInit X kb_320 kb_8 kb_9 (by rw [hR]; exact Nat.le_of_ble_eq_true rfl) (by rw [hR]; exact Nat.le_of_ble_eq_true rfl) dX4_init_1 ?_
  refine k_aload_n X dX4_init_4 rfl rfl ?_
  refine k_iconst (v := (-1)) X dX4_init_5 (by decide) ?_
  refine k_put1 X h (fs9 := [.int (-1), v1]) (q := (RX4, TX4, 2)) rfl inlX4 tyX4 tyX4_ok nmX4 0 (by decide) kb_321 (Or.inl rfl) (Or.inl rfl) ha rfl rfl (Nat.le_of_ble_eq_true rfl) rfl dX4_init_6 ?_
  refine k_aload_n X dX4_init_9 rfl rfl ?_
  refine k_new0 X tF (ci := 3) (q := (RX2, TX2, 4)) rfl inlX2 tyX2 tyX2_ok kb_322 kb_94 kb_95 (fs := [.int 0, .int 0, .int 0, .int 0]) (fun j hj => by rcases (show j = 0 ∨ j = 1 ∨ j = 2 ∨ j = 3 from by have : j < 4 := hj; omega) with rfl | rfl | rfl | rfl <;> rfl) dX4_init_10 (by rw [hR]; exact Nat.le_of_ble_eq_true rfl) (by rw [hR]; exact Nat.le_of_ble_eq_true rfl) (fun q9 => ?_)
  refine k_dup X dX4_init_13 rfl ?_
  refine k_callIN (rest := [.ref q9, .ref q0]) X ki_X2_init (host := RX5) (by decide +kernel) (c_X2_initA X.tr (t := tF) (a := 0) (b := 0) (c := 0) (d := 0) kup_s kup_s) rfl rfl (Nat.le_of_ble_eq_true rfl) ⟨by rw [hR]; exact Nat.le_of_ble_eq_true rfl, by rw [hR]; exact Nat.le_of_ble_eq_true rfl⟩ ⟨by rw [hR]; exact Nat.le_of_ble_eq_true rfl, by rw [hR]; exact Nat.le_of_ble_eq_true rfl⟩ dX4_init_14 (fun v14 C9 L9 h9 => ?_)
  obtain ⟨rfl, rfl, rfl⟩ := h9
  refine k_C (kup_kup).symm ?_
  refine k_put1 X ((kup_n htf).trans kup_s) (fs9 := [.int (-1), .ref q9]) (q := (RX4, TX4, 2)) rfl inlX4 tyX4 tyX4_ok nmX4 1 (by decide) kb_323 (Or.inl rfl) (Or.inr ⟨hnm, rfl⟩) ((kup_n htf).trans ha) rfl rfl (Nat.le_of_ble_eq_true rfl) rfl dX4_init_17 ?_
  exact k_vret X hE dX4_init_20 (by first | omega | exact Nat.le_of_ble_eq_true rfl | (dsimp only; omega)) (by first | omega | exact Nat.le_of_ble_eq_true rfl | (dsimp only; omega)) ⟨q9, rfl, rfl, kup_s, ((kup_n htf.symm).trans kup_s), fun x9 h1 h2 => by simp only [kup_n h1, kup_n h2]⟩

set_option maxHeartbeats 4000000 in
set_option maxRecDepth 100000 in
theorem c_X3_init {l : Launch} (htr : l.stackTraces = false) {E : kE} {A : Nat → Prop} {C : kC} {L : kL} {t tF : kT} {q0 : Nat} {a b : Int32} {v1 : Value} (cr si : Int32) (htf : t ≠ tF) (ha : L t = q0) (h : C t = some (.inr (4, [.int a, .int b, v1]))) : kM l yX3_init cX3_init 3 none 2 32 1 4 E A C L [.ref q0, .int cr, .int si] (fun v C' L' => ∃ q : Nat, v = none ∧ L' = kup L tF q ∧ C' t = some (.inr (4, [.int si, .int cr, .ref q])) ∧ C' tF = some (.inr (3, [.int (nI 0), .int (nI 0), .int (nI 0), .int (nI 0)])) ∧ ∀ x, x ≠ t → x ≠ tF → C' x = C x) := by
  refine kM.of htr (by decide) (Nat.le_of_ble_eq_true rfl) (fun Γ hl hR hN hnm X hE => ?_)
  refine k_lo (lo' := [(0, .ref q0), (1, .int cr), (2, .int si)]) ⟨rfl, rfl, rfl, trivial⟩ ?_
  refine k_aload_n X dX3_init_0 rfl rfl ?_
  refine k_objInit X kb_92 kb_8 kb_9 (by rw [hR]; exact Nat.le_of_ble_eq_true rfl) (by rw [hR]; exact Nat.le_of_ble_eq_true rfl) dX3_init_1 ?_
  refine k_aload_n X dX3_init_4 rfl rfl ?_
  refine k_new0 X tF (ci := 3) (q := (RX2, TX2, 4)) rfl inlX2 tyX2 tyX2_ok kb_93 kb_94 kb_95 (fs := [.int 0, .int 0, .int 0, .int 0]) (fun j hj => by rcases (show j = 0 ∨ j = 1 ∨ j = 2 ∨ j = 3 from by have : j < 4 := hj; omega) with rfl | rfl | rfl | rfl <;> rfl) dX3_init_5 (by rw [hR]; exact Nat.le_of_ble_eq_true rfl) (by rw [hR]; exact Nat.le_of_ble_eq_true rfl) (fun q9 => ?_)
  refine k_dup X dX3_init_8 rfl ?_
  refine k_callIN (rest := [.ref q9, .ref q0]) X ki_X2_init (host := RX5) (by decide +kernel) (c_X2_initA X.tr (t := tF) (a := 0) (b := 0) (c := 0) (d := 0) kup_s kup_s) rfl rfl (Nat.le_of_ble_eq_true rfl) ⟨by rw [hR]; exact Nat.le_of_ble_eq_true rfl, by rw [hR]; exact Nat.le_of_ble_eq_true rfl⟩ ⟨by rw [hR]; exact Nat.le_of_ble_eq_true rfl, by rw [hR]; exact Nat.le_of_ble_eq_true rfl⟩ dX3_init_9 (fun v9 C9 L9 h9 => ?_)
  obtain ⟨rfl, rfl, rfl⟩ := h9
  refine k_C (kup_kup).symm ?_
  refine k_put1 X ((kup_n htf).trans h) (fs9 := [.int a, .int b, .ref q9]) (q := (RX3, TX3, 3)) rfl inlX3 tyX3 tyX3_ok nmX3 2 (by decide) kb_96 (Or.inl rfl) (Or.inr ⟨hnm, rfl⟩) ((kup_n htf).trans ha) rfl rfl (Nat.le_of_ble_eq_true rfl) rfl dX3_init_12 ?_
  refine k_aload_n X dX3_init_15 rfl rfl ?_
  refine k_iload_n X dX3_init_16 rfl rfl ?_
  refine k_putS X (fs9 := [.int a, .int cr, .ref q9]) (q := (RX3, TX3, 3)) rfl inlX3 tyX3 tyX3_ok nmX3 1 (by decide) kb_97 (Or.inl rfl) (Or.inl rfl) ((kup_n htf).trans ha) rfl rfl (Nat.le_of_ble_eq_true rfl) rfl dX3_init_17 ?_
  refine k_aload_n X dX3_init_20 rfl rfl ?_
  refine k_iload_n X dX3_init_21 rfl rfl ?_
  refine k_putS X (fs9 := [.int si, .int cr, .ref q9]) (q := (RX3, TX3, 3)) rfl inlX3 tyX3 tyX3_ok nmX3 0 (by decide) kb_98 (Or.inl rfl) (Or.inr ⟨hnm, rfl⟩) ((kup_n htf).trans ha) rfl rfl (Nat.le_of_ble_eq_true rfl) rfl dX3_init_22 ?_
  exact k_vret X hE dX3_init_25 (by first | omega | exact Nat.le_of_ble_eq_true rfl | (dsimp only; omega)) (by first | omega | exact Nat.le_of_ble_eq_true rfl | (dsimp only; omega)) ⟨q9, rfl, rfl, kup_s, ((kup_n htf.symm).trans kup_s), fun x9 h1 h2 => by simp only [kup_n h1, kup_n h2]⟩
