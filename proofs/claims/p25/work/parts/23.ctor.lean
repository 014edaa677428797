theorem c_AL_initA {l : Launch} (htr : l.stackTraces = false) {E : kE} {A : Nat → Prop} {C : kC} {L : kL} {th : kT} {q0 : Nat} {a b : Int32} {v1 : Value} (ha : L th = q0) (h : C th = some (.inr (0, [.int a, v1, .int b]))) : kM l yJx4a65c_init_da8c8 cJx4a65c_init_da8c8 1 none 3 52 0 0 E A C L [.ref q0] (fun v C' L' => v = none ∧ L = L' ∧ C' = kup C th (some (.inr (0, [.int (nI 0), .ref E.2.2.1, .int b])))) := by
  subst ha
  exact c_AL_init htr h
/-- a fresh store -/
def S00 : kI4 := fun f _ _ _ => if f = 4 then nI 10 else nI 0
def N00 : kN3 := fun _ _ _ => 0
theorem kLs.e {E : kE} {C : kC} {L : kL} {fh fa d : Nat} {g : Nat → Nat} (h : C (fh, d, 0) = some (.inr (0, [.int (nI 0), .ref E.2.2.1, .int (nI 0)]))) : kLs E C L fh fa d 0 g :=
  ⟨0, E.2.2.1, h, Or.inl ⟨rfl, rfl, rfl, funext fun j => if_neg (Nat.not_lt_zero j)⟩⟩
theorem kfst0 {g : Nat → Nat} : kfst 0 g = fun _ => none := funext fun j => if_neg (Nat.not_lt_zero j)

/-- t isn't of device d's own -/
def kNd (d : Nat) (t : kT) : Prop := (t.1 ≤ 4 ∨ 12 < t.1) ∨ t.2.1 ≠ d
theorem kNd.n {d : Nat} {t : kT} (h : kNd d t) {f : Nat} (h1 : 5 ≤ f) (h2 : f ≤ 12) : t ≠ (f, d, 0) := fun e => by
  subst e
  rcases h with (h | h) | h
  · exact absurd h (by show ¬ f ≤ 4; omega)
  · exact absurd h (by show ¬ 12 < f; omega)
  · exact h rfl
theorem kdev0 {C : kC} {L : kL} {d p6 p7 p8 p10 p12 : Nat} (h : C (5, d, 0) = some (.inr (2, [.int (nI 10), .ref p6, .ref p7, .int (nI 0), .ref p8, .int (nI 0), .ref p10, .int (nI 0), .ref p12]))) (h6 : L (6, d, 0) = p6) (h7 : L (7, d, 0) = p7) (h8 : L (8, d, 0) = p8) (h10 : L (10, d, 0) = p10) (h12 : L (12, d, 0) = p12) : C (5, d, 0) = some (kDev L S00 N00 d) := by
  subst h6 h7 h8 h10 h12
  exact h

set_option maxHeartbeats 4000000 in
set_option maxRecDepth 100000 in
theorem c_X1_init {l : Launch} (htr : l.stackTraces = false) {E : kE} {A : Nat → Prop} {C : kC} {L : kL} {q0 d : Nat} {a0 a1 a2 a3 : Int32} {b0 b1 b2 b3 b4 : Value} (ha : L (5, d, 0) = q0) (h : C (5, d, 0) = some (.inr (2, [.int a0, b0, b1, .int a1, b2, .int a2, b3, .int a3, b4]))) : kM l yX1_init cX1_init 1 none 4 72 5 89 E A C L [.ref q0] (fun v C' L' => v = none ∧ isD E C' L' S00 N00 d ∧ (∀ t : kT, kNd d t → C' t = C t ∧ L' t = L t) ∧ L' (5, d, 0) = L (5, d, 0)) := by
  refine kM.of htr (by decide) (Nat.le_of_ble_eq_true rfl) (fun Γ hl hR hN hnm X hE => ?_)
  refine k_lo (lo' := [(0, .ref q0)]) ⟨rfl, trivial⟩ ?_
  refine k_aload_n X dX1_init_0 rfl rfl ?_
  refine k_objInit X kb_36 kb_8 kb_9 (by rw [hR]; exact Nat.le_of_ble_eq_true rfl) (by rw [hR]; exact Nat.le_of_ble_eq_true rfl) dX1_init_1 ?_
  refine k_aload_n X dX1_init_4 rfl rfl ?_
  refine k_bipush (v := (nI 10)) X dX1_init_5 (by decide) ?_
  refine k_put1 X h (fs9 := [.int (nI 10), b0, b1, .int a1, b2, .int a2, b3, .int a3, b4]) (q := (RX1, TX1, 9)) rfl inlX1 tyX1 tyX1_ok nmX1 0 (by decide) kb_37 (Or.inl rfl) (Or.inl rfl) ha rfl rfl (Nat.le_of_ble_eq_true rfl) rfl dX1_init_7 ?_
  refine k_aload_n X dX1_init_10 rfl rfl ?_
  refine k_bipush (v := (nI 40)) X dX1_init_11 (by decide) ?_
  refine k_newq X (6, d, 0) 4 (nm := RX2) 40 rfl (by simp) kb_38 (by decide) (by decide) (by decide) dX1_init_13 (by rw [hR]; exact Nat.le_of_ble_eq_true rfl) (by rw [hR]; exact Nat.le_of_ble_eq_true rfl) (fun q6 => ?_)
  refine k_put1 X ((kup_n (kne1 (by decide))).trans kup_s) (fs9 := [.int (nI 10), .ref q6, b1, .int a1, b2, .int a2, b3, .int a3, b4]) (q := (RX1, TX1, 9)) rfl inlX1 tyX1 tyX1_ok nmX1 1 (by decide) kb_39 (Or.inl rfl) (Or.inr ⟨hnm, rfl⟩) ((kup_n (kne1 (by decide))).trans ha) rfl rfl (Nat.le_of_ble_eq_true rfl) rfl dX1_init_16 ?_
  refine k_aload_n X dX1_init_19 rfl rfl ?_
  refine k_bipush (v := (nI 40)) X dX1_init_20 (by decide) ?_
  refine k_newz X (7, d, 0) 40 kb_40 (by decide) (by decide) (by decide) dX1_init_22 (by rw [hR]; exact Nat.le_of_ble_eq_true rfl) (by rw [hR]; exact Nat.le_of_ble_eq_true rfl) (fun q7 => ?_)
  refine k_put1 X ((kup_n (kne1 (by decide))).trans kup_s) (fs9 := [.int (nI 10), .ref q6, .ref q7, .int a1, b2, .int a2, b3, .int a3, b4]) (q := (RX1, TX1, 9)) rfl inlX1 tyX1 tyX1_ok nmX1 2 (by decide) kb_41 (Or.inl rfl) (Or.inr ⟨hnm, rfl⟩) ((kup_n (kne1 (by decide))).trans ((kup_n (kne1 (by decide))).trans ha)) rfl rfl (Nat.le_of_ble_eq_true rfl) rfl dX1_init_24 ?_
  refine k_aload_n X dX1_init_27 rfl rfl ?_
  refine k_iconst (v := (nI 0)) X dX1_init_28 (by decide) ?_
  refine k_putS X (fs9 := [.int (nI 10), .ref q6, .ref q7, .int (nI 0), b2, .int a2, b3, .int a3, b4]) (q := (RX1, TX1, 9)) rfl inlX1 tyX1 tyX1_ok nmX1 3 (by decide) kb_42 (Or.inl rfl) (Or.inl rfl) ((kup_n (kne1 (by decide))).trans ((kup_n (kne1 (by decide))).trans ha)) rfl rfl (Nat.le_of_ble_eq_true rfl) rfl dX1_init_29 ?_
  refine k_aload_n X dX1_init_32 rfl rfl ?_
  refine k_new0 X (8, d, 0) (ci := 0) (q := (RJx4a65c, TJx4a65c, 3)) rfl inlJx4a65c tyJx4a65c tyJx4a65c_ok kb_43 kb_11 kb_12 (fs := [.int 0, .null, .int (nI 0)]) (fun j hj => by rcases (show j = 0 ∨ j = 1 ∨ j = 2 from by have : j < 3 := hj; omega) with rfl | rfl | rfl <;> rfl) dX1_init_33 (by rw [hR]; exact Nat.le_of_ble_eq_true rfl) (by rw [hR]; exact Nat.le_of_ble_eq_true rfl) (fun q8 => ?_)
  refine k_dup X dX1_init_36 rfl ?_
  refine k_callI (rest := [.ref q8, .ref q0]) X ki_Jx4a65c_init_da8c8 kb_49 (c_AL_initA X.tr (th := (8, d, 0)) kup_s kup_s) rfl rfl (Nat.le_of_ble_eq_true rfl) ⟨by rw [hR]; exact Nat.le_of_ble_eq_true rfl, by rw [hR]; exact Nat.le_of_ble_eq_true rfl⟩ ⟨by rw [hR]; exact Nat.le_of_ble_eq_true rfl, by rw [hR]; exact Nat.le_of_ble_eq_true rfl⟩ dX1_init_37 (fun v37 C9 L9 h9 => ?_)
  obtain ⟨rfl, rfl, rfl⟩ := h9
  refine k_C (kup_kup).symm ?_
  refine k_put1 X ((kup_n (kne1 (by decide))).trans kup_s) (fs9 := [.int (nI 10), .ref q6, .ref q7, .int (nI 0), .ref q8, .int a2, b3, .int a3, b4]) (q := (RX1, TX1, 9)) rfl inlX1 tyX1 tyX1_ok nmX1 4 (by decide) kb_44 (Or.inl rfl) (Or.inr ⟨hnm, rfl⟩) ((kup_n (kne1 (by decide))).trans ((kup_n (kne1 (by decide))).trans ((kup_n (kne1 (by decide))).trans ha))) rfl rfl (Nat.le_of_ble_eq_true rfl) rfl dX1_init_40 ?_
  refine k_aload_n X dX1_init_43 rfl rfl ?_
  refine k_iconst (v := (nI 0)) X dX1_init_44 (by decide) ?_
  refine k_putS X (fs9 := [.int (nI 10), .ref q6, .ref q7, .int (nI 0), .ref q8, .int (nI 0), b3, .int a3, b4]) (q := (RX1, TX1, 9)) rfl inlX1 tyX1 tyX1_ok nmX1 5 (by decide) kb_45 (Or.inl rfl) (Or.inl rfl) ((kup_n (kne1 (by decide))).trans ((kup_n (kne1 (by decide))).trans ((kup_n (kne1 (by decide))).trans ha))) rfl rfl (Nat.le_of_ble_eq_true rfl) rfl dX1_init_45 ?_
  refine k_aload_n X dX1_init_48 rfl rfl ?_
  refine k_new0 X (10, d, 0) (ci := 0) (q := (RJx4a65c, TJx4a65c, 3)) rfl inlJx4a65c tyJx4a65c tyJx4a65c_ok kb_43 kb_11 kb_12 (fs := [.int 0, .null, .int (nI 0)]) (fun j hj => by rcases (show j = 0 ∨ j = 1 ∨ j = 2 from by have : j < 3 := hj; omega) with rfl | rfl | rfl <;> rfl) dX1_init_49 (by rw [hR]; exact Nat.le_of_ble_eq_true rfl) (by rw [hR]; exact Nat.le_of_ble_eq_true rfl) (fun q10 => ?_)
  refine k_dup X dX1_init_52 rfl ?_
  refine k_callI (rest := [.ref q10, .ref q0]) X ki_Jx4a65c_init_da8c8 kb_49 (c_AL_initA X.tr (th := (10, d, 0)) kup_s kup_s) rfl rfl (Nat.le_of_ble_eq_true rfl) ⟨by rw [hR]; exact Nat.le_of_ble_eq_true rfl, by rw [hR]; exact Nat.le_of_ble_eq_true rfl⟩ ⟨by rw [hR]; exact Nat.le_of_ble_eq_true rfl, by rw [hR]; exact Nat.le_of_ble_eq_true rfl⟩ dX1_init_53 (fun v53 C9 L9 h9 => ?_)
  obtain ⟨rfl, rfl, rfl⟩ := h9
  refine k_C (kup_kup).symm ?_
  refine k_put1 X ((kup_n (kne1 (by decide))).trans kup_s) (fs9 := [.int (nI 10), .ref q6, .ref q7, .int (nI 0), .ref q8, .int (nI 0), .ref q10, .int a3, b4]) (q := (RX1, TX1, 9)) rfl inlX1 tyX1 tyX1_ok nmX1 6 (by decide) kb_46 (Or.inl rfl) (Or.inr ⟨hnm, rfl⟩) ((kup_n (kne1 (by decide))).trans ((kup_n (kne1 (by decide))).trans ((kup_n (kne1 (by decide))).trans ((kup_n (kne1 (by decide))).trans ha)))) rfl rfl (Nat.le_of_ble_eq_true rfl) rfl dX1_init_56 ?_
  refine k_aload_n X dX1_init_59 rfl rfl ?_
  refine k_iconst (v := (nI 0)) X dX1_init_60 (by decide) ?_
  refine k_putS X (fs9 := [.int (nI 10), .ref q6, .ref q7, .int (nI 0), .ref q8, .int (nI 0), .ref q10, .int (nI 0), b4]) (q := (RX1, TX1, 9)) rfl inlX1 tyX1 tyX1_ok nmX1 7 (by decide) kb_47 (Or.inl rfl) (Or.inl rfl) ((kup_n (kne1 (by decide))).trans ((kup_n (kne1 (by decide))).trans ((kup_n (kne1 (by decide))).trans ((kup_n (kne1 (by decide))).trans ha)))) rfl rfl (Nat.le_of_ble_eq_true rfl) rfl dX1_init_61 ?_
  refine k_aload_n X dX1_init_64 rfl rfl ?_
  refine k_new0 X (12, d, 0) (ci := 0) (q := (RJx4a65c, TJx4a65c, 3)) rfl inlJx4a65c tyJx4a65c tyJx4a65c_ok kb_43 kb_11 kb_12 (fs := [.int 0, .null, .int (nI 0)]) (fun j hj => by rcases (show j = 0 ∨ j = 1 ∨ j = 2 from by have : j < 3 := hj; omega) with rfl | rfl | rfl <;> rfl) dX1_init_65 (by rw [hR]; exact Nat.le_of_ble_eq_true rfl) (by rw [hR]; exact Nat.le_of_ble_eq_true rfl) (fun q12 => ?_)
  refine k_dup X dX1_init_68 rfl ?_
  refine k_callI (rest := [.ref q12, .ref q0]) X ki_Jx4a65c_init_da8c8 kb_49 (c_AL_initA X.tr (th := (12, d, 0)) kup_s kup_s) rfl rfl (Nat.le_of_ble_eq_true rfl) ⟨by rw [hR]; exact Nat.le_of_ble_eq_true rfl, by rw [hR]; exact Nat.le_of_ble_eq_true rfl⟩ ⟨by rw [hR]; exact Nat.le_of_ble_eq_true rfl, by rw [hR]; exact Nat.le_of_ble_eq_true rfl⟩ dX1_init_69 (fun v69 C9 L9 h9 => ?_)
  obtain ⟨rfl, rfl, rfl⟩ := h9
  refine k_C (kup_kup).symm ?_
  refine k_put1 X ((kup_n (kne1 (by decide))).trans kup_s) (fs9 := [.int (nI 10), .ref q6, .ref q7, .int (nI 0), .ref q8, .int (nI 0), .ref q10, .int (nI 0), .ref q12]) (q := (RX1, TX1, 9)) rfl inlX1 tyX1 tyX1_ok nmX1 8 (by decide) kb_48 (Or.inl rfl) (Or.inr ⟨hnm, rfl⟩) ((kup_n (kne1 (by decide))).trans ((kup_n (kne1 (by decide))).trans ((kup_n (kne1 (by decide))).trans ((kup_n (kne1 (by decide))).trans ((kup_n (kne1 (by decide))).trans ha))))) rfl rfl (Nat.le_of_ble_eq_true rfl) rfl dX1_init_72 ?_
  exact k_vret X hE dX1_init_75 (by first | omega | exact Nat.le_of_ble_eq_true rfl | (dsimp only; omega)) (by first | omega | exact Nat.le_of_ble_eq_true rfl | (dsimp only; omega)) ⟨rfl, ⟨kdev0 kup_s ((kup_n (kne1 (by decide))).trans ((kup_n (kne1 (by decide))).trans ((kup_n (kne1 (by decide))).trans ((kup_n (kne1 (by decide))).trans kup_s)))) ((kup_n (kne1 (by decide))).trans ((kup_n (kne1 (by decide))).trans ((kup_n (kne1 (by decide))).trans kup_s))) ((kup_n (kne1 (by decide))).trans ((kup_n (kne1 (by decide))).trans kup_s)) ((kup_n (kne1 (by decide))).trans kup_s) kup_s, ((kup_n (kne1 (by decide))).trans ((kup_n (kne1 (by decide))).trans ((kup_n (kne1 (by decide))).trans ((kup_n (kne1 (by decide))).trans ((kup_n (kne1 (by decide))).trans ((kup_n (kne1 (by decide))).trans ((kup_n (kne1 (by decide))).trans ((kup_n (kne1 (by decide))).trans ((kup_n (kne1 (by decide))).trans kup_s))))))))), ((kup_n (kne1 (by decide))).trans ((kup_n (kne1 (by decide))).trans ((kup_n (kne1 (by decide))).trans ((kup_n (kne1 (by decide))).trans ((kup_n (kne1 (by decide))).trans ((kup_n (kne1 (by decide))).trans ((kup_n (kne1 (by decide))).trans kup_s))))))), kLs.e ((kup_n (kne1 (by decide))).trans ((kup_n (kne1 (by decide))).trans ((kup_n (kne1 (by decide))).trans ((kup_n (kne1 (by decide))).trans ((kup_n (kne1 (by decide))).trans kup_s))))), kLs.e ((kup_n (kne1 (by decide))).trans ((kup_n (kne1 (by decide))).trans ((kup_n (kne1 (by decide))).trans kup_s))), kLs.e ((kup_n (kne1 (by decide))).trans kup_s), fun n h => absurd rfl h, fun k h => absurd h (Nat.not_lt_zero k), fun k h => absurd h (Nat.not_lt_zero k)⟩, fun t h => ⟨by simp only [kup_n (h.n (f := 5) (by decide) (by decide)), kup_n (h.n (f := 6) (by decide) (by decide)), kup_n (h.n (f := 7) (by decide) (by decide)), kup_n (h.n (f := 8) (by decide) (by decide)), kup_n (h.n (f := 10) (by decide) (by decide)), kup_n (h.n (f := 12) (by decide) (by decide))], by simp only [kup_n (h.n (f := 6) (by decide) (by decide)), kup_n (h.n (f := 7) (by decide) (by decide)), kup_n (h.n (f := 8) (by decide) (by decide)), kup_n (h.n (f := 10) (by decide) (by decide)), kup_n (h.n (f := 12) (by decide) (by decide))]⟩, by simp only [kup_n (kne1 (by decide) : ((5, d, 0) : kT) ≠ (6, d, 0)), kup_n (kne1 (by decide) : ((5, d, 0) : kT) ≠ (7, d, 0)), kup_n (kne1 (by decide) : ((5, d, 0) : kT) ≠ (8, d, 0)), kup_n (kne1 (by decide) : ((5, d, 0) : kT) ≠ (10, d, 0)), kup_n (kne1 (by decide) : ((5, d, 0) : kT) ≠ (12, d, 0))]⟩

/-- a store whose first i devices are there -/
def kJn (E : kE) (C : kC) (L : kL) (i : Nat) : Prop := ((C (1, 0, 0) = some (.inr (6, [.ref (L (2, 0, 0)), .ref (L (4, 0, 0)), .int (nI 0)])) ∧ C (60, 0, 0) = none) ∧ C (2, 0, 0) = some (.inr (0, [.int (nI 0), .ref E.2.2.1, .int (nI 0)])) ∧ C (4, 0, 0) = some (.inl (E.2.1 5, 4, .inr (.inr (.inr (.inr (kfst i (fun d => L (5, d, 0)))))))) ∧ ∀ d, d < i → isD E C L S00 N00 d)
theorem kJn.x {E : kE} {C : kC} {L : kL} (h : kJn E C L 4) : isX E C L S00 N00 := ⟨⟨h.1, kLs.e h.2.1, h.2.2.1, fun i hi => absurd hi (Nat.not_lt_zero i)⟩, h.2.2.2⟩

theorem kst0 {C : kC} {L : kL} {p2 p4 : Nat} (h : C (1, 0, 0) = some (.inr (6, [.ref p2, .ref p4, .int (nI 0)]))) (h2 : L (2, 0, 0) = p2) (h4 : L (4, 0, 0) = p4) : C (1, 0, 0) = some (.inr (6, [.ref (L (2, 0, 0)), .ref (L (4, 0, 0)), .int (nI 0)])) := by
  subst h2 h4
  exact h

theorem kJn.up {E : kE} {C C9 : kC} {L L9 : kL} {i q9 : Nat} (hJ : kJn E C L i) (hi : i < 4) (hk : ∀ t : kT, kNd i t → C9 t = C t ∧ L9 t = L t) (hD : isD E C9 L9 S00 N00 i) (hq : L9 (5, i, 0) = q9) : kJn E (kup C9 (4, 0, 0) (some (.inl (E.2.1 5, 4, .inr (.inr (.inr (.inr (va_up (kfst i (fun d => L (5, d, 0))) i (some q9))))))))) L9 (i + 1) := by
  have o : ∀ f k, f ≤ 4 ∨ f = 60 → kNd i (f, 0, k) := fun f k h => Or.inl (by rcases h with h | h; { exact Or.inl h }; { exact Or.inr (by show 12 < f; omega) })
  refine ⟨⟨?_, ?_⟩, ?_, ?_, fun d hd => ?_⟩
  · rw [kup_n (kne1 (by decide)), (hk _ (o 1 0 (by decide))).1, (hk _ (o 2 0 (by decide))).2, (hk _ (o 4 0 (by decide))).2]
    exact hJ.1.1
  · rw [kup_n (kne1 (by decide)), (hk _ (o 60 0 (by decide))).1]
    exact hJ.1.2
  · rw [kup_n (kne1 (by decide)), (hk _ (o 2 0 (by decide))).1]
    exact hJ.2.1
  · rw [kup_s, kfst_up (g' := fun d => L9 (5, d, 0)) (fun j hj => ?_) hq]
    exact (hk _ (Or.inr (show j ≠ i by omega))).2
  · by_cases e : d = i
    · subst e
      exact hD.keep (fun f k h1 _ _ _ => kup_n (kne1 (by omega))) (fun _ _ _ _ _ _ => rfl) (fun _ _ _ _ _ => rfl) (fun _ _ _ _ => rfl)
    · exact (hJ.2.2.2 d (by omega)).keep (fun f k h1 _ _ _ => (kup_n (kne1 (by omega))).trans (hk _ (Or.inr e)).1) (fun f k _ _ _ _ => (hk _ (Or.inr e)).2) (fun _ _ _ _ _ => rfl) (fun _ _ _ _ => rfl)

set_option maxHeartbeats 4000000 in
set_option maxRecDepth 100000 in
theorem c_X5_init {l : Launch} (htr : l.stackTraces = false) {E : kE} {A : Nat → Prop} {C : kC} {L : kL} {q0 : Nat} {a0 : Int32} {b0 b1 : Value} (ha : L (1, 0, 0) = q0) (h : C (1, 0, 0) = some (.inr (6, [b0, b1, .int a0]))) (h60 : C (60, 0, 0) = none) : kM l yX5_init cX5_init 2 none 5 92 26 399 E A C L [.ref q0] (fun v C' L' => v = none ∧ isX E C' L' S00 N00 ∧ kFr C L C' L' ∧ L' (1, 0, 0) = L (1, 0, 0)) := by
  refine kM.of htr (by decide) (Nat.le_of_ble_eq_true rfl) (fun Γ hl hR hN hnm X hE => ?_)
  refine k_lo (lo' := [(0, .ref q0)]) ⟨rfl, trivial⟩ ?_
  have loop : ∀ (m i : Nat) (C8 : kC) (L8 : kL), i + m = 4 → kJn E C8 L8 i → kFr C L C8 L8 → L8 (1, 0, 0) = L (1, 0, 0) → kW Γ E A C8 L8 (2 + 6 * i) (7 + 98 * i) 30 [(0, .ref (L8 (1, 0, 0))), (1, .int (nI i))] [] := by
    intro m
    induction m with
    | zero =>
      intro i C8 L8 hi hJ hfr8 hL8
      have e4 : i = 4 := by omega
      subst e4
      refine k_iload_n X dX5_init_30 rfl rfl ?_
      refine k_iconst (v := (nI 4)) X dX5_init_31 (by decide) ?_
      refine k_icmp_ge (tgt := 54) X dX5_init_32 (by decide) (fun c32 => ?_) (fun c32 => absurd (nI_le (Nat.le_refl 4) (by decide)) c32)
      exact k_vret X hE dX5_init_54 (by first | omega | exact Nat.le_of_ble_eq_true rfl | (dsimp only; omega)) (by first | omega | exact Nat.le_of_ble_eq_true rfl | (dsimp only; omega)) ⟨rfl, kJn.x hJ, hfr8, hL8⟩
    | succ m ih =>
      intro i C8 L8 hi hJ hfr8 hL8
      have hi2 : i < 4 := by omega
      refine k_iload_n X dX5_init_30 rfl rfl ?_
      refine k_iconst (v := (nI 4)) X dX5_init_31 (by decide) ?_
      refine k_icmp_ge (tgt := 54) X dX5_init_32 (by decide) (fun c32 => absurd c32 (nI_ge hi2 (by decide))) (fun c32 => ?_)
      refine k_aload_n X dX5_init_35 rfl rfl ?_
      refine k_get0 X hJ.1.1 (q := (RX5, TX5, 3)) rfl inlX5 1 (by decide) kb_15 (Or.inl rfl) rfl rfl dX5_init_36 ?_
      refine k_iload_n X dX5_init_39 rfl rfl ?_
      refine k_new0 X (5, i, 0) (ci := 2) (q := (RX1, TX1, 9)) rfl inlX1 tyX1 tyX1_ok kb_14 kb_17 kb_18 (fs := [.int 0, .null, .null, .int 0, .null, .int 0, .null, .int 0, .null]) (fun j hj => by rcases (show j = 0 ∨ j = 1 ∨ j = 2 ∨ j = 3 ∨ j = 4 ∨ j = 5 ∨ j = 6 ∨ j = 7 ∨ j = 8 from by have : j < 9 := hj; omega) with rfl | rfl | rfl | rfl | rfl | rfl | rfl | rfl | rfl <;> rfl) dX5_init_40 (by rw [hR]; dsimp only; omega) (by rw [hR]; dsimp only; omega) (fun q9 => ?_)
      refine k_dup X dX5_init_43 rfl ?_
      refine k_callIN (rest := [.ref q9, .int (nI i), .ref (L8 (4, 0, 0))]) X ki_X1_init (host := RX5) (by decide +kernel) (c_X1_init X.tr (d := i) kup_s kup_s) rfl rfl (Nat.le_of_ble_eq_true rfl) ⟨by rw [hR]; exact Nat.le_of_ble_eq_true rfl, by rw [hR]; exact Nat.le_of_ble_eq_true rfl⟩ ⟨by rw [hR]; dsimp only; omega, by rw [hR]; dsimp only; omega⟩ dX5_init_44 (fun v44 C9 L9 h9 => ?_)
      obtain ⟨rfl, hD9, hk9, hq9⟩ := h9
      rw [kup_s] at hq9
      have hk : ∀ t : kT, kNd i t → C9 t = C8 t ∧ L9 t = L8 t := fun t h => ⟨(hk9 t h).1.trans (kup_n (h.n (f := 5) (by decide) (by decide))), (hk9 t h).2.trans (kup_n (h.n (f := 5) (by decide) (by decide)))⟩
      have k1 := hk (1, 0, 0) (Or.inl (Or.inl (show (1 : Nat) ≤ 4 by decide)))
      have k4 := hk (4, 0, 0) (Or.inl (Or.inl (show (4 : Nat) ≤ 4 by decide)))
      refine k_aastN X (t := (4, 0, 0)) (u := (5, i, 0)) (j := 5) (k4.1.trans hJ.2.2.1) (nm := RX1) rfl k4.2 hD9.1 hq9 (ci := 2) (r := (RX1, TX1, 9)) rfl (Or.inl rfl) hi2 (by decide) dX5_init_47 ?_
      refine k_abs (fun C' => kJn E C' L9 (i + 1) ∧ kFr C L C' L9) ⟨kJn.up hJ hi2 hk hD9 hq9, ?_⟩ (fun C7 h7 => ?_)
      · exact fun t ht => ⟨(kup_n (kn30 ht (by decide))).trans ((hk t (Or.inl (Or.inr (by omega)))).1.trans (hfr8 t ht).1), (hk t (Or.inl (Or.inr (by omega)))).2.trans (hfr8 t ht).2⟩
      refine k_iinc (v := (nI (i + 1))) X dX5_init_48 rfl (by rw [show Int32.ofInt 1 = nI 1 from by decide, nI_add]) (by rw [hN]; decide) ?_
      refine k_goto (tgt := 30) X dX5_init_51 (by decide) ?_
      refine k_lo (lo' := [(0, .ref (L9 (1, 0, 0))), (1, .int (nI (i + 1)))]) ⟨kLR k1.2, rfl, trivial⟩ ?_
      exact k_wide (by first | omega | (dsimp only; omega)) (by first | omega | (dsimp only; omega)) (ih (i + 1) C7 L9 (by omega) h7.1 h7.2 (k1.2.trans hL8))
  refine k_aload_n X dX5_init_0 rfl rfl ?_
  refine k_objInit X kb_7 kb_8 kb_9 (by rw [hR]; dsimp only; omega) (by rw [hR]; exact Nat.le_of_ble_eq_true rfl) dX5_init_1 ?_
  refine k_aload_n X dX5_init_4 rfl rfl ?_
  refine k_new0 X (2, 0, 0) (ci := 0) (q := (RJx4a65c, TJx4a65c, 3)) rfl inlJx4a65c tyJx4a65c tyJx4a65c_ok kb_10 kb_11 kb_12 (fs := [.int 0, .null, .int (nI 0)]) (fun j hj => by rcases (show j = 0 ∨ j = 1 ∨ j = 2 from by have : j < 3 := hj; omega) with rfl | rfl | rfl <;> rfl) dX5_init_5 (by rw [hR]; dsimp only; omega) (by rw [hR]; dsimp only; omega) (fun q2 => ?_)
  refine k_dup X dX5_init_8 rfl ?_
  refine k_callI (rest := [.ref q2, .ref q0]) X ki_Jx4a65c_init_da8c8 kb_19 (c_AL_initA X.tr (th := (2, 0, 0)) kup_s kup_s) rfl rfl (Nat.le_of_ble_eq_true rfl) ⟨by rw [hR]; exact Nat.le_of_ble_eq_true rfl, by rw [hR]; exact Nat.le_of_ble_eq_true rfl⟩ ⟨by rw [hR]; dsimp only; omega, by rw [hR]; dsimp only; omega⟩ dX5_init_9 (fun v9 C9 L9 h9 => ?_)
  obtain ⟨rfl, rfl, rfl⟩ := h9
  refine k_C (kup_kup).symm ?_
  refine k_put1 X ((kup_n (kne1 (by decide))).trans h) (fs9 := [.ref q2, b1, .int a0]) (q := (RX5, TX5, 3)) rfl inlX5 tyX5 tyX5_ok nmX5 0 (by decide) kb_13 (Or.inl rfl) (Or.inr ⟨hnm, rfl⟩) ((kup_n (kne1 (by decide))).trans ha) rfl rfl (Nat.le_of_ble_eq_true rfl) rfl dX5_init_12 ?_
  refine k_aload_n X dX5_init_15 rfl rfl ?_
  refine k_iconst (v := (nI 4)) X dX5_init_16 (by decide) ?_
  refine k_newq X (4, 0, 0) 5 (nm := RX1) 4 rfl (by simp) kb_14 (by decide) (by decide) (by decide) dX5_init_17 (by rw [hR]; dsimp only; omega) (by rw [hR]; dsimp only; omega) (fun q4 => ?_)
  refine k_put1 X ((kup_n (kne1 (by decide))).trans kup_s) (fs9 := [.ref q2, .ref q4, .int a0]) (q := (RX5, TX5, 3)) rfl inlX5 tyX5 tyX5_ok nmX5 1 (by decide) kb_15 (Or.inl rfl) (Or.inr ⟨hnm, rfl⟩) ((kup_n (kne1 (by decide))).trans ((kup_n (kne1 (by decide))).trans ha)) rfl rfl (Nat.le_of_ble_eq_true rfl) rfl dX5_init_20 ?_
  refine k_aload_n X dX5_init_23 rfl rfl ?_
  refine k_iconst (v := (nI 0)) X dX5_init_24 (by decide) ?_
  refine k_putS X (fs9 := [.ref q2, .ref q4, .int (nI 0)]) (q := (RX5, TX5, 3)) rfl inlX5 tyX5 tyX5_ok nmX5 2 (by decide) kb_16 (Or.inl rfl) (Or.inl rfl) ((kup_n (kne1 (by decide))).trans ((kup_n (kne1 (by decide))).trans ha)) rfl rfl (Nat.le_of_ble_eq_true rfl) rfl dX5_init_25 ?_
  refine k_iconst (v := (nI 0)) X dX5_init_28 (by decide) ?_
  refine k_istore_n X dX5_init_29 rfl (by rw [hN]; decide) ?_
  refine k_abs2 (fun C' L' => kJn E C' L' 0 ∧ kFr C L C' L' ∧ L' (1, 0, 0) = L (1, 0, 0)) ⟨⟨⟨?_, ?_⟩, ?_, ?_, fun d hd => absurd hd (Nat.not_lt_zero d)⟩, ?_, ?_⟩ (fun C7 L7 h7 => ?_)
  · exact kst0 kup_s ((kup_n (kne1 (by decide))).trans kup_s) kup_s
  · simp only [kup_n (kne1 (by decide) : ((60, 0, 0) : kT) ≠ (1, 0, 0)), kup_n (kne1 (by decide) : ((60, 0, 0) : kT) ≠ (2, 0, 0)), kup_n (kne1 (by decide) : ((60, 0, 0) : kT) ≠ (4, 0, 0)), h60]
  · exact ((kup_n (kne1 (by decide))).trans ((kup_n (kne1 (by decide))).trans ((kup_n (kne1 (by decide))).trans kup_s)))
  · rw [kfst0]; exact ((kup_n (kne1 (by decide))).trans kup_s)
  · exact fun t ht => ⟨by simp only [kup_n (kn30 ht (by decide) : t ≠ (1, 0, 0)), kup_n (kn30 ht (by decide) : t ≠ (2, 0, 0)), kup_n (kn30 ht (by decide) : t ≠ (4, 0, 0))], by simp only [kup_n (kn30 ht (by decide) : t ≠ (2, 0, 0)), kup_n (kn30 ht (by decide) : t ≠ (4, 0, 0))]⟩
  · simp only [kup_n (kne1 (by decide) : ((1, 0, 0) : kT) ≠ (2, 0, 0)), kup_n (kne1 (by decide) : ((1, 0, 0) : kT) ≠ (4, 0, 0))]
  refine k_lo (lo' := [(0, .ref (L7 (1, 0, 0))), (1, .int (nI 0))]) ⟨by rw [h7.2.2, ha]; rfl, rfl, trivial⟩ ?_
  exact k_wide (by first | omega | (dsimp only; omega)) (by first | omega | (dsimp only; omega)) (loop 4 0 C7 L7 (by omega) h7.1 h7.2.1 h7.2.2)
