def sMk (S : kI4) (d m : Nat) : kI4 := fun f' d' k' j => if f' = 9 ∧ d' = d ∧ k' = m then -1 else if f' = 10 ∧ d' = d ∧ k' = m then nI 0 else S f' d' k' j
theorem sMk_n {S : kI4} {d m f' d' k' j : Nat} (z : ¬ ((f' = 9 ∨ f' = 10) ∧ d' = d ∧ k' = m)) : sMk S d m f' d' k' j = S f' d' k' j := by
  unfold sMk
  rw [if_neg (by omega), if_neg (by omega)]
def sMk1 (S : kI4) (d m : Nat) : kI4 := w4 (sMk S d m) 7 d 0 0 (S 7 d 0 0 + nI 1)
def sMake (S : kI4) (N : kN3) (d : Nat) (x : Int32) : kI4 := sAct (sMk1 S d (N 2 d 0)) d (N 3 d 0) (nI (1000 + N 2 d 0)) (-1) x (nI 0) (-1)
def nMk (N : kN3) (d : Nat) : kN3 := w3 N 2 d 0 (N 2 d 0 + 1)
def nMake (N : kN3) (d : Nat) : kN3 := w3 (nMk N d) 3 d 0 (N 3 d 0 + 1)

set_option maxHeartbeats 4000000 in
set_option maxRecDepth 100000 in
theorem c_makeJob {l : Launch} (htr : l.stackTraces = false) {E : kE} {A : Nat → Prop} {C : kC} {L : kL} {S : kI4} {N : kN3} (hX : isX E C L S N) (hO : okX S N) {d : Nat} (hd : d < 4) (hn2 : N 2 d 0 < 512) (hn3 : N 3 d 0 < 512) (x : Int32) : kM l yX1_makeJob cX1_makeJob 3 (some .int) 7 171 5 1600 E A C L [.ref (L (5, d, 0)), .int x] (fun v C' L' => v = some (.int (nI (1000 + N 2 d 0))) ∧ isX E C' L' (sMake S N d x) (nMake N d) ∧ kFr C L C' L' ∧ ∀ t : kT, t.1 ≤ 8 → L' t = L t) := by
  obtain ⟨vl8, hl8⟩ := (hX.2 d hd).2.2.2.1.hd
  obtain ⟨vl10, hl10⟩ := (hX.2 d hd).2.2.2.2.1.hd
  obtain ⟨vl12, hl12⟩ := (hX.2 d hd).2.2.2.2.2.1.hd
  have hb2 := (hO.2 d hd).1
  have hb3 := (hO.2 d hd).2.1
  have hb4 := (hO.2 d hd).2.2.1
  have hb5 := (hO.2 d hd).2.2.2.1
  have hb6 := (hO.2 d hd).2.2.2.2
  refine kM.of htr (by decide) (Nat.le_of_ble_eq_true rfl) (fun Γ hl hR hN hnm X hE => ?_)
  refine k_lo (lo' := [(0, .ref (L (5, d, 0))), (1, .int x)]) ⟨rfl, rfl, trivial⟩ ?_
  refine k_sipush (v := (nI 1000)) X dX1_makeJob_0 (by decide) ?_
  refine k_aload_n X dX1_makeJob_3 rfl rfl ?_
  refine k_get0 X (hX.2 d hd).1 (q := (RX1, TX1, 9)) rfl inlX1 4 (by decide) kb_44 (Or.inl rfl) rfl rfl dX1_makeJob_4 ?_
  refine k_callV (rest := [.int (nI 1000)]) X kv_Jx4a65c_size_8abf5 kb_275 (c_Ls_size X.tr (hX.2 d hd).2.2.2.1) hl8 rfl rfl rfl rfl rfl (Nat.le_of_ble_eq_true rfl) ⟨by rw [hR]; exact Nat.le_of_ble_eq_true rfl, by rw [hR]; exact Nat.le_of_ble_eq_true rfl⟩ ⟨by rw [hR]; dsimp only; omega, by rw [hR]; dsimp only; omega⟩ dX1_makeJob_7 (fun v7 C9 L9 h9 => ?_)
  obtain ⟨rfl, rfl, rfl⟩ := h9
  refine k_iaddN X dX1_makeJob_10 ?_
  refine k_istore_n X dX1_makeJob_11 rfl (by rw [hN]; decide) ?_
  refine k_aload_n X dX1_makeJob_12 rfl rfl ?_
  refine k_get0 X (hX.2 d hd).1 (q := (RX1, TX1, 9)) rfl inlX1 4 (by decide) kb_44 (Or.inl rfl) rfl rfl dX1_makeJob_13 ?_
  refine k_new0 X (17, d, N 2 d 0) (ci := 5) (q := (RX4, TX4, 2)) rfl inlX4 tyX4 tyX4_ok kb_315 kb_316 kb_317 (fs := [.int 0, .null]) (fun j hj => by rcases (show j = 0 ∨ j = 1 from by have : j < 2 := hj; omega) with rfl | rfl <;> rfl) dX1_makeJob_16 (by rw [hR]; dsimp only; omega) (by rw [hR]; dsimp only; omega) (fun q9 => ?_)
  refine k_dup X dX1_makeJob_19 rfl ?_
  refine k_callIN (rest := [.ref q9, .ref (L (8, d, 0))]) X ki_X4_init (host := RX5) (by decide +kernel) (c_X4_init X.tr (t := (17, d, N 2 d 0)) (tF := (18, d, N 2 d 0)) (kne1 (by decide)) kup_s kup_s) rfl rfl (Nat.le_of_ble_eq_true rfl) ⟨by rw [hR]; exact Nat.le_of_ble_eq_true rfl, by rw [hR]; exact Nat.le_of_ble_eq_true rfl⟩ ⟨by rw [hR]; dsimp only; omega, by rw [hR]; dsimp only; omega⟩ dX1_makeJob_20 (fun v20 C9 L9 h9 => ?_)
  obtain ⟨q8, rfl, rfl, i1, i2, i3⟩ := h9
  have hCk : ∀ t : kT, t ≠ (17, d, N 2 d 0) → t ≠ (18, d, N 2 d 0) → C9 t = C t := fun t h1 h2 => (i3 t h1 h2).trans (kup_n h1)
  have hLk : ∀ t : kT, t ≠ (17, d, N 2 d 0) → t ≠ (18, d, N 2 d 0) → kup (kup L (17, d, N 2 d 0) q9) (18, d, N 2 d 0) q8 t = L t := fun t h1 h2 => (kup_n h2).trans (kup_n h1)
  have hq9 : kup (kup L (17, d, N 2 d 0) q9) (18, d, N 2 d 0) q8 (17, d, N 2 d 0) = q9 := (kup_n (kne1 (by decide))).trans kup_s
  refine k_callV (rest := []) X kv_Jx4a65c_add_9ea2d kb_298 (c_Ls_addA X.tr (fh := 8) (fa := 9) (d := d) (ft := 17) (dt := d) (kt := N 2 d 0) (ci := 5) (r := (RX4, TX4, 2)) (hLk _ (kne1 (by decide)) (kne1 (by decide))) hq9 ((hX.2 d hd).2.2.2.1.keep (hCk _ (kne1 (by decide)) (kne1 (by decide))) (hCk _ (kne1 (by decide)) (kne1 (by decide))) (hLk _ (kne1 (by decide)) (kne1 (by decide))) (fun j hj => hLk (17, d, j) (kne3 (by omega)) (kne1 (by decide)))) (by omega) ((hCk _ (kne1 (by decide)) (kne1 (by decide))).trans hX.1.1.2) rfl (by simp [kCas]) i1 (by decide) (by decide) (by decide) (by decide) (by decide) (by decide) (fun i hi => ⟨17, d, i, _, by decide, by decide, rfl, (hCk _ (kne3 (by omega)) (kne1 (by decide))).trans ((hX.2 d hd).2.2.2.2.2.2.2.1 i hi).1⟩)) ((hCk _ (kne1 (by decide)) (kne1 (by decide))).trans hl8) rfl rfl (hLk _ (kne1 (by decide)) (kne1 (by decide))) rfl rfl (Nat.le_of_ble_eq_true rfl) ⟨by rw [hR]; exact Nat.le_of_ble_eq_true rfl, by rw [hR]; exact Nat.le_of_ble_eq_true rfl⟩ ⟨by rw [hR]; dsimp only; omega, by rw [hR]; dsimp only; omega⟩ dX1_makeJob_23 (fun v23 C9 L9 h9 => ?_)
  obtain ⟨rfl, e1, e2, e3⟩ := h9
  refine k_abs2 (fun C' L' => isX E C' L' (sMk S d (N 2 d 0)) (nMk N d) ∧ (∀ t : kT, t.1 ≠ 8 → t.1 ≠ 9 → t.1 ≠ 17 → t.1 ≠ 18 → C' t = C t) ∧ (∀ t : kT, t.1 ≠ 9 → t.1 ≠ 17 → t.1 ≠ 18 → L' t = L t)) ⟨isX.addM (d := d) (e3 _ (fun j hj => e2 _ (kne1 (by decide))) ((e2 _ (kne1 (by decide))).trans hq9)) w3_s ((e1 _ (kne1 (by decide)) (kne1 (by decide))).trans (i1.trans ?_)) ((e1 _ (kne1 (by decide)) (kne1 (by decide))).trans (i2.trans (by simp [kF, sMk]))) hX (fun f d' k z => (e1 _ (kneD (by omega)) (kneD (by omega))).trans (hCk _ (kneT (by omega)) (kneT (by omega)))) (fun f d' k z => (e2 _ (kneD (by omega))).trans (hLk _ (kneT (by omega)) (kneT (by omega)))) (fun f d' k j z => sMk_n z) (fun f d' k z => w3_n (by omega)), fun t h1 h2 h3 h4 => (e1 t (fun e => h1 (congrArg Prod.fst e)) (fun e => h2 (congrArg Prod.fst e))).trans (hCk t (fun e => h3 (congrArg Prod.fst e)) (fun e => h4 (congrArg Prod.fst e))), fun t h2 h3 h4 => (e2 t (fun e => h2 (congrArg Prod.fst e))).trans (hLk t (fun e => h3 (congrArg Prod.fst e)) (fun e => h4 (congrArg Prod.fst e)))⟩ (fun C1 L1 h1 => ?_)
  · rw [e2 (18, d, N 2 d 0) (kne1 (by decide)), kup_s]
    simp [sMk]
  obtain ⟨hX1, hC1, hL1⟩ := h1
  refine k_pop X dX1_makeJob_26 rfl ?_
  refine k_aload_n X dX1_makeJob_27 rfl rfl ?_
  refine k_dup X dX1_makeJob_28 rfl ?_
  refine k_get0 X (hX1.2 d hd).1 (q := (RX1, TX1, 9)) rfl inlX1 5 (by decide) kb_45 (Or.inl rfl) (hL1 (5, d, 0) (show (5 : Nat) ≠ 9 by decide) (show (5 : Nat) ≠ 17 by decide) (show (5 : Nat) ≠ 18 by decide)) rfl dX1_makeJob_29 ?_
  refine k_iconst (v := (nI 1)) X dX1_makeJob_32 (by decide) ?_
  refine k_iadd X dX1_makeJob_33 ?_
  refine k_put1 X (hX1.2 d hd).1 (fs9 := [.int ((sMk S d (N 2 d 0)) 4 d 0 0), .ref (L1 (6, d, 0)), .ref (L1 (7, d, 0)), .int ((sMk S d (N 2 d 0)) 6 d 0 0), .ref (L1 (8, d, 0)), .int (((sMk S d (N 2 d 0)) 7 d 0 0) + (nI 1)), .ref (L1 (10, d, 0)), .int (nI ((nMk N d) 4 d 0)), .ref (L1 (12, d, 0))]) (q := (RX1, TX1, 9)) rfl inlX1 tyX1 tyX1_ok nmX1 5 (by decide) kb_45 (Or.inl rfl) (Or.inl rfl) (hL1 (5, d, 0) (show (5 : Nat) ≠ 9 by decide) (show (5 : Nat) ≠ 17 by decide) (show (5 : Nat) ≠ 18 by decide)) rfl rfl (Nat.le_of_ble_eq_true rfl) rfl dX1_makeJob_34 ?_
  refine k_abs (fun C' => isX E C' L1 (sMk1 S d (N 2 d 0)) (nMk N d) ∧ (∀ t : kT, t.1 ≠ 5 → C' t = C1 t)) ⟨isX.d5 (kup_s.trans (by simp [kDev, sMk1, sMk, w4])) hX1 (fun f d' k z => kup_n (kneD z)) (fun _ _ _ _ => rfl) (fun f d' k j z => w4_n (by omega)) (fun _ _ _ _ => rfl), fun t h1 => kup_n (fun e => h1 (congrArg Prod.fst e))⟩ (fun C2 h2 => ?_)
  refine k_aload_n X dX1_makeJob_37 rfl rfl ?_
  refine k_get0 X (h2.1.2 d hd).1 (q := (RX1, TX1, 9)) rfl inlX1 6 (by decide) kb_46 (Or.inl rfl) (hL1 (5, d, 0) (show (5 : Nat) ≠ 9 by decide) (show (5 : Nat) ≠ 17 by decide) (show (5 : Nat) ≠ 18 by decide)) rfl dX1_makeJob_38 ?_
  refine k_new0 X (19, d, N 3 d 0) (ci := 1) (q := (RX0, TX0, 5)) rfl inlX0 tyX0 tyX0_ok kb_285 kb_286 kb_287 (fs := [.int 0, .int 0, .int 0, .int 0, .int 0]) (fun j hj => by rcases (show j = 0 ∨ j = 1 ∨ j = 2 ∨ j = 3 ∨ j = 4 from by have : j < 5 := hj; omega) with rfl | rfl | rfl | rfl | rfl <;> rfl) dX1_makeJob_41 (by rw [hR]; dsimp only; omega) (by rw [hR]; dsimp only; omega) (fun q7 => ?_)
  refine k_dup X dX1_makeJob_44 rfl ?_
  refine k_iload_n X dX1_makeJob_45 rfl rfl ?_
  refine k_iconst (v := (-1)) X dX1_makeJob_46 (by decide) ?_
  refine k_iload_n X dX1_makeJob_47 rfl rfl ?_
  refine k_iconst (v := (nI 0)) X dX1_makeJob_48 (by decide) ?_
  refine k_callI (rest := [.ref q7, .ref (L1 (10, d, 0))]) X ki_X0_init kb_289 (c_X0_initA X.tr (t := (19, d, N 3 d 0)) (a := 0) (b := 0) (c := 0) (d := 0) (e := 0) (nI (1000 + (N 2 d 0))) (-1) x (nI 0) kup_s kup_s) rfl rfl (Nat.le_of_ble_eq_true rfl) ⟨by rw [hR]; exact Nat.le_of_ble_eq_true rfl, by rw [hR]; exact Nat.le_of_ble_eq_true rfl⟩ ⟨by rw [hR]; dsimp only; omega, by rw [hR]; dsimp only; omega⟩ dX1_makeJob_49 (fun v49 C9 L9 h9 => ?_)
  obtain ⟨rfl, rfl, rfl⟩ := h9
  refine k_C (kup_kup).symm ?_
  have n3 : nMk N d 3 d 0 = N 3 d 0 := w3_n (by omega)
  have kl10 := (h2.1.2 d hd).2.2.2.2.1
  rw [n3] at kl10
  obtain ⟨vl10b, hl10b⟩ := kl10.hd
  refine k_callV (rest := []) X kv_Jx4a65c_add_9ea2d kb_298 (c_Ls_addA X.tr (fh := 10) (fa := 11) (d := d) (ft := 19) (dt := d) (kt := N 3 d 0) (ci := 1) (r := (RX0, TX0, 5)) (kup_n (kne1 (by decide))) kup_s (kl10.keep (kup_n (kne1 (by decide))) (kup_n (kne1 (by decide))) (kup_n (kne1 (by decide))) (fun j hj => kup_n (kne3 (by omega)))) (by omega) ((kup_n (kne1 (by decide))).trans h2.1.1.1.2) rfl (by simp [kCas]) kup_s (by decide) (by decide) (by decide) (by decide) (by decide) (by decide) (fun i hi => ⟨19, d, i, _, by decide, by decide, rfl, (kup_n (kne3 (by omega))).trans ((h2.1.2 d hd).2.2.2.2.2.2.2.2 i (by rw [n3]; exact hi))⟩)) ((kup_n (kne1 (by decide))).trans hl10b) rfl rfl (kup_n (kne1 (by decide))) rfl rfl (Nat.le_of_ble_eq_true rfl) ⟨by rw [hR]; exact Nat.le_of_ble_eq_true rfl, by rw [hR]; exact Nat.le_of_ble_eq_true rfl⟩ ⟨by rw [hR]; dsimp only; omega, by rw [hR]; dsimp only; omega⟩ dX1_makeJob_52 (fun v52 C9 L9 h9 => ?_)
  obtain ⟨rfl, e1, e2, e3⟩ := h9
  refine k_pop X dX1_makeJob_55 rfl ?_
  refine k_iload_n X dX1_makeJob_56 rfl rfl ?_
  exact k_iret X hE dX1_makeJob_57 (by first | omega | exact Nat.le_of_ble_eq_true rfl | (dsimp only; omega)) (by first | omega | exact Nat.le_of_ble_eq_true rfl | (dsimp only; omega)) ⟨rfl, isX.addA (d := d) (by rw [n3]; exact e3 _ (fun j hj => e2 _ (kne1 (by decide))) ((e2 _ (kne1 (by decide))).trans kup_s)) (by rw [n3]; exact w3_s) (by rw [n3]; exact (e1 _ (kne1 (by decide)) (kne1 (by decide))).trans (kup_s.trans kAct_s)) (fun i hi => by rw [n3]; rw [show nMk N d 6 d i = N 6 d i from w3_n (by omega)]; rw [show nMk N d 5 d 0 = N 5 d 0 from w3_n (by omega)] at hi; exact hb6 i hi) h2.1 (fun f d' k z => by rw [n3] at z; exact (e1 _ (kneD (by omega)) (kneD (by omega))).trans (kup_n (kneT (by omega)))) (fun f d' k z => by rw [n3] at z; exact (e2 _ (kneD (by omega))).trans (kup_n (kneT (by omega)))) (fun f d' k j z => by rw [n3] at z; exact sAct_n z) (fun f d' k z => w3_n (by omega)), fun t ht => ⟨(e1 t (kn30 ht (by decide)) (kn30 ht (by decide))).trans ((kup_n (kn30 ht (by decide))).trans ((h2.2 t (by omega)).trans (hC1 t (by omega) (by omega) (by omega) (by omega)))), (e2 t (kn30 ht (by decide))).trans ((kup_n (kn30 ht (by decide))).trans (hL1 t (by omega) (by omega) (by omega)))⟩, fun t ht => (e2 t (fun e => by rw [e] at ht; exact absurd ht (by show ¬ (11 : Nat) ≤ 8; decide))).trans ((kup_n (fun e => by rw [e] at ht; exact absurd ht (by show ¬ (19 : Nat) ≤ 8; decide))).trans (hL1 t (by omega) (by omega) (by omega)))⟩
