def kStep (x y : Int32) : Prop := (x = nI 0 ∧ y = nI 1) ∨ (x = nI 1 ∧ y = nI 2)
/-- a making is sent -/
def xMaking (S : kI4) (N : kN3) (d k : Nat) (r : Int32) (S' : kI4) (N' : kN3) : Prop :=
  ((N 1 0 0 = 40 ∨ ∀ q, q < N 2 d 0 → S 11 d k 0 ≠ nI (1000 + q)) ∧ r = nI 3 ∧ S' = S ∧ N' = N) ∨
  ∃ q, q < N 2 d 0 ∧ S 11 d k 0 = nI (1000 + q) ∧ N 1 0 0 < 40 ∧ r = -1 ∧ S' = sAddJ (sNum S d q (N 1 0 0)) (N 1 0 0) (nI d) (S 11 d k 2) ∧ N' = nAddJ (nHold N d (N 1 0 0))
def xVer (S : kI4) (i : Nat) (f : Int32) : Int32 := if f = nI 0 then S 3 i 0 2 else S 3 i 0 3
def xChi (S : kI4) (d k i : Nat) (r : Int32) (S' : kI4) : Prop :=
  (S 2 i 0 0 ≠ nI d ∧ r = nI 0 ∧ S' = S) ∨
  (S 2 i 0 0 = nI d ∧ xVer S i (S 11 d k 1) ≠ S 11 d k 3 ∧ r = nI 1 ∧ S' = S) ∨
  (S 2 i 0 0 = nI d ∧ xVer S i (S 11 d k 1) = S 11 d k 3 ∧ S 11 d k 1 = 0 ∧ ¬ kStep (S 3 i 0 0) (S 11 d k 2) ∧ r = nI 2 ∧ S' = S) ∨
  (S 2 i 0 0 = nI d ∧ xVer S i (S 11 d k 1) = S 11 d k 3 ∧ (S 11 d k 1 ≠ 0 ∨ kStep (S 3 i 0 0) (S 11 d k 2)) ∧ r = -1 ∧ S' = sPut S 3 i 0 (S 11 d k 1) (S 11 d k 2))
/-- a change is sent -/
def xChg (S : kI4) (N : kN3) (d k : Nat) (r : Int32) (S' : kI4) (N' : kN3) : Prop :=
  N' = N ∧ ∃ x, kCn S N d (S 11 d k 0) x ∧ ((¬ kix x (N 1 0 0) ∧ r = nI 3 ∧ S' = S) ∨ ∃ i, i < N 1 0 0 ∧ x = nI i ∧ xChi S d k i r S')
def xDel (S : kI4) (N : kN3) (d k : Nat) (r : Int32) (S' : kI4) (N' : kN3) : Prop := (S 11 d k 1 = -1 ∧ xMaking S N d k r S' N') ∨ (S 11 d k 1 ≠ -1 ∧ xChg S N d k r S' N')
theorem nHold_o {N : kN3} {d n f i k : Nat} (z : f ≠ 11) : nHold N d n f i k = N f i k := nHold_n (by omega)
theorem xDel_ok {S : kI4} {N : kN3} {d k : Nat} {r : Int32} {S' : kI4} {N' : kN3} (h : xDel S N d k r S' N') (hO : okX S N) : okX S' N' ∧ ∀ f i j, f ≠ 1 → f ≠ 11 → N' f i j = N f i j := by
  rcases h with ⟨_, ⟨_, _, rfl, rfl⟩ | ⟨q, _, _, h4, _, rfl, rfl⟩⟩ | ⟨_, rfl, _⟩
  · exact ⟨hO, fun _ _ _ _ _ => rfl⟩
  · refine ⟨okX.addJ (S := S) (okX.hold hO) (by rw [nHold_o (by omega)]; exact h4), fun f i j h1 h2 => ?_⟩
    unfold nAddJ
    rw [w3_n (by omega), nHold_o h2]
  · exact ⟨hO, fun _ _ _ _ _ => rfl⟩

theorem sHold_n {S : kI4} {d n : Nat} {g : Nat → Int32} {f d' k j : Nat} (z : ¬ ((f = 5 ∨ f = 6 ∨ f = 8) ∧ d' = d)) : sHold S d n g f d' k j = S f d' k j := by
  unfold sHold
  by_cases h : S 5 d n 0 = 0
  · rw [if_pos h, w4_n (by omega), w4_n (by omega), sCopy_n (by omega)]
  · rw [if_neg h, sCopy_n (by omega)]

set_option maxHeartbeats 4000000 in
set_option maxRecDepth 100000 in
theorem c_deliverMaking {l : Launch} (htr : l.stackTraces = false) {E : kE} {A : Nat → Prop} {C : kC} {L : kL} {S : kI4} {N : kN3} (hX : isX E C L S N) (hO : okX S N) {d : Nat} (hd : d < 4) {k : Nat} (hk : k < N 3 d 0)  : kM l yX5_deliverMaking cX5_deliverMaking 5 (some .int) 7 171 4 100 E A C L [.ref (L (1, 0, 0)), .int (nI d), .ref (L (5, d, 0)), .ref (L (19, d, k))] (fun v C' L' => ∃ r S' N', v = some (.int r) ∧ xMaking S N d k r S' N' ∧ isX E C' L' S' N' ∧ kFr C L C' L' ∧ ∀ t : kT, (t.1 ≤ 1 ∨ t.1 = 5 ∨ t.1 = 19) → L' t = L t) := by
  obtain ⟨vl2, hl2⟩ := hX.1.2.1.hd
  have hb1 := hO.1
  have hb2 := (hO.2 d hd).1
  refine kM.of htr (by decide) (Nat.le_of_ble_eq_true rfl) (fun Γ hl hR hN hnm X hE => ?_)
  refine k_lo (lo' := [(0, .ref (L (1, 0, 0))), (1, .int (nI d)), (2, .ref (L (5, d, 0))), (3, .ref (L (19, d, k)))]) ⟨rfl, rfl, rfl, rfl, trivial⟩ ?_
  refine k_aload_n X dX5_deliverMaking_0 rfl rfl ?_
  refine k_aload_n X dX5_deliverMaking_1 rfl rfl ?_
  refine k_get0 X ((hX.2 d hd).2.2.2.2.2.2.2.2 k hk) (q := (RX0, TX0, 5)) rfl inlX0 0 (by decide) kb_352 (Or.inl rfl) rfl rfl dX5_deliverMaking_2 ?_
  refine k_callV (rest := []) X kv_X1_madeJob kb_354 (c_madeJob X.tr hX hO hd (S 11 d k 0)) (hX.2 d hd).1 rfl rfl rfl rfl rfl (Nat.le_of_ble_eq_true rfl) ⟨by rw [hR]; exact Nat.le_of_ble_eq_true rfl, by rw [hR]; exact Nat.le_of_ble_eq_true rfl⟩ ⟨by rw [hR]; dsimp only; omega, by rw [hR]; dsimp only; omega⟩ dX5_deliverMaking_5 (fun v5 C9 L9 h9 => ?_)
  obtain ⟨(⟨q, hq, hjob, rfl⟩ | ⟨hno, rfl⟩), rfl, rfl⟩ := h9
  ·
    refine k_astore X dX5_deliverMaking_8 (by rw [hN]; decide) ?_
    refine k_aload X dX5_deliverMaking_10 rfl ?_
    refine k_ifnull X dX5_deliverMaking_12 ?_
    refine k_aload_n X dX5_deliverMaking_15 rfl rfl ?_
    refine k_get0 X hX.1.1.1 (q := (RX5, TX5, 3)) rfl inlX5 0 (by decide) kb_13 (Or.inl rfl) rfl rfl dX5_deliverMaking_16 ?_
    refine k_callV (rest := []) X kv_Jx4a65c_size_8abf5 kb_63 (c_Ls_size X.tr hX.1.2.1) hl2 rfl rfl rfl rfl rfl (Nat.le_of_ble_eq_true rfl) ⟨by rw [hR]; exact Nat.le_of_ble_eq_true rfl, by rw [hR]; exact Nat.le_of_ble_eq_true rfl⟩ ⟨by rw [hR]; dsimp only; omega, by rw [hR]; dsimp only; omega⟩ dX5_deliverMaking_19 (fun v19 C9 L9 h9 => ?_)
    obtain ⟨rfl, rfl, rfl⟩ := h9
    refine k_bipush (v := (nI 40)) X dX5_deliverMaking_22 (by decide) ?_
    refine k_icmp_lt (tgt := 29) X dX5_deliverMaking_24 (by decide) (fun c24 => ?_) (fun c24 => ?_)
    ·
      refine k_aload_n X dX5_deliverMaking_29 rfl rfl ?_
      refine k_aload X dX5_deliverMaking_30 rfl ?_
      refine k_aload_n X dX5_deliverMaking_32 rfl rfl ?_
      refine k_get0 X hX.1.1.1 (q := (RX5, TX5, 3)) rfl inlX5 0 (by decide) kb_13 (Or.inl rfl) rfl rfl dX5_deliverMaking_33 ?_
      refine k_callV (rest := [.ref (L (17, d, q)), .ref (L (5, d, 0))]) X kv_Jx4a65c_size_8abf5 kb_63 (c_Ls_size X.tr hX.1.2.1) hl2 rfl rfl rfl rfl rfl (Nat.le_of_ble_eq_true rfl) ⟨by rw [hR]; exact Nat.le_of_ble_eq_true rfl, by rw [hR]; exact Nat.le_of_ble_eq_true rfl⟩ ⟨by rw [hR]; dsimp only; omega, by rw [hR]; dsimp only; omega⟩ dX5_deliverMaking_36 (fun v36 C9 L9 h9 => ?_)
      obtain ⟨rfl, rfl, rfl⟩ := h9
      have h40 : N 1 0 0 < 40 := (nI_ltI (by omega) (by decide)).mp c24
      refine k_callV (rest := []) X kv_X1_giveNumber kb_355 (c_giveNumber X.tr hX hO hd hq h40) (hX.2 d hd).1 rfl rfl rfl rfl rfl (Nat.le_of_ble_eq_true rfl) ⟨by rw [hR]; exact Nat.le_of_ble_eq_true rfl, by rw [hR]; exact Nat.le_of_ble_eq_true rfl⟩ ⟨by rw [hR]; dsimp only; omega, by rw [hR]; dsimp only; omega⟩ dX5_deliverMaking_39 (fun v39 C9 L9 h9 => ?_)
      obtain ⟨rfl, g1, g2, g3⟩ := h9
      refine k_abs2 (fun C' L' => isX E C' L' (sNum S d q (N 1 0 0)) (nHold N d (N 1 0 0)) ∧ kFr C L C' L' ∧ ∀ t : kT, t.1 ≠ 16 → L' t = L t) ⟨g1, g2, g3⟩ (fun C1 L1 h1 => ?_)
      refine k_lo (lo' := [(0, .ref (L1 (1, 0, 0))), (1, .int (nI d)), (2, .ref (L1 (5, d, 0))), (3, .ref (L1 (19, d, k)))]) ⟨kLR (h1.2.2 (1, 0, 0) (show (1 : Nat) ≠ 16 by decide)), rfl, kLR (h1.2.2 (5, d, 0) (show (5 : Nat) ≠ 16 by decide)), kLR (h1.2.2 (19, d, k) (show (19 : Nat) ≠ 16 by decide)), trivial⟩ ?_
      have n1 : nHold N d (N 1 0 0) 1 0 0 = N 1 0 0 := nHold_n (by omega)
      have n3 : nHold N d (N 1 0 0) 3 d 0 = N 3 d 0 := nHold_n (by omega)
      obtain ⟨vl2c, hl2c⟩ := h1.1.1.2.1.hd
      refine k_aload_n X dX5_deliverMaking_42 rfl rfl ?_
      refine k_get0 X h1.1.1.1.1 (q := (RX5, TX5, 3)) rfl inlX5 0 (by decide) kb_13 (Or.inl rfl) rfl rfl dX5_deliverMaking_43 ?_
      refine k_new0 X (14, (N 1 0 0), 0) (ci := 4) (q := (RX3, TX3, 3)) rfl inlX3 tyX3 tyX3_ok kb_81 kb_82 kb_83 (fs := [.int 0, .int 0, .null]) (fun j hj => by rcases (show j = 0 ∨ j = 1 ∨ j = 2 from by have : j < 3 := hj; omega) with rfl | rfl | rfl <;> rfl) dX5_deliverMaking_46 (by rw [hR]; dsimp only; omega) (by rw [hR]; dsimp only; omega) (fun q9 => ?_)
      refine k_dup X dX5_deliverMaking_49 rfl ?_
      refine k_iload_n X dX5_deliverMaking_50 rfl rfl ?_
      refine k_aload_n X dX5_deliverMaking_51 rfl rfl ?_
      refine k_get0 X ((kup_n (kne1 (by decide))).trans ((h1.1.2 d hd).2.2.2.2.2.2.2.2 k (by rw [n3]; exact hk))) (q := (RX0, TX0, 5)) rfl inlX0 2 (by decide) kb_353 (Or.inl rfl) ((kup_n (kne1 (by decide))).trans rfl) rfl dX5_deliverMaking_52 ?_
      refine k_rw (y := S 11 d k 2) (by unfold sNum; rw [sHold_n (by omega)]; exact (w4_n (by omega)).trans (w4_n (by omega))) ?_
      refine k_callI (rest := [.ref q9, .ref (L1 (2, 0, 0))]) X ki_X3_init kb_89 (c_X3_init X.tr (t := (14, (N 1 0 0), 0)) (tF := (15, (N 1 0 0), 0)) (nI d) (S 11 d k 2) (kne1 (by decide)) kup_s kup_s) rfl rfl (Nat.le_of_ble_eq_true rfl) ⟨by rw [hR]; exact Nat.le_of_ble_eq_true rfl, by rw [hR]; exact Nat.le_of_ble_eq_true rfl⟩ ⟨by rw [hR]; dsimp only; omega, by rw [hR]; dsimp only; omega⟩ dX5_deliverMaking_55 (fun v55 C9 L9 h9 => ?_)
      obtain ⟨q8, rfl, rfl, i1, i2, i3⟩ := h9
      have hCk : ∀ t : kT, t ≠ (14, (N 1 0 0), 0) → t ≠ (15, (N 1 0 0), 0) → C9 t = C1 t := fun t h1 h2 => (i3 t h1 h2).trans (kup_n h1)
      have hLk : ∀ t : kT, t ≠ (14, (N 1 0 0), 0) → t ≠ (15, (N 1 0 0), 0) → (kup (kup L1 (14, (N 1 0 0), 0) q9) (15, (N 1 0 0), 0) q8) t = L1 t := fun t h1 h2 => (kup_n h2).trans (kup_n h1)
      have hq9 : (kup (kup L1 (14, (N 1 0 0), 0) q9) (15, (N 1 0 0), 0) q8) (14, (N 1 0 0), 0) = q9 := (kup_n (kne1 (by decide))).trans kup_s
      obtain ⟨vl2b, hl2b⟩ := h1.1.1.2.1.hd
      have hn9 : (nHold N d (N 1 0 0)) 1 0 0 = (N 1 0 0) := n1
      have hl9 := h1.1.1.2.1
      rw [hn9] at hl9
      refine k_callV (rest := []) X kv_Jx4a65c_add_9ea2d kb_106 (c_Ls_addA X.tr (fh := 2) (fa := 3) (d := 0) (ft := 14) (dt := (N 1 0 0)) (kt := 0) (ci := 4) (r := (RX3, TX3, 3)) (hLk _ (kne1 (by decide)) (kne1 (by decide))) hq9 (hl9.keep (hCk _ (kne1 (by decide)) (kne1 (by decide))) (hCk _ (kne1 (by decide)) (kne1 (by decide))) (hLk _ (kne1 (by decide)) (kne1 (by decide))) (fun j hj => hLk (14, j, 0) (kne2 (by omega)) (kne1 (by decide)))) (by omega) ((hCk _ (kne1 (by decide)) (kne1 (by decide))).trans h1.1.1.1.2) rfl (by simp [kCas]) i1 (by decide) (by decide) (by decide) (by decide) (by decide) (by decide) (fun i hi => ⟨14, i, 0, _, by decide, by decide, rfl, (hCk _ (kne2 (by omega)) (kne1 (by decide))).trans (h1.1.1.2.2.2 i (by rw [hn9]; exact hi)).1⟩)) ((hCk _ (kne1 (by decide)) (kne1 (by decide))).trans hl2b) rfl rfl (hLk _ (kne1 (by decide)) (kne1 (by decide))) rfl rfl (Nat.le_of_ble_eq_true rfl) ⟨by rw [hR]; exact Nat.le_of_ble_eq_true rfl, by rw [hR]; exact Nat.le_of_ble_eq_true rfl⟩ ⟨by rw [hR]; dsimp only; omega, by rw [hR]; dsimp only; omega⟩ dX5_deliverMaking_58 (fun v58 C9 L9 h9 => ?_)
      obtain ⟨rfl, e1, e2, e3⟩ := h9
      refine k_abs2 (fun C' L' => isX E C' L' (sAddJ (sNum S d q (N 1 0 0)) (N 1 0 0) (nI d) (S 11 d k 2)) (nAddJ (nHold N d (N 1 0 0))) ∧ (∀ t : kT, t.1 ≠ 2 → t.1 ≠ 3 → t.1 ≠ 14 → t.1 ≠ 15 → C' t = C1 t) ∧ (∀ t : kT, t.1 ≠ 3 → t.1 ≠ 14 → t.1 ≠ 15 → L' t = L1 t)) ⟨isX.addJn hn9 (e3 _ (fun j hj => e2 _ (kne1 (by decide))) ((e2 _ (kne1 (by decide))).trans hq9)) (by unfold nAddJ; rw [w3_s, hn9]) ((e1 _ (kne1 (by decide)) (kne1 (by decide))).trans (i1.trans ?_)) ((e1 _ (kne1 (by decide)) (kne1 (by decide))).trans (i2.trans (by simp [kF, sAddJ]))) h1.1 (fun f d' k z => ?_) (fun f d' k z => ?_) (fun f d' k j z => sAddJ_n z) (fun f d' k z => w3_n (by omega)), fun t h1 h2 h3 h4 => (e1 t (fun e => h1 (congrArg Prod.fst e)) (fun e => h2 (congrArg Prod.fst e))).trans (hCk t (fun e => h3 (congrArg Prod.fst e)) (fun e => h4 (congrArg Prod.fst e))), fun t h2 h3 h4 => (e2 t (fun e => h2 (congrArg Prod.fst e))).trans (hLk t (fun e => h3 (congrArg Prod.fst e)) (fun e => h4 (congrArg Prod.fst e)))⟩ (fun CJ LJ hJ => ?_)
      · rw [e2 (15, (N 1 0 0), 0) (kne1 (by decide)), kup_s]
        simp [sAddJ]
      · exact (e1 _ (fun e => z (Or.inl (congrArg Prod.fst e))) (fun e => z (Or.inr (Or.inl (congrArg Prod.fst e))))).trans (hCk _ (kneD2 (by omega)) (kneD2 (by omega)))
      · exact (e2 _ (fun e => z (Or.inl (congrArg Prod.fst e)))).trans (hLk _ (kneD2 (by omega)) (kneD2 (by omega)))
      obtain ⟨hXJ, hCJ, hLJ⟩ := hJ
      refine k_pop X dX5_deliverMaking_61 rfl ?_
      refine k_iconst (v := (-1)) X dX5_deliverMaking_62 (by decide) ?_
      exact k_iret X hE dX5_deliverMaking_63 (by first | omega | exact Nat.le_of_ble_eq_true rfl | (dsimp only; omega)) (by first | omega | exact Nat.le_of_ble_eq_true rfl | (dsimp only; omega)) ⟨_, _, _, rfl, Or.inr ⟨q, hq, hjob, h40, rfl, rfl, rfl⟩, hXJ, fun t ht => ⟨(hCJ t (by omega) (by omega) (by omega) (by omega)).trans (h1.2.1 t ht).1, (hLJ t (by omega) (by omega) (by omega)).trans (h1.2.1 t ht).2⟩, fun t ht => (hLJ t (by omega) (by omega) (by omega)).trans (h1.2.2 t (by omega))⟩
    ·
      refine k_iconst (v := (nI 3)) X dX5_deliverMaking_27 (by decide) ?_
      exact k_iret X hE dX5_deliverMaking_28 (by first | omega | exact Nat.le_of_ble_eq_true rfl | (dsimp only; omega)) (by first | omega | exact Nat.le_of_ble_eq_true rfl | (dsimp only; omega)) ⟨_, _, _, rfl, Or.inl ⟨by first | exact Or.inr hno | (left; have h41 : ¬ N 1 0 0 < 40 := fun z => c24 (nI_lt z (by decide)); omega), rfl, rfl, rfl⟩, hX, kFr.rf, fun _ _ => rfl⟩
  ·
    refine k_astoreN X dX5_deliverMaking_8 (by rw [hN]; decide) ?_
    refine k_aloadN X dX5_deliverMaking_10 rfl ?_
    refine k_ifnullN (tgt := 27) X dX5_deliverMaking_12 (by decide) ?_
    refine k_iconst (v := (nI 3)) X dX5_deliverMaking_27 (by decide) ?_
    exact k_iret X hE dX5_deliverMaking_28 (by first | omega | exact Nat.le_of_ble_eq_true rfl | (dsimp only; omega)) (by first | omega | exact Nat.le_of_ble_eq_true rfl | (dsimp only; omega)) ⟨_, _, _, rfl, Or.inl ⟨by first | exact Or.inr hno | (left; have h41 : ¬ N 1 0 0 < 40 := fun z => c24 (nI_lt z (by decide)); omega), rfl, rfl, rfl⟩, hX, kFr.rf, fun _ _ => rfl⟩

set_option maxHeartbeats 4000000 in
set_option maxRecDepth 100000 in
theorem c_deliverChange {l : Launch} (htr : l.stackTraces = false) {E : kE} {A : Nat → Prop} {C : kC} {L : kL} {S : kI4} {N : kN3} (hX : isX E C L S N) (hO : okX S N) {d : Nat} (hd : d < 4) {k : Nat} (hk : k < N 3 d 0)  : kM l yX5_deliverChange cX5_deliverChange 6 (some .int) 5 107 0 0 E A C L [.ref (L (1, 0, 0)), .int (nI d), .ref (L (5, d, 0)), .ref (L (19, d, k))] (fun v C' L' => ∃ r S' N', v = some (.int r) ∧ xChg S N d k r S' N' ∧ isX E C' L' S' N' ∧ kFr C L C' L' ∧ ∀ t : kT, (t.1 ≤ 1 ∨ t.1 = 5 ∨ t.1 = 19) → L' t = L t) := by
  obtain ⟨vl2, hl2⟩ := hX.1.2.1.hd
  have hb1 := hO.1
  have hb2 := (hO.2 d hd).1
  refine kM.of htr (by decide) (Nat.le_of_ble_eq_true rfl) (fun Γ hl hR hN hnm X hE => ?_)
  refine k_lo (lo' := [(0, .ref (L (1, 0, 0))), (1, .int (nI d)), (2, .ref (L (5, d, 0))), (3, .ref (L (19, d, k)))]) ⟨rfl, rfl, rfl, rfl, trivial⟩ ?_
  refine k_aload_n X dX5_deliverChange_0 rfl rfl ?_
  refine k_aload_n X dX5_deliverChange_1 rfl rfl ?_
  refine k_get0 X ((hX.2 d hd).2.2.2.2.2.2.2.2 k hk) (q := (RX0, TX0, 5)) rfl inlX0 0 (by decide) kb_352 (Or.inl rfl) rfl rfl dX5_deliverChange_2 ?_
  refine k_callV (rest := []) X kv_X1_centralNumber kb_365 (c_centralNumber X.tr hX hO hd (S 11 d k 0)) (hX.2 d hd).1 rfl rfl rfl rfl rfl (Nat.le_of_ble_eq_true rfl) ⟨by rw [hR]; exact Nat.le_of_ble_eq_true rfl, by rw [hR]; exact Nat.le_of_ble_eq_true rfl⟩ ⟨by rw [hR]; exact Nat.le_of_ble_eq_true rfl, by rw [hR]; exact Nat.le_of_ble_eq_true rfl⟩ dX5_deliverChange_5 (fun v5 C9 L9 h9 => ?_)
  obtain ⟨⟨x, rfl, hcn⟩, rfl, rfl⟩ := h9
  refine k_istore X dX5_deliverChange_8 (by rw [hN]; decide) ?_
  refine k_iload X dX5_deliverChange_10 rfl ?_
  refine k_if_lt (tgt := 27) X dX5_deliverChange_12 (by decide) (fun c12 => ?_) (fun c12 => ?_)
  ·
    refine k_iconst (v := (nI 3)) X dX5_deliverChange_27 (by decide) ?_
    exact k_iret X hE dX5_deliverChange_28 (by first | omega | exact Nat.le_of_ble_eq_true rfl | (dsimp only; omega)) (by first | omega | exact Nat.le_of_ble_eq_true rfl | (dsimp only; omega)) ⟨_, _, _, rfl, ⟨rfl, _, hcn, Or.inl ⟨by first | exact fun z => z.1 c12 | exact fun z => c24 z.2, rfl, rfl⟩⟩, hX, kFr.rf, fun _ _ => rfl⟩
  ·
    refine k_iload X dX5_deliverChange_15 rfl ?_
    refine k_aload_n X dX5_deliverChange_17 rfl rfl ?_
    refine k_get0 X hX.1.1.1 (q := (RX5, TX5, 3)) rfl inlX5 0 (by decide) kb_13 (Or.inl rfl) rfl rfl dX5_deliverChange_18 ?_
    refine k_callV (rest := [.int x]) X kv_Jx4a65c_size_8abf5 kb_63 (c_Ls_size X.tr hX.1.2.1) hl2 rfl rfl rfl rfl rfl (Nat.le_of_ble_eq_true rfl) ⟨by rw [hR]; exact Nat.le_of_ble_eq_true rfl, by rw [hR]; exact Nat.le_of_ble_eq_true rfl⟩ ⟨by rw [hR]; exact Nat.le_of_ble_eq_true rfl, by rw [hR]; exact Nat.le_of_ble_eq_true rfl⟩ dX5_deliverChange_21 (fun v21 C9 L9 h9 => ?_)
    obtain ⟨rfl, rfl, rfl⟩ := h9
    refine k_icmp_lt (tgt := 29) X dX5_deliverChange_24 (by decide) (fun c24 => ?_) (fun c24 => ?_)
    ·
      refine k_aload_n X dX5_deliverChange_29 rfl rfl ?_
      refine k_get0 X hX.1.1.1 (q := (RX5, TX5, 3)) rfl inlX5 0 (by decide) kb_13 (Or.inl rfl) rfl rfl dX5_deliverChange_30 ?_
      refine k_iload X dX5_deliverChange_33 rfl ?_
      obtain ⟨i, hi, rfl⟩ := kix.ex (x := x) (n := N 1 0 0) ⟨c12, c24⟩ (by omega)
      refine k_callV (rest := []) X kv_Jx4a65c_get_915e3 kb_175 (c_Ls_get X.tr hX.1.2.1 i hi (by omega)) hl2 rfl rfl rfl rfl rfl (Nat.le_of_ble_eq_true rfl) ⟨by rw [hR]; exact Nat.le_of_ble_eq_true rfl, by rw [hR]; exact Nat.le_of_ble_eq_true rfl⟩ ⟨by rw [hR]; exact Nat.le_of_ble_eq_true rfl, by rw [hR]; exact Nat.le_of_ble_eq_true rfl⟩ dX5_deliverChange_35 (fun v35 C9 L9 h9 => ?_)
      obtain ⟨rfl, rfl, rfl⟩ := h9
      refine k_cast X (hX.1.2.2.2 i hi).1 (r := (RX3, TX3, 3)) rfl rfl kb_81 dX5_deliverChange_38 ?_
      refine k_astore X dX5_deliverChange_41 (by rw [hN]; decide) ?_
      refine k_aload X dX5_deliverChange_43 rfl ?_
      refine k_get0 X (hX.1.2.2.2 i hi).1 (q := (RX3, TX3, 3)) rfl inlX3 1 (by decide) kb_167 (Or.inl rfl) rfl rfl dX5_deliverChange_45 ?_
      refine k_iload_n X dX5_deliverChange_48 rfl rfl ?_
      refine k_icmp_eq (tgt := 54) X dX5_deliverChange_49 (by decide) (fun c49 => ?_) (fun c49 => ?_)
      ·
        refine k_aload X dX5_deliverChange_54 rfl ?_
        refine k_get0 X (hX.1.2.2.2 i hi).1 (q := (RX3, TX3, 3)) rfl inlX3 2 (by decide) kb_198 (Or.inl rfl) rfl rfl dX5_deliverChange_56 ?_
        refine k_aload_n X dX5_deliverChange_59 rfl rfl ?_
        refine k_get0 X ((hX.2 d hd).2.2.2.2.2.2.2.2 k hk) (q := (RX0, TX0, 5)) rfl inlX0 1 (by decide) kb_347 (Or.inl rfl) rfl rfl dX5_deliverChange_60 ?_
        refine k_callV (rest := []) X kv_X2_versionOf kb_209 (c_X2_versionOf X.tr (S 11 d k 1) (hX.1.2.2.2 i hi).2) (hX.1.2.2.2 i hi).2 rfl rfl rfl rfl rfl (Nat.le_of_ble_eq_true rfl) ⟨by rw [hR]; exact Nat.le_of_ble_eq_true rfl, by rw [hR]; exact Nat.le_of_ble_eq_true rfl⟩ ⟨by rw [hR]; exact Nat.le_of_ble_eq_true rfl, by rw [hR]; exact Nat.le_of_ble_eq_true rfl⟩ dX5_deliverChange_63 (fun v63 C9 L9 h9 => ?_)
        obtain ⟨rfl, rfl, rfl⟩ := h9
        refine k_aload_n X dX5_deliverChange_66 rfl rfl ?_
        refine k_get0 X ((hX.2 d hd).2.2.2.2.2.2.2.2 k hk) (q := (RX0, TX0, 5)) rfl inlX0 3 (by decide) kb_364 (Or.inl rfl) rfl rfl dX5_deliverChange_67 ?_
        refine k_icmp_eq (tgt := 75) X dX5_deliverChange_70 (by decide) (fun c70 => ?_) (fun c70 => ?_)
        ·
          refine k_aload_n X dX5_deliverChange_75 rfl rfl ?_
          refine k_get0 X ((hX.2 d hd).2.2.2.2.2.2.2.2 k hk) (q := (RX0, TX0, 5)) rfl inlX0 1 (by decide) kb_347 (Or.inl rfl) rfl rfl dX5_deliverChange_76 ?_
          refine k_if_ne (tgt := 102) X dX5_deliverChange_79 (by decide) (fun c79 => ?_) (fun c79 => ?_)
          ·
            refine k_aload X dX5_deliverChange_102 rfl ?_
            refine k_get0 X (hX.1.2.2.2 i hi).1 (q := (RX3, TX3, 3)) rfl inlX3 2 (by decide) kb_198 (Or.inl rfl) rfl rfl dX5_deliverChange_104 ?_
            refine k_aload_n X dX5_deliverChange_107 rfl rfl ?_
            refine k_get0 X ((hX.2 d hd).2.2.2.2.2.2.2.2 k hk) (q := (RX0, TX0, 5)) rfl inlX0 1 (by decide) kb_347 (Or.inl rfl) rfl rfl dX5_deliverChange_108 ?_
            refine k_aload_n X dX5_deliverChange_111 rfl rfl ?_
            refine k_get0 X ((hX.2 d hd).2.2.2.2.2.2.2.2 k hk) (q := (RX0, TX0, 5)) rfl inlX0 2 (by decide) kb_353 (Or.inl rfl) rfl rfl dX5_deliverChange_112 ?_
            refine k_callV (rest := []) X kv_X2_put kb_205 (c_X2_putA X.tr (S 11 d k 1) (S 11 d k 2) (t := (15, i, 0)) (S := S) (fS := 3) (a := i) (b := 0) rfl (hX.1.2.2.2 i hi).2) (hX.1.2.2.2 i hi).2 rfl rfl rfl rfl rfl (Nat.le_of_ble_eq_true rfl) ⟨by rw [hR]; exact Nat.le_of_ble_eq_true rfl, by rw [hR]; exact Nat.le_of_ble_eq_true rfl⟩ ⟨by rw [hR]; exact Nat.le_of_ble_eq_true rfl, by rw [hR]; exact Nat.le_of_ble_eq_true rfl⟩ dX5_deliverChange_115 (fun v115 C9 L9 h9 => ?_)
            obtain ⟨rfl, rfl, rfl⟩ := h9
            refine k_iconst (v := (-1)) X dX5_deliverChange_118 (by decide) ?_
            exact k_iret X hE dX5_deliverChange_119 (by first | omega | exact Nat.le_of_ble_eq_true rfl | (dsimp only; omega)) (by first | omega | exact Nat.le_of_ble_eq_true rfl | (dsimp only; omega)) ⟨_, _, _, rfl, ⟨rfl, _, hcn, Or.inr ⟨i, hi, rfl, Or.inr (Or.inr (Or.inr ⟨c49, c70, by first | exact Or.inl c79 | exact Or.inr (Classical.byContradiction fun z => c97 ((if_neg z).trans (by decide))), rfl, rfl⟩))⟩⟩, isX.f15 kup_s hX (fun f d' k z => kup_n (kneD2 z)) (fun _ _ _ _ => rfl) (fun f d' k j z => sPut_n (by omega)) (fun _ _ _ _ => rfl), kFr.rf.up (by decide), fun _ _ => rfl⟩
          ·
            refine k_aload X dX5_deliverChange_82 rfl ?_
            refine k_get0 X (hX.1.2.2.2 i hi).1 (q := (RX3, TX3, 3)) rfl inlX3 2 (by decide) kb_198 (Or.inl rfl) rfl rfl dX5_deliverChange_84 ?_
            refine k_get0 X (hX.1.2.2.2 i hi).2 (q := (RX2, TX2, 4)) rfl inlX2 0 (by decide) kb_241 (Or.inl rfl) rfl rfl dX5_deliverChange_87 ?_
            refine k_aload_n X dX5_deliverChange_90 rfl rfl ?_
            refine k_get0 X ((hX.2 d hd).2.2.2.2.2.2.2.2 k hk) (q := (RX0, TX0, 5)) rfl inlX0 2 (by decide) kb_353 (Or.inl rfl) rfl rfl dX5_deliverChange_91 ?_
            refine k_callS (rest := []) X ks_X5_isStep kb_369 (c_isStep X.tr (S 3 i 0 0) (S 11 d k 2)) rfl rfl (Nat.le_of_ble_eq_true rfl) ⟨by rw [hR]; exact Nat.le_of_ble_eq_true rfl, by rw [hR]; exact Nat.le_of_ble_eq_true rfl⟩ ⟨by rw [hR]; exact Nat.le_of_ble_eq_true rfl, by rw [hR]; exact Nat.le_of_ble_eq_true rfl⟩ dX5_deliverChange_94 (fun v94 C9 L9 h9 => ?_)
            obtain ⟨rfl, rfl, rfl⟩ := h9
            refine k_if_ne (tgt := 102) X dX5_deliverChange_97 (by decide) (fun c97 => ?_) (fun c97 => ?_)
            ·
              refine k_aload X dX5_deliverChange_102 rfl ?_
              refine k_get0 X (hX.1.2.2.2 i hi).1 (q := (RX3, TX3, 3)) rfl inlX3 2 (by decide) kb_198 (Or.inl rfl) rfl rfl dX5_deliverChange_104 ?_
              refine k_aload_n X dX5_deliverChange_107 rfl rfl ?_
              refine k_get0 X ((hX.2 d hd).2.2.2.2.2.2.2.2 k hk) (q := (RX0, TX0, 5)) rfl inlX0 1 (by decide) kb_347 (Or.inl rfl) rfl rfl dX5_deliverChange_108 ?_
              refine k_aload_n X dX5_deliverChange_111 rfl rfl ?_
              refine k_get0 X ((hX.2 d hd).2.2.2.2.2.2.2.2 k hk) (q := (RX0, TX0, 5)) rfl inlX0 2 (by decide) kb_353 (Or.inl rfl) rfl rfl dX5_deliverChange_112 ?_
              refine k_callV (rest := []) X kv_X2_put kb_205 (c_X2_putA X.tr (S 11 d k 1) (S 11 d k 2) (t := (15, i, 0)) (S := S) (fS := 3) (a := i) (b := 0) rfl (hX.1.2.2.2 i hi).2) (hX.1.2.2.2 i hi).2 rfl rfl rfl rfl rfl (Nat.le_of_ble_eq_true rfl) ⟨by rw [hR]; exact Nat.le_of_ble_eq_true rfl, by rw [hR]; exact Nat.le_of_ble_eq_true rfl⟩ ⟨by rw [hR]; exact Nat.le_of_ble_eq_true rfl, by rw [hR]; exact Nat.le_of_ble_eq_true rfl⟩ dX5_deliverChange_115 (fun v115 C9 L9 h9 => ?_)
              obtain ⟨rfl, rfl, rfl⟩ := h9
              refine k_iconst (v := (-1)) X dX5_deliverChange_118 (by decide) ?_
              exact k_iret X hE dX5_deliverChange_119 (by first | omega | exact Nat.le_of_ble_eq_true rfl | (dsimp only; omega)) (by first | omega | exact Nat.le_of_ble_eq_true rfl | (dsimp only; omega)) ⟨_, _, _, rfl, ⟨rfl, _, hcn, Or.inr ⟨i, hi, rfl, Or.inr (Or.inr (Or.inr ⟨c49, c70, by first | exact Or.inl c79 | exact Or.inr (Classical.byContradiction fun z => c97 ((if_neg z).trans (by decide))), rfl, rfl⟩))⟩⟩, isX.f15 kup_s hX (fun f d' k z => kup_n (kneD2 z)) (fun _ _ _ _ => rfl) (fun f d' k j z => sPut_n (by omega)) (fun _ _ _ _ => rfl), kFr.rf.up (by decide), fun _ _ => rfl⟩
            ·
              refine k_iconst (v := (nI 2)) X dX5_deliverChange_100 (by decide) ?_
              exact k_iret X hE dX5_deliverChange_101 (by first | omega | exact Nat.le_of_ble_eq_true rfl | (dsimp only; omega)) (by first | omega | exact Nat.le_of_ble_eq_true rfl | (dsimp only; omega)) ⟨_, _, _, rfl, ⟨rfl, _, hcn, Or.inr ⟨i, hi, rfl, Or.inr (Or.inr (Or.inl ⟨c49, c70, c79, fun z => absurd ((if_pos z).symm.trans c97) (by decide), rfl, rfl⟩))⟩⟩, hX, kFr.rf, fun _ _ => rfl⟩
        ·
          refine k_iconst (v := (nI 1)) X dX5_deliverChange_73 (by decide) ?_
          exact k_iret X hE dX5_deliverChange_74 (by first | omega | exact Nat.le_of_ble_eq_true rfl | (dsimp only; omega)) (by first | omega | exact Nat.le_of_ble_eq_true rfl | (dsimp only; omega)) ⟨_, _, _, rfl, ⟨rfl, _, hcn, Or.inr ⟨i, hi, rfl, Or.inr (Or.inl ⟨c49, c70, rfl, rfl⟩)⟩⟩, hX, kFr.rf, fun _ _ => rfl⟩
      ·
        refine k_iconst (v := (nI 0)) X dX5_deliverChange_52 (by decide) ?_
        exact k_iret X hE dX5_deliverChange_53 (by first | omega | exact Nat.le_of_ble_eq_true rfl | (dsimp only; omega)) (by first | omega | exact Nat.le_of_ble_eq_true rfl | (dsimp only; omega)) ⟨_, _, _, rfl, ⟨rfl, _, hcn, Or.inr ⟨i, hi, rfl, Or.inl ⟨c49, rfl, rfl⟩⟩⟩, hX, kFr.rf, fun _ _ => rfl⟩
    ·
      refine k_iconst (v := (nI 3)) X dX5_deliverChange_27 (by decide) ?_
      exact k_iret X hE dX5_deliverChange_28 (by first | omega | exact Nat.le_of_ble_eq_true rfl | (dsimp only; omega)) (by first | omega | exact Nat.le_of_ble_eq_true rfl | (dsimp only; omega)) ⟨_, _, _, rfl, ⟨rfl, _, hcn, Or.inl ⟨by first | exact fun z => z.1 c12 | exact fun z => c24 z.2, rfl, rfl⟩⟩, hX, kFr.rf, fun _ _ => rfl⟩

set_option maxHeartbeats 4000000 in
set_option maxRecDepth 100000 in
theorem c_deliver {l : Launch} (htr : l.stackTraces = false) {E : kE} {A : Nat → Prop} {C : kC} {L : kL} {S : kI4} {N : kN3} (hX : isX E C L S N) (hO : okX S N) {d : Nat} (hd : d < 4) {k : Nat} (hk : k < N 3 d 0)  : kM l yX5_deliver cX5_deliver 4 (some .int) 8 195 4 100 E A C L [.ref (L (1, 0, 0)), .int (nI d), .ref (L (5, d, 0)), .ref (L (19, d, k))] (fun v C' L' => ∃ r S' N', v = some (.int r) ∧ xDel S N d k r S' N' ∧ isX E C' L' S' N' ∧ kFr C L C' L' ∧ ∀ t : kT, (t.1 ≤ 1 ∨ t.1 = 5 ∨ t.1 = 19) → L' t = L t) := by
  obtain ⟨vl2, hl2⟩ := hX.1.2.1.hd
  have hb1 := hO.1
  have hb2 := (hO.2 d hd).1
  refine kM.of htr (by decide) (Nat.le_of_ble_eq_true rfl) (fun Γ hl hR hN hnm X hE => ?_)
  refine k_lo (lo' := [(0, .ref (L (1, 0, 0))), (1, .int (nI d)), (2, .ref (L (5, d, 0))), (3, .ref (L (19, d, k)))]) ⟨rfl, rfl, rfl, rfl, trivial⟩ ?_
  refine k_aload_n X dX5_deliver_0 rfl rfl ?_
  refine k_get0 X ((hX.2 d hd).2.2.2.2.2.2.2.2 k hk) (q := (RX0, TX0, 5)) rfl inlX0 1 (by decide) kb_347 (Or.inl rfl) rfl rfl dX5_deliver_1 ?_
  refine k_iconst (v := (-1)) X dX5_deliver_4 (by decide) ?_
  refine k_icmp_ne (tgt := 18) X dX5_deliver_5 (by decide) (fun c5 => ?_) (fun c5 => ?_)
  ·
    refine k_aload_n X dX5_deliver_18 rfl rfl ?_
    refine k_iload_n X dX5_deliver_19 rfl rfl ?_
    refine k_aload_n X dX5_deliver_20 rfl rfl ?_
    refine k_aload_n X dX5_deliver_21 rfl rfl ?_
    refine k_callV (rest := []) X kv_X5_deliverChange kb_360 (c_deliverChange X.tr hX hO hd hk) hX.1.1.1 rfl rfl rfl rfl rfl (Nat.le_of_ble_eq_true rfl) ⟨by rw [hR]; exact Nat.le_of_ble_eq_true rfl, by rw [hR]; exact Nat.le_of_ble_eq_true rfl⟩ ⟨by rw [hR]; dsimp only; omega, by rw [hR]; dsimp only; omega⟩ dX5_deliver_22 (fun v22 C9 L9 h9 => ?_)
    obtain ⟨r, S1, N1, rfl, hm, hX1, hfr1, hL1⟩ := h9
    exact k_iret X hE dX5_deliver_25 (by first | omega | exact Nat.le_of_ble_eq_true rfl | (dsimp only; omega)) (by first | omega | exact Nat.le_of_ble_eq_true rfl | (dsimp only; omega)) ⟨_, _, _, rfl, by first | exact Or.inl ⟨c5, hm⟩ | exact Or.inr ⟨c5, hm⟩, hX1, hfr1, hL1⟩
  ·
    refine k_aload_n X dX5_deliver_8 rfl rfl ?_
    refine k_iload_n X dX5_deliver_9 rfl rfl ?_
    refine k_aload_n X dX5_deliver_10 rfl rfl ?_
    refine k_aload_n X dX5_deliver_11 rfl rfl ?_
    refine k_callV (rest := []) X kv_X5_deliverMaking kb_348 (c_deliverMaking X.tr hX hO hd hk) hX.1.1.1 rfl rfl rfl rfl rfl (Nat.le_of_ble_eq_true rfl) ⟨by rw [hR]; exact Nat.le_of_ble_eq_true rfl, by rw [hR]; exact Nat.le_of_ble_eq_true rfl⟩ ⟨by rw [hR]; dsimp only; omega, by rw [hR]; dsimp only; omega⟩ dX5_deliver_12 (fun v12 C9 L9 h9 => ?_)
    obtain ⟨r, S1, N1, rfl, hm, hX1, hfr1, hL1⟩ := h9
    refine k_goto (tgt := 25) X dX5_deliver_15 (by decide) ?_
    exact k_iret X hE dX5_deliver_25 (by first | omega | exact Nat.le_of_ble_eq_true rfl | (dsimp only; omega)) (by first | omega | exact Nat.le_of_ble_eq_true rfl | (dsimp only; omega)) ⟨_, _, _, rfl, by first | exact Or.inl ⟨c5, hm⟩ | exact Or.inr ⟨c5, hm⟩, hX1, hfr1, hL1⟩

theorem kin.ex {x : Int32} {a b : Nat} (h : kin x (nI a) (nI b)) (ha : a < 2 ^ 31) (hb : b < 2 ^ 31) : ∃ n : Nat, a ≤ n ∧ n ≤ b ∧ x = nI n := by
  have h0 : ¬ x < 0 := fun z => h.1 (Int32.lt_of_lt_of_le z (nI_pos' ha))
  obtain ⟨j, hj, rfl⟩ := nI_of h0
  exact ⟨j, Nat.le_of_not_lt fun z => h.1 (nI_lt z ha), (nI_leI hj hb).mp h.2, rfl⟩
/-- the next act of d is sent; b: 1 if it is done -/
def xStep (S : kI4) (N : kN3) (d b : Nat) (S' : kI4) (N' : kN3) : Prop := ∃ r S1 N1, xDel S (w3 N 4 d 0 (N 4 d 0 + 1)) d (N 4 d 0) r S1 N1 ∧ ((r = -1 ∧ b = 1 ∧ S' = S1 ∧ N' = N1) ∨ (r ≠ -1 ∧ b = 0 ∧ S' = w4 S1 11 d (N 4 d 0) 4 r ∧ N' = nRef N1 d (N 4 d 0)))
def xSnd (S : kI4) (N : kN3) (d : Nat) : Nat → Nat → kI4 → kN3 → Prop
  | 0, c, S', N' => c = 0 ∧ S' = S ∧ N' = N
  | m + 1, c, S', N' => ∃ c1 S1 N1 b, xSnd S N d m c1 S1 N1 ∧ xStep S1 N1 d b S' N' ∧ c = c1 + b
theorem okX.take {S S' : kI4} {N : kN3} {d : Nat} (h : okX S N) (hn : N 4 d 0 < N 3 d 0) : okX S' (w3 N 4 d 0 (N 4 d 0 + 1)) := by
  refine ⟨by rw [w3_n (by omega)]; exact h.1, fun d' hd' => ?_⟩
  have h2 := h.2 d' hd'
  rw [w3_n (show ¬ (2 = 4 ∧ _) by omega), w3_n (show ¬ (3 = 4 ∧ _) by omega), w3_n (show ¬ (5 = 4 ∧ _) by omega)]
  refine ⟨h2.1, h2.2.1, ?_, h2.2.2.2.1, fun i hi => by rw [w3_n (by omega)]; exact h2.2.2.2.2 i hi⟩
  by_cases e : d' = d
  · subst e
    rw [w3_s]
    exact hn
  · rw [w3_n (by omega)]
    exact h2.2.2.1
theorem nRef_n {N : kN3} {d k f i j : Nat} (z : f ≠ 5 ∧ f ≠ 6) : nRef N d k f i j = N f i j := (w3_n (by omega)).trans (w3_n (by omega))
theorem okX.ref {S S' : kI4} {N : kN3} {d k : Nat} (h : okX S N) (hk : k < N 3 d 0) (hn : N 5 d 0 < 512) : okX S' (nRef N d k) := by
  refine ⟨by rw [nRef_n (by omega)]; exact h.1, fun d' hd' => ?_⟩
  have h2 := h.2 d' hd'
  rw [nRef_n (show 2 ≠ 5 ∧ _ by omega), nRef_n (show 3 ≠ 5 ∧ _ by omega), nRef_n (show 4 ≠ 5 ∧ _ by omega)]
  by_cases e : d' = d
  · subst e
    rw [show nRef N d' k 5 d' 0 = N 5 d' 0 + 1 from w3_s]
    refine ⟨h2.1, h2.2.1, h2.2.2.1, by omega, fun i hi => ?_⟩
    by_cases e2 : i = N 5 d' 0
    · rw [show nRef N d' k 6 d' i = k from (w3_n (by omega)).trans (by rw [e2]; exact w3_s)]
      exact hk
    · rw [show nRef N d' k 6 d' i = N 6 d' i from (w3_n (by omega)).trans (w3_n (by omega))]
      exact h2.2.2.2.2 i (by omega)
  · have e5 : nRef N d k 5 d' 0 = N 5 d' 0 := (w3_n (by omega)).trans (w3_n (by omega))
    refine ⟨h2.1, h2.2.1, h2.2.2.1, by rw [e5]; exact h2.2.2.2.1, fun i hi => ?_⟩
    rw [e5] at hi
    rw [show nRef N d k 6 d' i = N 6 d' i from (w3_n (by omega)).trans (w3_n (by omega))]
    exact h2.2.2.2.2 i hi

set_option maxHeartbeats 4000000 in
set_option maxRecDepth 100000 in
theorem c_send {l : Launch} (htr : l.stackTraces = false) {E : kE} {A : Nat → Prop} {C : kC} {L : kL} {S : kI4} {N : kN3} (hX : isX E C L S N) (hO : okX S N) (h54 : ∀ d, d < 4 → N 5 d 0 ≤ N 4 d 0) (dv most : Int32) (m0 : Nat) (hm0 : ∀ d mo, d < 4 → dv = nI d → mo ≤ 100 → most = nI mo → min mo (N 3 d 0 - N 4 d 0) ≤ m0) : kMX l yX5_send cX5_send 8 (some .int) 9 218 (2 + 6 * m0) (12 + 900 * m0) E A C L [.ref (L (1, 0, 0)), .int dv, .int most] (fun v C' L' => (∃ d, d < 4 ∧ dv = nI d ∧ ∃ mo, 1 ≤ mo ∧ mo ≤ 100 ∧ most = nI mo ∧ ∃ c S1 N1, xSnd S N d (min mo (N 3 d 0 - N 4 d 0)) c S1 N1 ∧ v = some (.int (nI c)) ∧ isX E C' L' (w4 S1 12 0 0 0 (S1 12 0 0 0 + nI c)) N1) ∧ kFr C L C' L' ∧ ∀ t : kT, t.1 ≤ 1 → L' t = L t) (fun X9 => (X9 = eIO ∧ ¬ kix dv 4) ∨ (X9 = eIA ∧ kix dv 4 ∧ ¬ (kin most (nI 1) (nI 100)))) := by
  obtain ⟨vl2, hl2⟩ := hX.1.2.1.hd
  have hb1 := hO.1
  refine kMX.of htr (by decide) (Nat.le_of_ble_eq_true rfl) (fun Γ hl hR hN X hE hT => ?_)
  refine k_lo (lo' := [(0, .ref (L (1, 0, 0))), (1, .int dv), (2, .int most)]) ⟨rfl, rfl, rfl, trivial⟩ ?_
  refine k_aload_n X dX5_send_0 rfl rfl ?_
  refine k_iload_n X dX5_send_1 rfl rfl ?_
  refine k_callVX (rest := []) X hT kv_X5_deviceAt kb_221 (c_deviceAt X.tr hX hO dv) (fun _ h => ⟨Or.inl h, rfl, rfl⟩) hX.1.1.1 rfl rfl rfl rfl rfl (Nat.le_of_ble_eq_true rfl) ⟨by rw [hR]; exact Nat.le_of_ble_eq_true rfl, by rw [hR]; exact Nat.le_of_ble_eq_true rfl⟩ ⟨by rw [hR]; dsimp only; omega, by rw [hR]; dsimp only; omega⟩ ⟨by omega, by omega⟩ dX5_send_2 (fun v2 C9 L9 h9 => ?_)
  obtain ⟨⟨d, hd, rfl, rfl⟩, rfl, rfl⟩ := h9
  obtain ⟨vl8, hl8⟩ := (hX.2 d hd).2.2.2.1.hd
  obtain ⟨vl10, hl10⟩ := (hX.2 d hd).2.2.2.2.1.hd
  obtain ⟨vl12, hl12⟩ := (hX.2 d hd).2.2.2.2.2.1.hd
  have hb2 := (hO.2 d hd).1
  have hb3 := (hO.2 d hd).2.1
  have hb4 := (hO.2 d hd).2.2.1
  have hb5 := (hO.2 d hd).2.2.2.1
  have hb6 := (hO.2 d hd).2.2.2.2
  refine k_astore_n X dX5_send_5 rfl (by rw [hN]; decide) ?_
  refine k_iload_n X dX5_send_6 rfl rfl ?_
  refine k_iconst (v := (nI 1)) X dX5_send_7 (by decide) ?_
  refine k_bipush (v := (nI 100)) X dX5_send_8 (by decide) ?_
  refine k_callSX (rest := []) X hT ks_X5_checkRange kb_84 (c_checkRange X.tr most (nI 1) (nI 100)) (fun _ h => ⟨Or.inr ⟨h.1, kix.of hd (by decide), h.2⟩, rfl, rfl⟩) rfl rfl (Nat.le_of_ble_eq_true rfl) ⟨by rw [hR]; exact Nat.le_of_ble_eq_true rfl, by rw [hR]; exact Nat.le_of_ble_eq_true rfl⟩ ⟨by rw [hR]; dsimp only; omega, by rw [hR]; dsimp only; omega⟩ ⟨by omega, by omega⟩ dX5_send_10 (fun v10 C9 L9 h9 => ?_)
  obtain ⟨hp, rfl, rfl, rfl⟩ := h9
  obtain ⟨mo, hm1, hm2, rfl⟩ := hp.ex (by decide) (by decide)
  refine k_iconst (v := (nI 0)) X dX5_send_13 (by decide) ?_
  refine k_istore X dX5_send_14 (by rw [hN]; decide) ?_
  refine k_iconst (v := (nI 0)) X dX5_send_16 (by decide) ?_
  refine k_istore X dX5_send_17 (by rw [hN]; decide) ?_
  have hTm := hm0 d mo hd rfl hm2 rfl
  have tail : ∀ (c : Nat) (C8 : kC) (L8 : kL) (S8 : kI4) (N8 : kN3), xSnd S N d (min mo (N 3 d 0 - N 4 d 0)) c S8 N8 → isX E C8 L8 S8 N8 → kFr C L C8 L8 → (∀ t : kT, (t.1 ≤ 1 ∨ t.1 = 5) → L8 t = L t) → kW Γ E A C8 L8 (2 + 6 * m0) (12 + 900 * m0) 75 [(0, .ref (L8 (1, 0, 0))), (1, .int (nI d)), (2, .int (nI mo)), (3, .ref (L8 (5, d, 0))), (4, .int (nI c))] [] := by
    intro c C8 L8 S8 N8 hs8 hX8 hfr8 hL8
    refine k_aload_n X dX5_send_75 rfl rfl ?_
    refine k_dup X dX5_send_76 rfl ?_
    refine k_get0 X hX8.1.1.1 (q := (RX5, TX5, 3)) rfl inlX5 2 (by decide) kb_16 (Or.inl rfl) rfl rfl dX5_send_77 ?_
    refine k_iload X dX5_send_80 rfl ?_
    refine k_iadd X dX5_send_82 ?_
    refine k_put1 X hX8.1.1.1 (fs9 := [.ref (L8 (2, 0, 0)), .ref (L8 (4, 0, 0)), .int ((S8 12 0 0 0) + (nI c))]) (q := (RX5, TX5, 3)) rfl inlX5 tyX5 tyX5_ok nmX5 2 (by decide) kb_16 (Or.inl rfl) (Or.inl rfl) rfl rfl rfl (Nat.le_of_ble_eq_true rfl) rfl dX5_send_83 ?_
    refine k_iload X dX5_send_86 rfl ?_
    exact k_iret X hE dX5_send_88 (by first | omega | exact Nat.le_of_ble_eq_true rfl | (dsimp only; omega)) (by first | omega | exact Nat.le_of_ble_eq_true rfl | (dsimp only; omega)) ⟨⟨d, hd, rfl, mo, hm1, hm2, rfl, c, S8, N8, hs8, rfl, isX.s1 (kup_s.trans (by simp [w4])) hX8 (fun f d' k z => kup_n (kne1 z)) (fun _ _ _ _ => rfl) (fun f d' k j z => w4_n (by omega)) (fun _ _ _ _ => rfl)⟩, hfr8.up (by decide), fun t ht => hL8 t (Or.inl ht)⟩
  have loop : ∀ (m s c : Nat) (C8 : kC) (L8 : kL) (S8 : kI4) (N8 : kN3), s + m = min mo (N 3 d 0 - N 4 d 0) → xSnd S N d s c S8 N8 → isX E C8 L8 S8 N8 → okX S8 N8 → N8 4 d 0 = N 4 d 0 + s → N8 3 d 0 = N 3 d 0 → N8 5 d 0 ≤ N8 4 d 0 → kFr C L C8 L8 → (∀ t : kT, (t.1 ≤ 1 ∨ t.1 = 5) → L8 t = L t) → kW Γ E A C8 L8 (2 + 6 * s) (12 + 900 * s) 19 [(0, .ref (L8 (1, 0, 0))), (1, .int (nI d)), (2, .int (nI mo)), (3, .ref (L8 (5, d, 0))), (4, .int (nI c)), (5, .int (nI s))] [] := by
    intro m
    induction m with
    | zero =>
      intro s c C8 L8 S8 N8 hsT hs8 hX8 hO8 hn4 hn3 hn5 hfr8 hL8
      have hb9 := hO8.2 d hd
      rw [Nat.add_zero] at hsT
      refine k_iload X dX5_send_19 rfl ?_
      refine k_iload_n X dX5_send_21 rfl rfl ?_
      by_cases hsm : s = mo
      ·
        refine k_icmp_ge (tgt := 75) X dX5_send_22 (by decide) (fun c22 => ?_) (fun c22 => absurd (nI_le (Nat.le_of_eq hsm.symm) (by omega)) c22)
        exact k_lo (lo' := [(0, .ref (L8 (1, 0, 0))), (1, .int (nI d)), (2, .int (nI mo)), (3, .ref (L8 (5, d, 0))), (4, .int (nI c))]) ⟨rfl, rfl, rfl, rfl, rfl, trivial⟩ (k_wide (by omega) (by omega) (tail c C8 L8 S8 N8 (hsT ▸ hs8) hX8 hfr8 hL8))
      ·
        refine k_icmp_ge (tgt := 75) X dX5_send_22 (by decide) (fun c22 => absurd c22 (nI_ge (by omega) (by omega))) (fun c22 => ?_)
        refine k_aload_n X dX5_send_25 rfl rfl ?_
        refine k_callV (rest := []) X kv_X1_takeAct kb_338 (c_takeAct X.tr hX8 hO8 hd) (hX8.2 d hd).1 rfl rfl rfl rfl rfl (Nat.le_of_ble_eq_true rfl) ⟨by rw [hR]; exact Nat.le_of_ble_eq_true rfl, by rw [hR]; exact Nat.le_of_ble_eq_true rfl⟩ ⟨by rw [hR]; dsimp only; omega, by rw [hR]; dsimp only; omega⟩ dX5_send_26 (fun v26 C9 L9 h9 => ?_)
        obtain ⟨h9, rfl, hfr9⟩ := h9
        obtain ⟨h34, rfl, rfl⟩ := h9.resolve_left (fun z => by have := z.1; omega)
        refine k_astoreN X dX5_send_29 (by rw [hN]; decide) ?_
        refine k_aloadN X dX5_send_31 rfl ?_
        refine k_ifnonnullN X dX5_send_33 ?_
        refine k_goto (tgt := 75) X dX5_send_36 (by decide) ?_
        exact k_lo (lo' := [(0, .ref (L8 (1, 0, 0))), (1, .int (nI d)), (2, .int (nI mo)), (3, .ref (L8 (5, d, 0))), (4, .int (nI c))]) ⟨rfl, rfl, rfl, rfl, rfl, trivial⟩ (k_wide (by omega) (by omega) (tail c C8 L8 S8 N8 (hsT ▸ hs8) hX8 hfr8 hL8))
    | succ m ih =>
      intro s c C8 L8 S8 N8 hsT hs8 hX8 hO8 hn4 hn3 hn5 hfr8 hL8
      have hb9 := hO8.2 d hd
      refine k_iload X dX5_send_19 rfl ?_
      refine k_iload_n X dX5_send_21 rfl rfl ?_
      refine k_icmp_ge (tgt := 75) X dX5_send_22 (by decide) (fun c22 => absurd c22 (nI_ge (by omega) (by omega))) (fun c22 => ?_)
      refine k_aload_n X dX5_send_25 rfl rfl ?_
      refine k_callV (rest := []) X kv_X1_takeAct kb_338 (c_takeAct X.tr hX8 hO8 hd) (hX8.2 d hd).1 rfl rfl rfl rfl rfl (Nat.le_of_ble_eq_true rfl) ⟨by rw [hR]; exact Nat.le_of_ble_eq_true rfl, by rw [hR]; exact Nat.le_of_ble_eq_true rfl⟩ ⟨by rw [hR]; dsimp only; omega, by rw [hR]; dsimp only; omega⟩ dX5_send_26 (fun v26 C9 L9 h9 => ?_)
      obtain ⟨h9, rfl, hfr9⟩ := h9
      obtain ⟨h34, rfl, hX9⟩ := h9.resolve_right (fun z => by have := z.1; omega)
      have hO9 : okX S8 (w3 N8 4 d 0 (N8 4 d 0 + 1)) := okX.take hO8 h34
      have hk9 : N8 4 d 0 < w3 N8 4 d 0 (N8 4 d 0 + 1) 3 d 0 := by rw [w3_n (by omega)]; exact h34
      refine k_astore X dX5_send_29 (by rw [hN]; decide) ?_
      refine k_aload X dX5_send_31 rfl ?_
      refine k_ifnonnull (tgt := 39) X dX5_send_33 (by decide) ?_
      refine k_aload_n X dX5_send_39 rfl rfl ?_
      refine k_iload_n X dX5_send_40 rfl rfl ?_
      refine k_aload_n X dX5_send_41 rfl rfl ?_
      refine k_aload X dX5_send_42 rfl ?_
      refine k_callV (rest := []) X kv_X5_deliver kb_343 (c_deliver X.tr hX9 hO9 hd hk9) hX9.1.1.1 rfl rfl rfl rfl rfl (Nat.le_of_ble_eq_true rfl) ⟨by rw [hR]; exact Nat.le_of_ble_eq_true rfl, by rw [hR]; exact Nat.le_of_ble_eq_true rfl⟩ ⟨by rw [hR]; dsimp only; omega, by rw [hR]; dsimp only; omega⟩ dX5_send_44 (fun v44 C9 L9 h9 => ?_)
      obtain ⟨r, S1, N1, rfl, hdel, g1, g2, g3⟩ := h9
      obtain ⟨hO1, hN1⟩ := xDel_ok hdel hO9
      have e4 : N1 4 d 0 = N8 4 d 0 + 1 := (hN1 4 d 0 (by decide) (by decide)).trans w3_s
      have e3 : N1 3 d 0 = N8 3 d 0 := (hN1 3 d 0 (by decide) (by decide)).trans (w3_n (by omega))
      have e5 : N1 5 d 0 = N8 5 d 0 := (hN1 5 d 0 (by decide) (by decide)).trans (w3_n (by omega))
      refine k_abs2 (fun C' L' => isX E C' L' S1 N1 ∧ kFr C L C' L' ∧ ∀ t : kT, (t.1 ≤ 1 ∨ t.1 = 5 ∨ t.1 = 19) → L' t = L8 t) ⟨g1, (hfr8.tr hfr9).tr g2, g3⟩ (fun C7 L7 h7 => ?_)
      refine k_lo (lo' := [(0, .ref (L7 (1, 0, 0))), (1, .int (nI d)), (2, .int (nI mo)), (3, .ref (L7 (5, d, 0))), (4, .int (nI c)), (5, .int (nI s)), (6, .ref (L7 (19, d, N8 4 d 0)))]) ⟨kLR (h7.2.2 (1, 0, 0) (by first | exact Or.inl (show (1 : Nat) ≤ 1 by decide) | exact Or.inr (Or.inl (show (1 : Nat) = 5 by decide)) | exact Or.inr (Or.inr (show (1 : Nat) = 19 by decide)))), rfl, rfl, kLR (h7.2.2 (5, d, 0) (by first | exact Or.inl (show (5 : Nat) ≤ 1 by decide) | exact Or.inr (Or.inl (show (5 : Nat) = 5 by decide)) | exact Or.inr (Or.inr (show (5 : Nat) = 19 by decide)))), rfl, rfl, kLR (h7.2.2 (19, d, N8 4 d 0) (by first | exact Or.inl (show (19 : Nat) ≤ 1 by decide) | exact Or.inr (Or.inl (show (19 : Nat) = 5 by decide)) | exact Or.inr (Or.inr (show (19 : Nat) = 19 by decide)))), trivial⟩ ?_
      refine k_istore X dX5_send_47 (by rw [hN]; decide) ?_
      refine k_iload X dX5_send_49 rfl ?_
      refine k_iconst (v := (-1)) X dX5_send_51 (by decide) ?_
      refine k_icmp_ne (tgt := 61) X dX5_send_52 (by decide) (fun c52 => ?_) (fun c52 => ?_)
      ·
        refine k_aload_n X dX5_send_61 rfl rfl ?_
        refine k_aload X dX5_send_62 rfl ?_
        refine k_iload X dX5_send_64 rfl ?_
        refine k_callV (rest := []) X kv_X1_refuse kb_372 (c_refuse X.tr h7.1 hO1 hd (k := N8 4 d 0) (by omega) r) (h7.1.2 d hd).1 rfl rfl rfl rfl rfl (Nat.le_of_ble_eq_true rfl) ⟨by rw [hR]; exact Nat.le_of_ble_eq_true rfl, by rw [hR]; exact Nat.le_of_ble_eq_true rfl⟩ ⟨by rw [hR]; dsimp only; omega, by rw [hR]; dsimp only; omega⟩ dX5_send_66 (fun v66 C9 L9 h9 => ?_)
        obtain ⟨rfl, g4, g5, g6⟩ := h9
        refine k_lo (lo' := [(0, .ref (L9 (1, 0, 0))), (1, .int (nI d)), (2, .int (nI mo)), (3, .ref (L9 (5, d, 0))), (4, .int (nI c)), (5, .int (nI s))]) ⟨kLR (g6 (1, 0, 0) (show (1 : Nat) ≠ 13 by decide)), rfl, rfl, kLR (g6 (5, d, 0) (show (5 : Nat) ≠ 13 by decide)), rfl, rfl, trivial⟩ ?_
        refine k_iinc (v := (nI (s + 1))) X dX5_send_69 rfl (by rw [show Int32.ofInt 1 = nI 1 from by decide, nI_add]) (by rw [hN]; decide) ?_
        refine k_goto (tgt := 19) X dX5_send_72 (by decide) ?_
        refine k_lo (lo' := [(0, .ref (L9 (1, 0, 0))), (1, .int (nI d)), (2, .int (nI mo)), (3, .ref (L9 (5, d, 0))), (4, .int (nI (c))), (5, .int (nI (s + 1)))]) ⟨rfl, rfl, rfl, rfl, rfl, rfl, trivial⟩ ?_
        exact k_wide (by omega) (by omega) (ih (s + 1) c C9 L9 (w4 S1 11 d (N8 4 d 0) 4 r) (nRef N1 d (N8 4 d 0)) (by omega) ⟨c, S8, N8, 0, hs8, ⟨r, S1, N1, hdel, Or.inr ⟨c52, rfl, rfl, rfl⟩⟩, rfl⟩ g4 (okX.ref (S := S1) hO1 (by omega) (by omega)) (by rw [nRef_n (by omega)]; omega) (by rw [nRef_n (by omega)]; omega) (by rw [nRef_n (show 4 ≠ 5 ∧ 4 ≠ 6 by omega), show nRef N1 d (N8 4 d 0) 5 d 0 = N1 5 d 0 + 1 from w3_s]; omega) (h7.2.1.tr g5) (fun t ht => (g6 t (by omega)).trans ((h7.2.2 t (by omega)).trans (hL8 t ht))))
      ·
        refine k_iinc (v := (nI (c + 1))) X dX5_send_55 rfl (by rw [show Int32.ofInt 1 = nI 1 from by decide, nI_add]) (by rw [hN]; decide) ?_
        refine k_goto (tgt := 69) X dX5_send_58 (by decide) ?_
        refine k_iinc (v := (nI (s + 1))) X dX5_send_69 rfl (by rw [show Int32.ofInt 1 = nI 1 from by decide, nI_add]) (by rw [hN]; decide) ?_
        refine k_goto (tgt := 19) X dX5_send_72 (by decide) ?_
        refine k_lo (lo' := [(0, .ref (L7 (1, 0, 0))), (1, .int (nI d)), (2, .int (nI mo)), (3, .ref (L7 (5, d, 0))), (4, .int (nI (c + 1))), (5, .int (nI (s + 1)))]) ⟨rfl, rfl, rfl, rfl, rfl, rfl, trivial⟩ ?_
        exact k_wide (by omega) (by omega) (ih (s + 1) (c + 1) C7 L7 S1 N1 (by omega) ⟨c, S8, N8, 1, hs8, ⟨r, S1, N1, hdel, Or.inl ⟨c52, rfl, rfl, rfl⟩⟩, rfl⟩ h7.1 hO1 (by omega) (by omega) (by omega) h7.2.1 (fun t ht => (h7.2.2 t (by omega)).trans (hL8 t ht)))
  exact k_lo (lo' := [(0, .ref (L (1, 0, 0))), (1, .int (nI d)), (2, .int (nI mo)), (3, .ref (L (5, d, 0))), (4, .int (nI 0)), (5, .int (nI 0))]) ⟨rfl, rfl, rfl, rfl, rfl, rfl, trivial⟩ (loop (min mo (N 3 d 0 - N 4 d 0)) 0 0 C L S N (by omega) ⟨rfl, rfl, rfl⟩ hX hO rfl rfl (h54 d hd) kFr.rf (fun _ _ => rfl))
