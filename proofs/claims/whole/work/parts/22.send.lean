def kStep (x y : Int32) : Prop := (x = nI 0 ∧ y = nI 1) ∨ (x = nI 1 ∧ y = nI 2)
/-- a making is sent -/
def xMaking (S : kI4) (N : kN3) (d k : Nat) (r : Int32) (S' : kI4) (N' : kN3) : Prop :=
  ((N 1 0 0 = 40 ∨ ∀ q, q < N 2 d 0 → S 11 d k 0 ≠ nI (1000 + q)) ∧ r = nI 3 ∧ S' = S ∧ N' = N) ∨
  ∃ q, q < N 2 d 0 ∧ S 11 d k 0 = nI (1000 + q) ∧ N 1 0 0 < 40 ∧ r = -1 ∧ S' = sAddJ (sNum S d q (N 1 0 0)) (N 1 0 0) (nI d) (S 11 d k 2) ∧ N' = nAddJ (nHold N d (N 1 0 0))
def xVer (S : kI4) (i : Nat) (f : Int32) : Int32 := if f = nI 0 then S 3 i 0 2 else S 3 i 0 3
def xChi (S : kI4) (d k i : Nat) (r : Int32) (S' : kI4) : Prop :=
  (S 2 i 0 0 ≠ nI d ∧ r = nI 0 ∧ S' = S) ∨
  (S 2 i 0 0 = nI d ∧ xVer S i (S 11 d k 1) ≠ S 11 d k 3 ∧ r = nI 1 ∧ S' = S) ∨
  (S 2 i 0 0 = nI d ∧ xVer S i (S 11 d k 1) = S 11 d k 3 ∧ S 11 d k 1 = 0 ∧ ¬ kStep (S 3 i 0 0) (S 11 d k 2) ∧ r = nI 2 ∧ S' = S) ∨
  (S 2 i 0 0 = nI d ∧ xVer S i (S 11 d k 1) = S 11 d k 3 ∧ (S 11 d k 1 ≠ 0 ∨ kStep (S 3 i 0 0) (S 11 d k 2)) ∧ r = -1 ∧ S' = sPut S 3 i 0 (S 11 d k 1) (S 11 d k 2))
/-- a change is sent -/
def xChg (S : kI4) (N : kN3) (d k : Nat) (r : Int32) (S' : kI4) (N' : kN3) : Prop :=
  N' = N ∧ ∃ x, kCn S N d (S 11 d k 0) x ∧ ((¬ kix x (N 1 0 0) ∧ r = nI 3 ∧ S' = S) ∨ ∃ i, i < N 1 0 0 ∧ x = nI i ∧ xChi S d k i r S')
def xDel (S : kI4) (N : kN3) (d k : Nat) (r : Int32) (S' : kI4) (N' : kN3) : Prop := (S 11 d k 1 = -1 ∧ xMaking S N d k r S' N') ∨ (S 11 d k 1 ≠ -1 ∧ xChg S N d k r S' N')
theorem nHold_o {N : kN3} {d n f i k : Nat} (z : f ≠ 11) : nHold N d n f i k = N f i k := nHold_n (by omega)
theorem xDel_ok {S : kI4} {N : kN3} {d k : Nat} {r : Int32} {S' : kI4} {N' : kN3} (h : xDel S N d k r S' N') (hO : okX S N) : okX S' N' ∧ ∀ f i j, f ≠ 1 → f ≠ 11 → N' f i j = N f i j := by
  rcases h with ⟨_, ⟨_, _, rfl, rfl⟩ | ⟨q, _, _, h4, _, rfl, rfl⟩⟩ | ⟨_, rfl, _⟩
  · exact ⟨hO, fun _ _ _ _ _ => rfl⟩
  · refine ⟨okX.addJ (S := S) (okX.hold hO) (by rw [nHold_o (by omega)]; exact h4), fun f i j h1 h2 => ?_⟩
    unfold nAddJ
    rw [w3_n (by omega), nHold_o h2]
  · exact ⟨hO, fun _ _ _ _ _ => rfl⟩

theorem sHold_n {S : kI4} {d n : Nat} {g : Nat → Int32} {f d' k j : Nat} (z : ¬ ((f = 5 ∨ f = 6 ∨ f = 8) ∧ d' = d)) : sHold S d n g f d' k j = S f d' k j := by
  unfold sHold
  by_cases h : S 5 d n 0 = 0
  · rw [if_pos h, w4_n (by omega), w4_n (by omega), sCopy_n (by omega)]
  · rw [if_neg h, sCopy_n (by omega)]

set_option maxHeartbeats 4000000 in
set_option maxRecDepth 100000 in
theorem c_deliverMaking {l : Launch} (htr : l.stackTraces = false) {E : kE} {A : Nat → Prop} {C : kC} {L : kL} {S : kI4} {N : kN3} (hX : isX E C L S N) (hO : okX S N) {d : Nat} (hd : d < 4) {k : Nat} (hk : k < N 3 d 0)  : kM l yX5_deliverMaking cX5_deliverMaking 5 (some .int) 7 171 4 100 E A C L [.ref (L (1, 0, 0)), .int (nI d), .ref (L (5, d, 0)), .ref (L (19, d, k))] (fun v C' L' => ∃ r S' N', v = some (.int r) ∧ xMaking S N d k r S' N' ∧ isX E C' L' S' N' ∧ kFr C L C' L' ∧ ∀ t : kT, (t.1 ≤ 1 ∨ t.1 = 5 ∨ t.1 = 19) → L' t = L t) := by
  obtain ⟨vl2, hl2⟩ := hX.1.2.1.hd
  have hb1 := hO.1
  have hb2 := (hO.2 d hd).1
  refine kM.of htr (by decide) (Nat.le_of_ble_eq_true rfl) (fun Γ hl hR hN hnm X hE => ?_)
  refine k_lo (lo' := [(0, .ref (L (1, 0, 0))), (1, .int (nI d)), (2, .ref (L (5, d, 0))), (3, .ref (L (19, d, k)))]) ⟨rfl, rfl, rfl, rfl, trivial⟩ ?_
  refine k_aload_n X dX5_deliverMaking_0 rfl rfl ?_
  refine k_aload_n X dX5_deliverMaking_1 rfl rfl ?_
  refine k_get0 X ((hX.2 d hd).2.2.2.2.2.2.2.2 k hk) (q := (RX0, TX0, 5)) rfl inlX0 0 (by decide) kb_572 (Or.inl rfl) rfl rfl dX5_deliverMaking_2 ?_
  refine k_callV (rest := []) X kv_X1_madeJob kb_546 (c_madeJob X.tr hX hO hd (S 11 d k 0)) (hX.2 d hd).1 rfl rfl rfl rfl rfl (Nat.le_of_ble_eq_true rfl) ⟨by rw [hR]; exact Nat.le_of_ble_eq_true rfl, by rw [hR]; exact Nat.le_of_ble_eq_true rfl⟩ ⟨by rw [hR]; dsimp only; omega, by rw [hR]; dsimp only; omega⟩ dX5_deliverMaking_5 (fun v5 C9 L9 h9 => ?_)
  obtain ⟨(⟨q, hq, hjob, rfl⟩ | ⟨hno, rfl⟩), rfl, rfl⟩ := h9
  ·
    refine k_astore X dX5_deliverMaking_8 (by rw [hN]; decide) ?_
    refine k_aload X dX5_deliverMaking_10 rfl ?_
    refine k_ifnull X dX5_deliverMaking_12 ?_
    refine k_aload_n X dX5_deliverMaking_15 rfl rfl ?_
    refine k_get0 X hX.1.1.1 (q := (RX5, TX5, 3)) rfl inlX5 0 (by decide) kb_16 (Or.inl rfl) rfl rfl dX5_deliverMaking_16 ?_
    refine k_callV (rest := []) X kv_Jx4a65c_size_8abf5 kb_98 (c_Ls_size X.tr hX.1.2.1) hl2 rfl rfl rfl rfl rfl (Nat.le_of_ble_eq_true rfl) ⟨by rw [hR]; exact Nat.le_of_ble_eq_true rfl, by rw [hR]; exact Nat.le_of_ble_eq_true rfl⟩ ⟨by rw [hR]; dsimp only; omega, by rw [hR]; dsimp only; omega⟩ dX5_deliverMaking_19 (fun v19 C9 L9 h9 => ?_)
    obtain ⟨rfl, rfl, rfl⟩ := h9
    refine k_bipush (v := (nI 40)) X dX5_deliverMaking_22 (by decide) ?_
    refine k_icmp_lt (tgt := 29) X dX5_deliverMaking_24 (by decide) (fun c24 => ?_) (fun c24 => ?_)
    ·
      refine k_aload_n X dX5_deliverMaking_29 rfl rfl ?_
      refine k_aload X dX5_deliverMaking_30 rfl ?_
      refine k_aload_n X dX5_deliverMaking_32 rfl rfl ?_
      refine k_get0 X hX.1.1.1 (q := (RX5, TX5, 3)) rfl inlX5 0 (by decide) kb_16 (Or.inl rfl) rfl rfl dX5_deliverMaking_33 ?_
      refine k_callV (rest := [.ref (L (17, d, q)), .ref (L (5, d, 0))]) X kv_Jx4a65c_size_8abf5 kb_98 (c_Ls_size X.tr hX.1.2.1) hl2 rfl rfl rfl rfl rfl (Nat.le_of_ble_eq_true rfl) ⟨by rw [hR]; exact Nat.le_of_ble_eq_true rfl, by rw [hR]; exact Nat.le_of_ble_eq_true rfl⟩ ⟨by rw [hR]; dsimp only; omega, by rw [hR]; dsimp only; omega⟩ dX5_deliverMaking_36 (fun v36 C9 L9 h9 => ?_)
      obtain ⟨rfl, rfl, rfl⟩ := h9
      have h40 : N 1 0 0 < 40 := (nI_ltI (by omega) (by decide)).mp c24
      refine k_callV (rest := []) X kv_X1_giveNumber kb_574 (c_giveNumber X.tr hX hO hd hq h40) (hX.2 d hd).1 rfl rfl rfl rfl rfl (Nat.le_of_ble_eq_true rfl) ⟨by rw [hR]; exact Nat.le_of_ble_eq_true rfl, by rw [hR]; exact Nat.le_of_ble_eq_true rfl⟩ ⟨by rw [hR]; dsimp only; omega, by rw [hR]; dsimp only; omega⟩ dX5_deliverMaking_39 (fun v39 C9 L9 h9 => ?_)
      obtain ⟨rfl, g1, g2, g3⟩ := h9
      refine k_abs2 (fun C' L' => isX E C' L' (sNum S d q (N 1 0 0)) (nHold N d (N 1 0 0)) ∧ kFr C L C' L' ∧ ∀ t : kT, t.1 ≠ 16 → L' t = L t) ⟨g1, g2, g3⟩ (fun C1 L1 h1 => ?_)
      refine k_lo (lo' := [(0, .ref (L1 (1, 0, 0))), (1, .int (nI d)), (2, .ref (L1 (5, d, 0))), (3, .ref (L1 (19, d, k)))]) ⟨kLR (h1.2.2 (1, 0, 0) (show (1 : Nat) ≠ 16 by decide)), rfl, kLR (h1.2.2 (5, d, 0) (show (5 : Nat) ≠ 16 by decide)), kLR (h1.2.2 (19, d, k) (show (19 : Nat) ≠ 16 by decide)), trivial⟩ ?_
      have n1 : nHold N d (N 1 0 0) 1 0 0 = N 1 0 0 := nHold_n (by omega)
      have n3 : nHold N d (N 1 0 0) 3 d 0 = N 3 d 0 := nHold_n (by omega)
      obtain ⟨vl2c, hl2c⟩ := h1.1.1.2.1.hd
      refine k_aload_n X dX5_deliverMaking_42 rfl rfl ?_
      refine k_get0 X h1.1.1.1.1 (q := (RX5, TX5, 3)) rfl inlX5 0 (by decide) kb_16 (Or.inl rfl) rfl rfl dX5_deliverMaking_43 ?_
      refine k_new0 X (14, (N 1 0 0), 0) (ci := 4) (q := (RX3, TX3, 3)) rfl inlX3 tyX3 tyX3_ok kb_90 kb_91 kb_92 (fs := [.int 0, .int 0, .null]) (fun j hj => by rcases (show j = 0 ∨ j = 1 ∨ j = 2 from by have : j < 3 := hj; omega) with rfl | rfl | rfl <;> rfl) dX5_deliverMaking_46 (by rw [hR]; dsimp only; omega) (by rw [hR]; dsimp only; omega) (fun q9 => ?_)
      refine k_dup X dX5_deliverMaking_49 rfl ?_
      refine k_iload_n X dX5_deliverMaking_50 rfl rfl ?_
      refine k_aload_n X dX5_deliverMaking_51 rfl rfl ?_
      refine k_get0 X ((kup_n (kne1 (by decide))).trans ((h1.1.2 d hd).2.2.2.2.2.2.2.2 k (by rw [n3]; exact hk))) (q := (RX0, TX0, 5)) rfl inlX0 2 (by decide) kb_573 (Or.inl rfl) ((kup_n (kne1 (by decide))).trans rfl) rfl dX5_deliverMaking_52 ?_
      refine k_rw (y := S 11 d k 2) (by unfold sNum; rw [sHold_n (by omega)]; exact (w4_n (by omega)).trans (w4_n (by omega))) ?_
      refine k_callI (rest := [.ref q9, .ref (L1 (2, 0, 0))]) X ki_X3_init kb_103 (c_X3_init X.tr (t := (14, (N 1 0 0), 0)) (tF := (15, (N 1 0 0), 0)) (nI d) (S 11 d k 2) (kne1 (by decide)) kup_s kup_s) rfl rfl (Nat.le_of_ble_eq_true rfl) ⟨by rw [hR]; exact Nat.le_of_ble_eq_true rfl, by rw [hR]; exact Nat.le_of_ble_eq_true rfl⟩ ⟨by rw [hR]; dsimp only; omega, by rw [hR]; dsimp only; omega⟩ dX5_deliverMaking_55 (fun v55 C9 L9 h9 => ?_)
      obtain ⟨q8, rfl, rfl, i1, i2, i3⟩ := h9
      have hCk : ∀ t : kT, t ≠ (14, (N 1 0 0), 0) → t ≠ (15, (N 1 0 0), 0) → C9 t = C1 t := fun t h1 h2 => (i3 t h1 h2).trans (kup_n h1)
      have hLk : ∀ t : kT, t ≠ (14, (N 1 0 0), 0) → t ≠ (15, (N 1 0 0), 0) → (kup (kup L1 (14, (N 1 0 0), 0) q9) (15, (N 1 0 0), 0) q8) t = L1 t := fun t h1 h2 => (kup_n h2).trans (kup_n h1)
      have hq9 : (kup (kup L1 (14, (N 1 0 0), 0) q9) (15, (N 1 0 0), 0) q8) (14, (N 1 0 0), 0) = q9 := (kup_n (kne1 (by decide))).trans kup_s
      obtain ⟨vl2b, hl2b⟩ := h1.1.1.2.1.hd
      have hn9 : (nHold N d (N 1 0 0)) 1 0 0 = (N 1 0 0) := n1
      have hl9 := h1.1.1.2.1
      rw [hn9] at hl9
      refine k_callV (rest := []) X kv_Jx4a65c_add_9ea2d kb_120 (c_Ls_addA X.tr (fh := 2) (fa := 3) (d := 0) (ft := 14) (dt := (N 1 0 0)) (kt := 0) (ci := 4) (r := (RX3, TX3, 3)) (hLk _ (kne1 (by decide)) (kne1 (by decide))) hq9 (hl9.keep (hCk _ (kne1 (by decide)) (kne1 (by decide))) (hCk _ (kne1 (by decide)) (kne1 (by decide))) (hLk _ (kne1 (by decide)) (kne1 (by decide))) (fun j hj => hLk (14, j, 0) (kne2 (by omega)) (kne1 (by decide)))) (by omega) ((hCk _ (kne1 (by decide)) (kne1 (by decide))).trans h1.1.1.1.2) rfl (by simp [kCas]) i1 (by decide) (by decide) (by decide) (by decide) (by decide) (by decide) (fun i hi => ⟨14, i, 0, _, by decide, by decide, rfl, (hCk _ (kne2 (by omega)) (kne1 (by decide))).trans (h1.1.1.2.2.2 i (by rw [hn9]; exact hi)).1⟩)) ((hCk _ (kne1 (by decide)) (kne1 (by decide))).trans hl2b) rfl rfl (hLk _ (kne1 (by decide)) (kne1 (by decide))) rfl rfl (Nat.le_of_ble_eq_true rfl) ⟨by rw [hR]; exact Nat.le_of_ble_eq_true rfl, by rw [hR]; exact Nat.le_of_ble_eq_true rfl⟩ ⟨by rw [hR]; dsimp only; omega, by rw [hR]; dsimp only; omega⟩ dX5_deliverMaking_58 (fun v58 C9 L9 h9 => ?_)
      obtain ⟨rfl, e1, e2, e3⟩ := h9
      refine k_abs2 (fun C' L' => isX E C' L' (sAddJ (sNum S d q (N 1 0 0)) (N 1 0 0) (nI d) (S 11 d k 2)) (nAddJ (nHold N d (N 1 0 0))) ∧ (∀ t : kT, t.1 ≠ 2 → t.1 ≠ 3 → t.1 ≠ 14 → t.1 ≠ 15 → C' t = C1 t) ∧ (∀ t : kT, t.1 ≠ 3 → t.1 ≠ 14 → t.1 ≠ 15 → L' t = L1 t)) ⟨isX.addJn hn9 (e3 _ (fun j hj => e2 _ (kne1 (by decide))) ((e2 _ (kne1 (by decide))).trans hq9)) (by unfold nAddJ; rw [w3_s, hn9]) ((e1 _ (kne1 (by decide)) (kne1 (by decide))).trans (i1.trans ?_)) ((e1 _ (kne1 (by decide)) (kne1 (by decide))).trans (i2.trans (by simp [kF, sAddJ]))) h1.1 (fun f d' k z => ?_) (fun f d' k z => ?_) (fun f d' k j z => sAddJ_n z) (fun f d' k z => w3_n (by omega)), fun t h1 h2 h3 h4 => (e1 t (fun e => h1 (congrArg Prod.fst e)) (fun e => h2 (congrArg Prod.fst e))).trans (hCk t (fun e => h3 (congrArg Prod.fst e)) (fun e => h4 (congrArg Prod.fst e))), fun t h2 h3 h4 => (e2 t (fun e => h2 (congrArg Prod.fst e))).trans (hLk t (fun e => h3 (congrArg Prod.fst e)) (fun e => h4 (congrArg Prod.fst e)))⟩ (fun CJ LJ hJ => ?_)
      · rw [e2 (15, (N 1 0 0), 0) (kne1 (by decide)), kup_s]
        simp [sAddJ]
      · exact (e1 _ (fun e => z (Or.inl (congrArg Prod.fst e))) (fun e => z (Or.inr (Or.inl (congrArg Prod.fst e))))).trans (hCk _ (kneD2 (by omega)) (kneD2 (by omega)))
      · exact (e2 _ (fun e => z (Or.inl (congrArg Prod.fst e)))).trans (hLk _ (kneD2 (by omega)) (kneD2 (by omega)))
      obtain ⟨hXJ, hCJ, hLJ⟩ := hJ
      refine k_pop X dX5_deliverMaking_61 rfl ?_
      refine k_iconst (v := (-1)) X dX5_deliverMaking_62 (by decide) ?_
      exact k_iret X hE dX5_deliverMaking_63 (by first | omega | exact Nat.le_of_ble_eq_true rfl | (dsimp only; omega)) (by first | omega | exact Nat.le_of_ble_eq_true rfl | (dsimp only; omega)) ⟨_, _, _, rfl, Or.inr ⟨q, hq, hjob, h40, rfl, rfl, rfl⟩, hXJ, fun t ht => ⟨(hCJ t (by omega) (by omega) (by omega) (by omega)).trans (h1.2.1 t ht).1, (hLJ t (by omega) (by omega) (by omega)).trans (h1.2.1 t ht).2⟩, fun t ht => (hLJ t (by omega) (by omega) (by omega)).trans (h1.2.2 t (by omega))⟩
    ·
      refine k_iconst (v := (nI 3)) X dX5_deliverMaking_27 (by decide) ?_
      exact k_iret X hE dX5_deliverMaking_28 (by first | omega | exact Nat.le_of_ble_eq_true rfl | (dsimp only; omega)) (by first | omega | exact Nat.le_of_ble_eq_true rfl | (dsimp only; omega)) ⟨_, _, _, rfl, Or.inl ⟨by first | exact Or.inr hno | (left; have h41 : ¬ N 1 0 0 < 40 := fun z => c24 (nI_lt z (by decide)); omega), rfl, rfl, rfl⟩, hX, kFr.rf, fun _ _ => rfl⟩
  ·
    refine k_astoreN X dX5_deliverMaking_8 (by rw [hN]; decide) ?_
    refine k_aloadN X dX5_deliverMaking_10 rfl ?_
    refine k_ifnullN (tgt := 27) X dX5_deliverMaking_12 (by decide) ?_
    refine k_iconst (v := (nI 3)) X dX5_deliverMaking_27 (by decide) ?_
    exact k_iret X hE dX5_deliverMaking_28 (by first | omega | exact Nat.le_of_ble_eq_true rfl | (dsimp only; omega)) (by first | omega | exact Nat.le_of_ble_eq_true rfl | (dsimp only; omega)) ⟨_, _, _, rfl, Or.inl ⟨by first | exact Or.inr hno | (left; have h41 : ¬ N 1 0 0 < 40 := fun z => c24 (nI_lt z (by decide)); omega), rfl, rfl, rfl⟩, hX, kFr.rf, fun _ _ => rfl⟩
