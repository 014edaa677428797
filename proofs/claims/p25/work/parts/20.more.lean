theorem kLR {L9 L : kL} {t : kT} (e : L9 t = L t) : (some (.ref (L t)) : Option Value) = some (.ref (L9 t)) := by rw [e]
theorem kHf.fh {S : kI4} {N : kN3} {d : Nat} {x : Int32} {t : kT} (h : kHf S N d x (some t)) : ∃ ff fS kk, t = (ff, d, kk) ∧ kFh N d ff fS kk := by
  rcases h with ⟨k, h1, h2, h3, h4⟩ | ⟨h1, r, h2, ⟨n, h3, h4, h5, ⟨h6, h7⟩ | ⟨h6, h7⟩⟩ | ⟨h3, h4⟩⟩
  · exact ⟨18, 10, k, Option.some.inj h4, Or.inr ⟨rfl, rfl, h1⟩⟩
  · exact ⟨16, 8, n, Option.some.inj h7, Or.inl ⟨rfl, rfl, h6⟩⟩
  · cases h7
  · cases h4
theorem isX.addJn {E : kE} {C C' : kC} {L L' : kL} {S S' : kI4} {N N' : kN3} {n : Nat} (hn : N 1 0 0 = n) (hl : kLs E C' L' 2 3 0 (n + 1) (fun j => L' (14, j, 0))) (hN1 : N' 1 0 0 = n + 1) (hj : C' (14, n, 0) = some (.inr (4, [.int (S' 1 n 0 0), .int (S' 2 n 0 0), .ref (L' (15, n, 0))]))) (hv : C' (15, n, 0) = some (kF S' 3 n 0)) (h : isX E C L S N) (hC : ∀ f d' k, ¬ (f = 2 ∨ f = 3 ∨ ((f = 14 ∨ f = 15) ∧ d' = n)) → C' (f, d', k) = C (f, d', k)) (hL : ∀ f d' k, ¬ (f = 3 ∨ ((f = 14 ∨ f = 15) ∧ d' = n)) → L' (f, d', k) = L (f, d', k)) (hS : ∀ f d' k j, ¬ ((f = 1 ∨ f = 2 ∨ f = 3) ∧ d' = n) → S' f d' k j = S f d' k j) (hN : ∀ f d' k, f ≠ 1 → N' f d' k = N f d' k) : isX E C' L' S' N' := by
  subst hn
  exact isX.addJ hl hN1 hj hv h hC hL hS hN
def sAddJ (S : kI4) (n : Nat) (cr si : Int32) : kI4 := fun f i k j => if i = n ∧ k = 0 then (if f = 1 ∧ j = 0 then si else if f = 2 ∧ j = 0 then cr else if f = 3 ∧ j < 4 then nI 0 else S f i k j) else S f i k j
theorem sAddJ_n {S : kI4} {n : Nat} {cr si : Int32} {f i k j : Nat} (z : ¬ ((f = 1 ∨ f = 2 ∨ f = 3) ∧ i = n)) : sAddJ S n cr si f i k j = S f i k j := by
  unfold sAddJ
  by_cases h : i = n ∧ k = 0
  · rw [if_pos h, if_neg (by omega), if_neg (by omega), if_neg (by omega)]
  · rw [if_neg h]
def nAddJ (N : kN3) : kN3 := w3 N 1 0 0 (N 1 0 0 + 1)
theorem okX.addJ {S S' : kI4} {N : kN3} (h : okX S N) (hn : N 1 0 0 < 40) : okX S' (nAddJ N) := by
  unfold nAddJ
  refine ⟨by rw [w3_s]; omega, fun d' hd' => ?_⟩
  have h2 := h.2 d' hd'
  rw [w3_n (show ¬ (2 = 1 ∧ _) by omega), w3_n (show ¬ (3 = 1 ∧ _) by omega), w3_n (show ¬ (4 = 1 ∧ _) by omega), w3_n (show ¬ (5 = 1 ∧ _) by omega)]
  exact ⟨h2.1, h2.2.1, h2.2.2.1, h2.2.2.2.1, fun i hi => by rw [w3_n (by omega)]; exact h2.2.2.2.2 i hi⟩

set_option maxHeartbeats 4000000 in
set_option maxRecDepth 100000 in
theorem c_add {l : Launch} (htr : l.stackTraces = false) {E : kE} {A : Nat → Prop} {C : kC} {L : kL} {S : kI4} {N : kN3} (hX : isX E C L S N) (hO : okX S N) (cr si : Int32) : kMX l yX5_add cX5_add 3 (some .int) 7 171 6 110 E A C L [.ref (L (1, 0, 0)), .int cr, .int si] (fun v C' L' => ((kin cr (nI 0) (nI 3) ∧ kin si (nI 0) (nI 9)) ∧ N 1 0 0 < 40 ∧ v = some (.int (nI (N 1 0 0))) ∧ isX E C' L' (sAddJ S (N 1 0 0) cr si) (nAddJ N)) ∧ kFr C L C' L' ∧ ∀ t : kT, t.1 ≤ 1 → L' t = L t) (fun X9 => (X9 = eIA ∧ ¬ (kin cr (nI 0) (nI 3) ∧ kin si (nI 0) (nI 9))) ∨ (X9 = eIS ∧ kin cr (nI 0) (nI 3) ∧ kin si (nI 0) (nI 9) ∧ N 1 0 0 = 40)) := by
  obtain ⟨vl2, hl2⟩ := hX.1.2.1.hd
  have hb1 := hO.1
  refine kMX.of htr (by decide) (Nat.le_of_ble_eq_true rfl) (fun Γ hl hR hN X hE hT => ?_)
  refine k_lo (lo' := [(0, .ref (L (1, 0, 0))), (1, .int cr), (2, .int si)]) ⟨rfl, rfl, rfl, trivial⟩ ?_
  refine k_iload_n X dX5_add_0 rfl rfl ?_
  refine k_iconst (v := (nI 0)) X dX5_add_1 (by decide) ?_
  refine k_iconst (v := (nI 3)) X dX5_add_2 (by decide) ?_
  refine k_callSX (rest := []) X hT ks_X5_checkRange kb_84 (c_checkRange X.tr cr (nI 0) (nI 3)) (fun _ h => ⟨Or.inl ⟨h.1, fun z => h.2 z.1⟩, rfl, rfl⟩) rfl rfl (Nat.le_of_ble_eq_true rfl) ⟨by rw [hR]; exact Nat.le_of_ble_eq_true rfl, by rw [hR]; exact Nat.le_of_ble_eq_true rfl⟩ ⟨by rw [hR]; dsimp only; omega, by rw [hR]; dsimp only; omega⟩ ⟨by omega, by omega⟩ dX5_add_3 (fun v3 C9 L9 h9 => ?_)
  obtain ⟨hp, rfl, rfl, rfl⟩ := h9
  refine k_iload_n X dX5_add_6 rfl rfl ?_
  refine k_iconst (v := (nI 0)) X dX5_add_7 (by decide) ?_
  refine k_bipush (v := (nI 9)) X dX5_add_8 (by decide) ?_
  refine k_callSX (rest := []) X hT ks_X5_checkRange kb_84 (c_checkRange X.tr si (nI 0) (nI 9)) (fun _ h => ⟨Or.inl ⟨h.1, fun z => h.2 z.2⟩, rfl, rfl⟩) rfl rfl (Nat.le_of_ble_eq_true rfl) ⟨by rw [hR]; exact Nat.le_of_ble_eq_true rfl, by rw [hR]; exact Nat.le_of_ble_eq_true rfl⟩ ⟨by rw [hR]; dsimp only; omega, by rw [hR]; dsimp only; omega⟩ ⟨by omega, by omega⟩ dX5_add_10 (fun v10 C9 L9 h9 => ?_)
  obtain ⟨hq, rfl, rfl, rfl⟩ := h9
  refine k_aload_n X dX5_add_13 rfl rfl ?_
  refine k_get0 X hX.1.1.1 (q := (RX5, TX5, 3)) rfl inlX5 0 (by decide) kb_13 (Or.inl rfl) rfl rfl dX5_add_14 ?_
  refine k_callV (rest := []) X kv_Jx4a65c_size_8abf5 kb_63 (c_Ls_size X.tr hX.1.2.1) hl2 rfl rfl rfl rfl rfl (Nat.le_of_ble_eq_true rfl) ⟨by rw [hR]; exact Nat.le_of_ble_eq_true rfl, by rw [hR]; exact Nat.le_of_ble_eq_true rfl⟩ ⟨by rw [hR]; dsimp only; omega, by rw [hR]; dsimp only; omega⟩ dX5_add_17 (fun v17 C9 L9 h9 => ?_)
  obtain ⟨rfl, rfl, rfl⟩ := h9
  refine k_bipush (v := (nI 40)) X dX5_add_20 (by decide) ?_
  refine k_icmp_lt (tgt := 35) X dX5_add_22 (by decide) (fun c22 => ?_) (fun c22 => ?_)
  ·
    refine k_aload_n X dX5_add_35 rfl rfl ?_
    refine k_get0 X hX.1.1.1 (q := (RX5, TX5, 3)) rfl inlX5 0 (by decide) kb_13 (Or.inl rfl) rfl rfl dX5_add_36 ?_
    have h40 : N 1 0 0 < 40 := (nI_ltI (by omega) (by decide)).mp c22
    refine k_new0 X (14, (N 1 0 0), 0) (ci := 4) (q := (RX3, TX3, 3)) rfl inlX3 tyX3 tyX3_ok kb_81 kb_82 kb_83 (fs := [.int 0, .int 0, .null]) (fun j hj => by rcases (show j = 0 ∨ j = 1 ∨ j = 2 from by have : j < 3 := hj; omega) with rfl | rfl | rfl <;> rfl) dX5_add_39 (by rw [hR]; dsimp only; omega) (by rw [hR]; dsimp only; omega) (fun q9 => ?_)
    refine k_dup X dX5_add_42 rfl ?_
    refine k_iload_n X dX5_add_43 rfl rfl ?_
    refine k_iload_n X dX5_add_44 rfl rfl ?_
    refine k_callI (rest := [.ref q9, .ref (L (2, 0, 0))]) X ki_X3_init kb_89 (c_X3_init X.tr (t := (14, (N 1 0 0), 0)) (tF := (15, (N 1 0 0), 0)) cr si (kne1 (by decide)) kup_s kup_s) rfl rfl (Nat.le_of_ble_eq_true rfl) ⟨by rw [hR]; exact Nat.le_of_ble_eq_true rfl, by rw [hR]; exact Nat.le_of_ble_eq_true rfl⟩ ⟨by rw [hR]; dsimp only; omega, by rw [hR]; dsimp only; omega⟩ dX5_add_45 (fun v45 C9 L9 h9 => ?_)
    obtain ⟨q8, rfl, rfl, i1, i2, i3⟩ := h9
    have hCk : ∀ t : kT, t ≠ (14, (N 1 0 0), 0) → t ≠ (15, (N 1 0 0), 0) → C9 t = C t := fun t h1 h2 => (i3 t h1 h2).trans (kup_n h1)
    have hLk : ∀ t : kT, t ≠ (14, (N 1 0 0), 0) → t ≠ (15, (N 1 0 0), 0) → (kup (kup L (14, (N 1 0 0), 0) q9) (15, (N 1 0 0), 0) q8) t = L t := fun t h1 h2 => (kup_n h2).trans (kup_n h1)
    have hq9 : (kup (kup L (14, (N 1 0 0), 0) q9) (15, (N 1 0 0), 0) q8) (14, (N 1 0 0), 0) = q9 := (kup_n (kne1 (by decide))).trans kup_s
    obtain ⟨vl2b, hl2b⟩ := hX.1.2.1.hd
    have hn9 : N 1 0 0 = (N 1 0 0) := rfl
    have hl9 := hX.1.2.1
    rw [hn9] at hl9
    refine k_callV (rest := []) X kv_Jx4a65c_add_9ea2d kb_106 (c_Ls_addA X.tr (fh := 2) (fa := 3) (d := 0) (ft := 14) (dt := (N 1 0 0)) (kt := 0) (ci := 4) (r := (RX3, TX3, 3)) (hLk _ (kne1 (by decide)) (kne1 (by decide))) hq9 (hl9.keep (hCk _ (kne1 (by decide)) (kne1 (by decide))) (hCk _ (kne1 (by decide)) (kne1 (by decide))) (hLk _ (kne1 (by decide)) (kne1 (by decide))) (fun j hj => hLk (14, j, 0) (kne2 (by omega)) (kne1 (by decide)))) (by omega) ((hCk _ (kne1 (by decide)) (kne1 (by decide))).trans hX.1.1.2) rfl (by simp [kCas]) i1 (by decide) (by decide) (by decide) (by decide) (by decide) (by decide) (fun i hi => ⟨14, i, 0, _, by decide, by decide, rfl, (hCk _ (kne2 (by omega)) (kne1 (by decide))).trans (hX.1.2.2.2 i (by rw [hn9]; exact hi)).1⟩)) ((hCk _ (kne1 (by decide)) (kne1 (by decide))).trans hl2b) rfl rfl (hLk _ (kne1 (by decide)) (kne1 (by decide))) rfl rfl (Nat.le_of_ble_eq_true rfl) ⟨by rw [hR]; exact Nat.le_of_ble_eq_true rfl, by rw [hR]; exact Nat.le_of_ble_eq_true rfl⟩ ⟨by rw [hR]; dsimp only; omega, by rw [hR]; dsimp only; omega⟩ dX5_add_48 (fun v48 C9 L9 h9 => ?_)
    obtain ⟨rfl, e1, e2, e3⟩ := h9
    refine k_abs2 (fun C' L' => isX E C' L' (sAddJ S (N 1 0 0) cr si) (nAddJ N) ∧ (∀ t : kT, t.1 ≠ 2 → t.1 ≠ 3 → t.1 ≠ 14 → t.1 ≠ 15 → C' t = C t) ∧ (∀ t : kT, t.1 ≠ 3 → t.1 ≠ 14 → t.1 ≠ 15 → L' t = L t)) ⟨isX.addJn hn9 (e3 _ (fun j hj => e2 _ (kne1 (by decide))) ((e2 _ (kne1 (by decide))).trans hq9)) (by unfold nAddJ; rw [w3_s, hn9]) ((e1 _ (kne1 (by decide)) (kne1 (by decide))).trans (i1.trans ?_)) ((e1 _ (kne1 (by decide)) (kne1 (by decide))).trans (i2.trans (by simp [kF, sAddJ]))) hX (fun f d' k z => ?_) (fun f d' k z => ?_) (fun f d' k j z => sAddJ_n z) (fun f d' k z => w3_n (by omega)), fun t h1 h2 h3 h4 => (e1 t (fun e => h1 (congrArg Prod.fst e)) (fun e => h2 (congrArg Prod.fst e))).trans (hCk t (fun e => h3 (congrArg Prod.fst e)) (fun e => h4 (congrArg Prod.fst e))), fun t h2 h3 h4 => (e2 t (fun e => h2 (congrArg Prod.fst e))).trans (hLk t (fun e => h3 (congrArg Prod.fst e)) (fun e => h4 (congrArg Prod.fst e)))⟩ (fun CJ LJ hJ => ?_)
    · rw [e2 (15, (N 1 0 0), 0) (kne1 (by decide)), kup_s]
      simp [sAddJ]
    · exact (e1 _ (fun e => z (Or.inl (congrArg Prod.fst e))) (fun e => z (Or.inr (Or.inl (congrArg Prod.fst e))))).trans (hCk _ (kneD2 (by omega)) (kneD2 (by omega)))
    · exact (e2 _ (fun e => z (Or.inl (congrArg Prod.fst e)))).trans (hLk _ (kneD2 (by omega)) (kneD2 (by omega)))
    obtain ⟨hXJ, hCJ, hLJ⟩ := hJ
    refine k_lo (lo' := [(0, .ref (LJ (1, 0, 0)))]) ⟨kLR (hLJ (1, 0, 0) (show (1 : Nat) ≠ 3 by decide) (show (1 : Nat) ≠ 14 by decide) (show (1 : Nat) ≠ 15 by decide)), trivial⟩ ?_
    obtain ⟨vl2c, hl2c⟩ := hXJ.1.2.1.hd
    refine k_pop X dX5_add_51 rfl ?_
    refine k_aload_n X dX5_add_52 rfl rfl ?_
    refine k_get0 X hXJ.1.1.1 (q := (RX5, TX5, 3)) rfl inlX5 0 (by decide) kb_13 (Or.inl rfl) rfl rfl dX5_add_53 ?_
    refine k_callV (rest := []) X kv_Jx4a65c_size_8abf5 kb_63 (c_Ls_size X.tr (n := N 1 0 0 + 1) (g := fun j => LJ (14, j, 0)) (by have h9 := hXJ.1.2.1; rw [show nAddJ N 1 0 0 = N 1 0 0 + 1 from w3_s] at h9; exact h9)) hl2c rfl rfl rfl rfl rfl (Nat.le_of_ble_eq_true rfl) ⟨by rw [hR]; exact Nat.le_of_ble_eq_true rfl, by rw [hR]; exact Nat.le_of_ble_eq_true rfl⟩ ⟨by rw [hR]; dsimp only; omega, by rw [hR]; dsimp only; omega⟩ dX5_add_56 (fun v56 C9 L9 h9 => ?_)
    obtain ⟨rfl, rfl, rfl⟩ := h9
    refine k_iconst (v := (nI 1)) X dX5_add_59 (by decide) ?_
    refine k_isubN (h := Nat.le_add_left 1 (N 1 0 0)) X dX5_add_60 ?_
    exact k_iret X hE dX5_add_61 (by first | omega | exact Nat.le_of_ble_eq_true rfl | (dsimp only; omega)) (by first | omega | exact Nat.le_of_ble_eq_true rfl | (dsimp only; omega)) ⟨⟨⟨hp, hq⟩, h40, by rw [Nat.add_sub_cancel], hXJ⟩, fun t ht => ⟨hCJ t (by omega) (by omega) (by omega) (by omega), hLJ t (by omega) (by omega) (by omega)⟩, fun t ht => hLJ t (by omega) (by omega) (by omega)⟩
  ·
    exact k_thrS X hT (Or.inr ⟨rfl, hp, hq, by have h40 : ¬ N 1 0 0 < 40 := fun z => c22 (nI_lt z (by decide)); omega⟩) (is := 37) (text := "the central store is full") (by simp [kStr]) dX5_add_25 dX5_add_28 dX5_add_29 dX5_add_31 dX5_add_34 (by rw [hR]; exact Nat.lt_of_lt_of_le (by decide : 5 < 6) (Nat.le_of_ble_eq_true rfl)) (by rw [hR]; exact Nat.le_of_ble_eq_true rfl) (by rw [hR]; dsimp only; omega) (by rw [hR]; dsimp only; omega) (by omega) (by omega)

set_option maxHeartbeats 4000000 in
set_option maxRecDepth 100000 in
theorem c_heldValue {l : Launch} (htr : l.stackTraces = false) {E : kE} {A : Nat → Prop} {C : kC} {L : kL} {S : kI4} {N : kN3} (hX : isX E C L S N) (hO : okX S N) (dv job f : Int32) : kMX l yX5_heldValue cX5_heldValue 5 (some .int) 8 130 3 18 E A C L [.ref (L (1, 0, 0)), .int dv, .int job, .int f] (fun v C' L' => (∃ d, d < 4 ∧ dv = nI d ∧ kin f (nI 0) (nI 1) ∧ ∃ ff fS kk, kHf S N d job (some (ff, d, kk)) ∧ kFh N d ff fS kk ∧ v = some (.int (if f = nI 0 then S fS d kk 0 else S fS d kk 1))) ∧ L = L' ∧ C = C') (fun X9 => (X9 = eIO ∧ ¬ kix dv 4) ∨ (X9 = eIA ∧ kix dv 4 ∧ ¬ (kin f (nI 0) (nI 1))) ∨ (X9 = eIS ∧ ∃ d, d < 4 ∧ dv = nI d ∧ (kin f (nI 0) (nI 1)) ∧ kHf S N d job none)) := by
  obtain ⟨vl2, hl2⟩ := hX.1.2.1.hd
  have hb1 := hO.1
  refine kMX.of htr (by decide) (Nat.le_of_ble_eq_true rfl) (fun Γ hl hR hN X hE hT => ?_)
  refine k_lo (lo' := [(0, .ref (L (1, 0, 0))), (1, .int dv), (2, .int job), (3, .int f)]) ⟨rfl, rfl, rfl, rfl, trivial⟩ ?_
  refine k_aload_n X dX5_heldValue_0 rfl rfl ?_
  refine k_iload_n X dX5_heldValue_1 rfl rfl ?_
  refine k_callVX (rest := []) X hT kv_X5_deviceAt kb_221 (c_deviceAt X.tr hX hO dv) (fun _ h => ⟨Or.inl h, rfl, rfl⟩) hX.1.1.1 rfl rfl rfl rfl rfl (Nat.le_of_ble_eq_true rfl) ⟨by rw [hR]; exact Nat.le_of_ble_eq_true rfl, by rw [hR]; exact Nat.le_of_ble_eq_true rfl⟩ ⟨by rw [hR]; exact Nat.le_of_ble_eq_true rfl, by rw [hR]; exact Nat.le_of_ble_eq_true rfl⟩ ⟨by omega, by omega⟩ dX5_heldValue_2 (fun v2 C9 L9 h9 => ?_)
  obtain ⟨⟨d, hd, rfl, rfl⟩, rfl, rfl⟩ := h9
  obtain ⟨vl8, hl8⟩ := (hX.2 d hd).2.2.2.1.hd
  obtain ⟨vl10, hl10⟩ := (hX.2 d hd).2.2.2.2.1.hd
  obtain ⟨vl12, hl12⟩ := (hX.2 d hd).2.2.2.2.2.1.hd
  have hb2 := (hO.2 d hd).1
  have hb3 := (hO.2 d hd).2.1
  have hb4 := (hO.2 d hd).2.2.1
  have hb5 := (hO.2 d hd).2.2.2.1
  have hb6 := (hO.2 d hd).2.2.2.2
  refine k_astore X dX5_heldValue_5 (by rw [hN]; decide) ?_
  refine k_iload_n X dX5_heldValue_7 rfl rfl ?_
  refine k_callSX (rest := []) X hT ks_X5_checkField kb_202 (c_checkField X.tr f) (fun _ h => ⟨Or.inr (Or.inl ⟨h.1, kix.of hd (by decide), h.2⟩), rfl, rfl⟩) rfl rfl (Nat.le_of_ble_eq_true rfl) ⟨by rw [hR]; exact Nat.le_of_ble_eq_true rfl, by rw [hR]; exact Nat.le_of_ble_eq_true rfl⟩ ⟨by rw [hR]; exact Nat.le_of_ble_eq_true rfl, by rw [hR]; exact Nat.le_of_ble_eq_true rfl⟩ ⟨by omega, by omega⟩ dX5_heldValue_8 (fun v8 C9 L9 h9 => ?_)
  obtain ⟨hp, rfl, rfl, rfl⟩ := h9
  refine k_aload X dX5_heldValue_11 rfl ?_
  refine k_iload_n X dX5_heldValue_13 rfl rfl ?_
  refine k_callSX (rest := []) X hT ks_X5_fieldsHeld kb_261 (c_fieldsHeld X.tr hX hO hd job) (fun _ h => ⟨Or.inr (Or.inr ⟨h.1, d, hd, rfl, hp, h.2⟩), rfl, rfl⟩) rfl rfl (Nat.le_of_ble_eq_true rfl) ⟨by rw [hR]; exact Nat.le_of_ble_eq_true rfl, by rw [hR]; exact Nat.le_of_ble_eq_true rfl⟩ ⟨by rw [hR]; exact Nat.le_of_ble_eq_true rfl, by rw [hR]; exact Nat.le_of_ble_eq_true rfl⟩ ⟨by omega, by omega⟩ dX5_heldValue_14 (fun v14 C9 L9 h9 => ?_)
  obtain ⟨⟨t, rfl, hf⟩, rfl, rfl⟩ := h9
  obtain ⟨ff, fS, kk, rfl, hfh⟩ := hf.fh
  have hc9 := hfh.at hX hd
  refine k_iload_n X dX5_heldValue_17 rfl rfl ?_
  refine k_callV (rest := []) X kv_X2_valueOf kb_402 (c_X2_valueOf X.tr f hc9) hc9 rfl rfl rfl rfl rfl (Nat.le_of_ble_eq_true rfl) ⟨by rw [hR]; exact Nat.le_of_ble_eq_true rfl, by rw [hR]; exact Nat.le_of_ble_eq_true rfl⟩ ⟨by rw [hR]; exact Nat.le_of_ble_eq_true rfl, by rw [hR]; exact Nat.le_of_ble_eq_true rfl⟩ dX5_heldValue_18 (fun v18 C9 L9 h9 => ?_)
  obtain ⟨rfl, rfl, rfl⟩ := h9
  exact k_iret X hE dX5_heldValue_21 (by first | omega | exact Nat.le_of_ble_eq_true rfl | (dsimp only; omega)) (by first | omega | exact Nat.le_of_ble_eq_true rfl | (dsimp only; omega)) ⟨⟨d, hd, rfl, hp, ff, fS, kk, hf, hfh, rfl⟩, rfl, rfl⟩

set_option maxHeartbeats 4000000 in
set_option maxRecDepth 100000 in
theorem c_change {l : Launch} (htr : l.stackTraces = false) {E : kE} {A : Nat → Prop} {C : kC} {L : kL} {S : kI4} {N : kN3} (hX : isX E C L S N) (hO : okX S N) (h512 : ∀ d, d < 4 → N 3 d 0 < 512) (dv job f x : Int32) : kMX l yX5_change cX5_change 7 (some .int) 9 195 6 830 E A C L [.ref (L (1, 0, 0)), .int dv, .int job, .int f, .int x] (fun v C' L' => (∃ d, d < 4 ∧ dv = nI d ∧ (kin f (nI 0) (nI 1) ∧ kin x (nI 0) (if f = nI 0 then nI 2 else nI 10000)) ∧ ∃ ff fS kk, kHf S N d job (some (ff, d, kk)) ∧ kFh N d ff fS kk ∧ v = some (.int (nI (N 3 d 0 + 1 - N 4 d 0))) ∧ isX E C' L' (sPut (sAct S d (N 3 d 0) job f x (if f = nI 0 then S fS d kk 2 else S fS d kk 3) (-1)) fS d kk f x) (w3 N 3 d 0 (N 3 d 0 + 1))) ∧ kFr C L C' L' ∧ ∀ t : kT, t.1 ≤ 1 → L' t = L t) (fun X9 => (X9 = eIO ∧ ¬ kix dv 4) ∨ (X9 = eIA ∧ kix dv 4 ∧ ¬ (kin f (nI 0) (nI 1) ∧ kin x (nI 0) (if f = nI 0 then nI 2 else nI 10000))) ∨ (X9 = eIS ∧ ∃ d, d < 4 ∧ dv = nI d ∧ (kin f (nI 0) (nI 1) ∧ kin x (nI 0) (if f = nI 0 then nI 2 else nI 10000)) ∧ kHf S N d job none)) := by
  obtain ⟨vl2, hl2⟩ := hX.1.2.1.hd
  have hb1 := hO.1
  refine kMX.of htr (by decide) (Nat.le_of_ble_eq_true rfl) (fun Γ hl hR hN X hE hT => ?_)
  refine k_lo (lo' := [(0, .ref (L (1, 0, 0))), (1, .int dv), (2, .int job), (3, .int f), (4, .int x)]) ⟨rfl, rfl, rfl, rfl, rfl, trivial⟩ ?_
  refine k_aload_n X dX5_change_0 rfl rfl ?_
  refine k_iload_n X dX5_change_1 rfl rfl ?_
  refine k_callVX (rest := []) X hT kv_X5_deviceAt kb_221 (c_deviceAt X.tr hX hO dv) (fun _ h => ⟨Or.inl h, rfl, rfl⟩) hX.1.1.1 rfl rfl rfl rfl rfl (Nat.le_of_ble_eq_true rfl) ⟨by rw [hR]; exact Nat.le_of_ble_eq_true rfl, by rw [hR]; exact Nat.le_of_ble_eq_true rfl⟩ ⟨by rw [hR]; exact Nat.le_of_ble_eq_true rfl, by rw [hR]; exact Nat.le_of_ble_eq_true rfl⟩ ⟨by omega, by omega⟩ dX5_change_2 (fun v2 C9 L9 h9 => ?_)
  obtain ⟨⟨d, hd, rfl, rfl⟩, rfl, rfl⟩ := h9
  obtain ⟨vl8, hl8⟩ := (hX.2 d hd).2.2.2.1.hd
  obtain ⟨vl10, hl10⟩ := (hX.2 d hd).2.2.2.2.1.hd
  obtain ⟨vl12, hl12⟩ := (hX.2 d hd).2.2.2.2.2.1.hd
  have hb2 := (hO.2 d hd).1
  have hb3 := (hO.2 d hd).2.1
  have hb4 := (hO.2 d hd).2.2.1
  have hb5 := (hO.2 d hd).2.2.2.1
  have hb6 := (hO.2 d hd).2.2.2.2
  refine k_astore X dX5_change_5 (by rw [hN]; decide) ?_
  refine k_iload_n X dX5_change_7 rfl rfl ?_
  refine k_iload X dX5_change_8 rfl ?_
  refine k_callSX (rest := []) X hT ks_X5_checkValue kb_199 (c_checkValue X.tr f x) (fun _ h => ⟨Or.inr (Or.inl ⟨h.1, kix.of hd (by decide), h.2⟩), rfl, rfl⟩) rfl rfl (Nat.le_of_ble_eq_true rfl) ⟨by rw [hR]; exact Nat.le_of_ble_eq_true rfl, by rw [hR]; exact Nat.le_of_ble_eq_true rfl⟩ ⟨by rw [hR]; exact Nat.le_of_ble_eq_true rfl, by rw [hR]; exact Nat.le_of_ble_eq_true rfl⟩ ⟨by omega, by omega⟩ dX5_change_10 (fun v10 C9 L9 h9 => ?_)
  obtain ⟨hp, rfl, rfl, rfl⟩ := h9
  refine k_aload X dX5_change_13 rfl ?_
  refine k_iload_n X dX5_change_15 rfl rfl ?_
  refine k_callSX (rest := []) X hT ks_X5_fieldsHeld kb_261 (c_fieldsHeld X.tr hX hO hd job) (fun _ h => ⟨Or.inr (Or.inr ⟨h.1, d, hd, rfl, hp, h.2⟩), rfl, rfl⟩) rfl rfl (Nat.le_of_ble_eq_true rfl) ⟨by rw [hR]; exact Nat.le_of_ble_eq_true rfl, by rw [hR]; exact Nat.le_of_ble_eq_true rfl⟩ ⟨by rw [hR]; exact Nat.le_of_ble_eq_true rfl, by rw [hR]; exact Nat.le_of_ble_eq_true rfl⟩ ⟨by omega, by omega⟩ dX5_change_16 (fun v16 C9 L9 h9 => ?_)
  obtain ⟨⟨t, rfl, hf⟩, rfl, rfl⟩ := h9
  obtain ⟨ff, fS, kk, rfl, hfh⟩ := hf.fh
  have hc9 := hfh.at hX hd
  refine k_astore X dX5_change_19 (by rw [hN]; decide) ?_
  refine k_aload X dX5_change_21 rfl ?_
  refine k_callV (rest := []) X kv_X1_takesActs kb_277 (c_takesActs X.tr hX hO hd) (hX.2 d hd).1 rfl rfl rfl rfl rfl (Nat.le_of_ble_eq_true rfl) ⟨by rw [hR]; exact Nat.le_of_ble_eq_true rfl, by rw [hR]; exact Nat.le_of_ble_eq_true rfl⟩ ⟨by rw [hR]; exact Nat.le_of_ble_eq_true rfl, by rw [hR]; exact Nat.le_of_ble_eq_true rfl⟩ dX5_change_23 (fun v23 C9 L9 h9 => ?_)
  obtain ⟨rfl, rfl, rfl⟩ := h9
  rw [if_pos (h512 d hd)]
  refine k_if_eq (tgt := 40) X dX5_change_26 (by decide) (fun c26 => absurd c26 (show ¬ nI 1 = 0 by decide)) (fun c26 => ?_)
  refine k_aload X dX5_change_29 rfl ?_
  refine k_iload_n X dX5_change_31 rfl rfl ?_
  refine k_aload X dX5_change_32 rfl ?_
  refine k_iload_n X dX5_change_34 rfl rfl ?_
  refine k_iload X dX5_change_35 rfl ?_
  refine k_callV (rest := []) X kv_X1_changeJob kb_281 (c_changeJob X.tr hX hO hd hfh (h512 d hd) job f x) (hX.2 d hd).1 rfl rfl rfl rfl rfl (Nat.le_of_ble_eq_true rfl) ⟨by rw [hR]; exact Nat.le_of_ble_eq_true rfl, by rw [hR]; exact Nat.le_of_ble_eq_true rfl⟩ ⟨by rw [hR]; exact Nat.le_of_ble_eq_true rfl, by rw [hR]; exact Nat.le_of_ble_eq_true rfl⟩ dX5_change_37 (fun v37 C9 L9 h9 => ?_)
  obtain ⟨rfl, hX2, hfr2, hL2⟩ := h9
  refine k_lo (lo' := [(5, .ref (L9 (5, d, 0)))]) ⟨kLR (hL2 (5, d, 0) (show (5 : Nat) ≤ 10 by decide)), trivial⟩ ?_
  refine k_aload X dX5_change_40 rfl ?_
  refine k_callV (rest := []) X kv_X1_waitingCount kb_300 (c_waitingCount X.tr hX2 (okX.addA hO (h512 d hd)) hd) (hX2.2 d hd).1 rfl rfl rfl rfl rfl (Nat.le_of_ble_eq_true rfl) ⟨by rw [hR]; exact Nat.le_of_ble_eq_true rfl, by rw [hR]; exact Nat.le_of_ble_eq_true rfl⟩ ⟨by rw [hR]; exact Nat.le_of_ble_eq_true rfl, by rw [hR]; exact Nat.le_of_ble_eq_true rfl⟩ dX5_change_42 (fun v42 C9 L9 h9 => ?_)
  obtain ⟨rfl, rfl, rfl⟩ := h9
  exact k_iret X hE dX5_change_45 (by first | omega | exact Nat.le_of_ble_eq_true rfl | (dsimp only; omega)) (by first | omega | exact Nat.le_of_ble_eq_true rfl | (dsimp only; omega)) ⟨⟨d, hd, rfl, hp, ff, fS, kk, hf, hfh, by rw [w3_s, w3_n (show ¬ (4 = 3 ∧ d = d ∧ 0 = 0) by omega)], hX2⟩, hfr2, fun t ht => hL2 t (by omega)⟩

set_option maxHeartbeats 4000000 in
set_option maxRecDepth 100000 in
theorem c_make {l : Launch} (htr : l.stackTraces = false) {E : kE} {A : Nat → Prop} {C : kC} {L : kL} {S : kI4} {N : kN3} (hX : isX E C L S N) (hO : okX S N) (h512 : ∀ d, d < 4 → N 2 d 0 < 512 ∧ N 3 d 0 < 512) (dv x : Int32) : kMX l yX5_make cX5_make 4 (some .int) 8 193 7 1620 E A C L [.ref (L (1, 0, 0)), .int dv, .int x] (fun v C' L' => (∃ d, d < 4 ∧ dv = nI d ∧ kin x (nI 0) (nI 9) ∧ v = some (.int (nI (1000 + N 2 d 0))) ∧ isX E C' L' (sMake S N d x) (nMake N d)) ∧ kFr C L C' L' ∧ ∀ t : kT, t.1 ≤ 1 → L' t = L t) (fun X9 => (X9 = eIO ∧ ¬ kix dv 4) ∨ (X9 = eIA ∧ kix dv 4 ∧ ¬ (kin x (nI 0) (nI 9)))) := by
  obtain ⟨vl2, hl2⟩ := hX.1.2.1.hd
  have hb1 := hO.1
  refine kMX.of htr (by decide) (Nat.le_of_ble_eq_true rfl) (fun Γ hl hR hN X hE hT => ?_)
  refine k_lo (lo' := [(0, .ref (L (1, 0, 0))), (1, .int dv), (2, .int x)]) ⟨rfl, rfl, rfl, trivial⟩ ?_
  refine k_aload_n X dX5_make_0 rfl rfl ?_
  refine k_iload_n X dX5_make_1 rfl rfl ?_
  refine k_callVX (rest := []) X hT kv_X5_deviceAt kb_221 (c_deviceAt X.tr hX hO dv) (fun _ h => ⟨Or.inl h, rfl, rfl⟩) hX.1.1.1 rfl rfl rfl rfl rfl (Nat.le_of_ble_eq_true rfl) ⟨by rw [hR]; exact Nat.le_of_ble_eq_true rfl, by rw [hR]; exact Nat.le_of_ble_eq_true rfl⟩ ⟨by rw [hR]; exact Nat.le_of_ble_eq_true rfl, by rw [hR]; exact Nat.le_of_ble_eq_true rfl⟩ ⟨by omega, by omega⟩ dX5_make_2 (fun v2 C9 L9 h9 => ?_)
  obtain ⟨⟨d, hd, rfl, rfl⟩, rfl, rfl⟩ := h9
  obtain ⟨vl8, hl8⟩ := (hX.2 d hd).2.2.2.1.hd
  obtain ⟨vl10, hl10⟩ := (hX.2 d hd).2.2.2.2.1.hd
  obtain ⟨vl12, hl12⟩ := (hX.2 d hd).2.2.2.2.2.1.hd
  have hb2 := (hO.2 d hd).1
  have hb3 := (hO.2 d hd).2.1
  have hb4 := (hO.2 d hd).2.2.1
  have hb5 := (hO.2 d hd).2.2.2.1
  have hb6 := (hO.2 d hd).2.2.2.2
  refine k_astore_n X dX5_make_5 rfl (by rw [hN]; decide) ?_
  refine k_iload_n X dX5_make_6 rfl rfl ?_
  refine k_iconst (v := (nI 0)) X dX5_make_7 (by decide) ?_
  refine k_bipush (v := (nI 9)) X dX5_make_8 (by decide) ?_
  refine k_callSX (rest := []) X hT ks_X5_checkRange kb_84 (c_checkRange X.tr x (nI 0) (nI 9)) (fun _ h => ⟨Or.inr ⟨h.1, kix.of hd (by decide), h.2⟩, rfl, rfl⟩) rfl rfl (Nat.le_of_ble_eq_true rfl) ⟨by rw [hR]; exact Nat.le_of_ble_eq_true rfl, by rw [hR]; exact Nat.le_of_ble_eq_true rfl⟩ ⟨by rw [hR]; exact Nat.le_of_ble_eq_true rfl, by rw [hR]; exact Nat.le_of_ble_eq_true rfl⟩ ⟨by omega, by omega⟩ dX5_make_10 (fun v10 C9 L9 h9 => ?_)
  obtain ⟨hp, rfl, rfl, rfl⟩ := h9
  refine k_aload_n X dX5_make_13 rfl rfl ?_
  refine k_callV (rest := []) X kv_X1_takesActs kb_277 (c_takesActs X.tr hX hO hd) (hX.2 d hd).1 rfl rfl rfl rfl rfl (Nat.le_of_ble_eq_true rfl) ⟨by rw [hR]; exact Nat.le_of_ble_eq_true rfl, by rw [hR]; exact Nat.le_of_ble_eq_true rfl⟩ ⟨by rw [hR]; exact Nat.le_of_ble_eq_true rfl, by rw [hR]; exact Nat.le_of_ble_eq_true rfl⟩ dX5_make_14 (fun v14 C9 L9 h9 => ?_)
  obtain ⟨rfl, rfl, rfl⟩ := h9
  rw [if_pos (h512 d hd).2]
  refine k_if_ne (tgt := 22) X dX5_make_17 (by decide) (fun c17 => ?_) (fun c17 => absurd c17 (show ¬ nI 1 = 0 by decide))
  refine k_aload_n X dX5_make_22 rfl rfl ?_
  refine k_iload_n X dX5_make_23 rfl rfl ?_
  refine k_callV (rest := []) X kv_X1_makeJob kb_311 (c_makeJob X.tr hX hO hd (h512 d hd).1 (h512 d hd).2 x) (hX.2 d hd).1 rfl rfl rfl rfl rfl (Nat.le_of_ble_eq_true rfl) ⟨by rw [hR]; exact Nat.le_of_ble_eq_true rfl, by rw [hR]; exact Nat.le_of_ble_eq_true rfl⟩ ⟨by rw [hR]; exact Nat.le_of_ble_eq_true rfl, by rw [hR]; exact Nat.le_of_ble_eq_true rfl⟩ dX5_make_24 (fun v24 C9 L9 h9 => ?_)
  obtain ⟨rfl, hX2, hfr2, hL2⟩ := h9
  exact k_iret X hE dX5_make_27 (by first | omega | exact Nat.le_of_ble_eq_true rfl | (dsimp only; omega)) (by first | omega | exact Nat.le_of_ble_eq_true rfl | (dsimp only; omega)) ⟨⟨d, hd, rfl, hp, rfl, hX2⟩, hfr2, fun t ht => hL2 t (by omega)⟩
