/-- fields: one more writing -/
def sPut (S : kI4) (fS a b : Nat) (f x : Int32) : kI4 := if f = nI 0 then w4 (w4 S fS a b 0 x) fS a b 2 (S fS a b 2 + 1) else w4 (w4 S fS a b 1 x) fS a b 3 (S fS a b 3 + 1)
theorem sPut_n {S : kI4} {fS a b : Nat} {f x : Int32} {f' a' b' j : Nat} (z : ¬ (f' = fS ∧ a' = a ∧ b' = b)) : sPut S fS a b f x f' a' b' j = S f' a' b' j := by
  unfold sPut
  by_cases h : f = nI 0
  · rw [if_pos h, w4_n (by omega), w4_n (by omega)]
  · rw [if_neg h, w4_n (by omega), w4_n (by omega)]
theorem kF_put {S : kI4} {fS a b : Nat} {f x : Int32} : (some (.inr (3, if f = nI 0 then [.int x, .int (S fS a b 1), .int (S fS a b 2 + 1), .int (S fS a b 3)] else [.int (S fS a b 0), .int x, .int (S fS a b 2), .int (S fS a b 3 + 1)])) : Option va_E) = some (kF (sPut S fS a b f x) fS a b) := by
  unfold sPut
  by_cases h : f = nI 0
  · simp [kF, h, w4]
  · simp [kF, h, w4]
def sAct (S : kI4) (d k : Nat) (a b c e g : Int32) : kI4 := fun f' d' k' j => if f' = 11 ∧ d' = d ∧ k' = k then (if j = 0 then a else if j = 1 then b else if j = 2 then c else if j = 3 then e else g) else S f' d' k' j
theorem sAct_n {S : kI4} {d k : Nat} {a b c e g : Int32} {f' d' k' j : Nat} (z : ¬ (f' = 11 ∧ d' = d ∧ k' = k)) : sAct S d k a b c e g f' d' k' j = S f' d' k' j := if_neg z
theorem kAct_s {S : kI4} {d k : Nat} {a b c e g : Int32} : (some (.inr (1, [.int a, .int b, .int c, .int e, .int g])) : Option va_E) = some (kAct (sAct S d k a b c e g) d k) := by
  simp [kAct, sAct]
def sNum0 (S : kI4) (d k n : Nat) : kI4 := w4 (w4 S 9 d k 0 (nI n)) 7 d 0 0 (S 7 d 0 0 - nI 1)
def sNum (S : kI4) (d k n : Nat) : kI4 := sHold (sNum0 S d k n) d n (fun j => S 10 d k j)

set_option maxHeartbeats 4000000 in
set_option maxRecDepth 100000 in
theorem c_giveNumber {l : Launch} (htr : l.stackTraces = false) {E : kE} {A : Nat → Prop} {C : kC} {L : kL} {S : kI4} {N : kN3} (hX : isX E C L S N) (hO : okX S N) {d : Nat} (hd : d < 4) {k n : Nat} (hk : k < N 2 d 0) (hn : n < 40) : kM l yX1_giveNumber cX1_giveNumber 3 none 3 55 1 4 E A C L [.ref (L (5, d, 0)), .ref (L (17, d, k)), .int (nI n)] (fun v C' L' => v = none ∧ isX E C' L' (sNum S d k n) (nHold N d n) ∧ kFr C L C' L' ∧ ∀ t : kT, t.1 ≠ 16 → L' t = L t) := by
  refine kM.of htr (by decide) (Nat.le_of_ble_eq_true rfl) (fun Γ hl hR hN hnm X hE => ?_)
  refine k_lo (lo' := [(0, .ref (L (5, d, 0))), (1, .ref (L (17, d, k))), (2, .int (nI n))]) ⟨rfl, rfl, rfl, trivial⟩ ?_
  refine k_aload_n X dX1_giveNumber_0 rfl rfl ?_
  refine k_iload_n X dX1_giveNumber_1 rfl rfl ?_
  refine k_put1 X ((hX.2 d hd).2.2.2.2.2.2.2.1 k hk).1 (fs9 := [.int (nI n), .ref (L (18, d, k))]) (q := (RX4, TX4, 2)) rfl inlX4 tyX4 tyX4_ok nmX4 0 (by decide) kb_268 (Or.inl rfl) (Or.inl rfl) rfl rfl rfl (Nat.le_of_ble_eq_true rfl) rfl dX1_giveNumber_2 ?_
  refine k_abs (fun C' => isX E C' L (w4 S 9 d k 0 (nI n)) N ∧ kFr C L C' L) ⟨isX.m17 (kup_s.trans (by rw [w4_s])) hX (fun f d' k' z => kup_n (kneT z)) (fun _ _ _ _ => rfl) (fun f d' k' j z => w4_n (by omega)) (fun _ _ _ _ => rfl), kFr.rf.up (by decide)⟩ (fun C1 h1 => ?_)
  refine k_aload_n X dX1_giveNumber_5 rfl rfl ?_
  refine k_dup X dX1_giveNumber_6 rfl ?_
  refine k_get0 X (h1.1.2 d hd).1 (q := (RX1, TX1, 9)) rfl inlX1 5 (by decide) kb_45 (Or.inl rfl) rfl rfl dX1_giveNumber_7 ?_
  refine k_iconst (v := (nI 1)) X dX1_giveNumber_10 (by decide) ?_
  refine k_isub X dX1_giveNumber_11 ?_
  refine k_put1 X (h1.1.2 d hd).1 (fs9 := [.int ((w4 S 9 d k 0 (nI n)) 4 d 0 0), .ref (L (6, d, 0)), .ref (L (7, d, 0)), .int ((w4 S 9 d k 0 (nI n)) 6 d 0 0), .ref (L (8, d, 0)), .int (((w4 S 9 d k 0 (nI n)) 7 d 0 0) - (nI 1)), .ref (L (10, d, 0)), .int (nI (N 4 d 0)), .ref (L (12, d, 0))]) (q := (RX1, TX1, 9)) rfl inlX1 tyX1 tyX1_ok nmX1 5 (by decide) kb_45 (Or.inl rfl) (Or.inl rfl) rfl rfl rfl (Nat.le_of_ble_eq_true rfl) rfl dX1_giveNumber_12 ?_
  refine k_abs (fun C' => isX E C' L (sNum0 S d k n) N ∧ kFr C L C' L) ⟨isX.d5 (kup_s.trans (by simp [kDev, sNum0, w4])) h1.1 (fun f d' k' z => kup_n (kneD z)) (fun _ _ _ _ => rfl) (fun f d' k' j z => w4_n (by omega)) (fun _ _ _ _ => rfl), h1.2.up (by decide)⟩ (fun C2 h2 => ?_)
  refine k_aload_n X dX1_giveNumber_15 rfl rfl ?_
  refine k_iload_n X dX1_giveNumber_16 rfl rfl ?_
  refine k_aload_n X dX1_giveNumber_17 rfl rfl ?_
  refine k_get0 X ((h2.1.2 d hd).2.2.2.2.2.2.2.1 k hk).1 (q := (RX4, TX4, 2)) rfl inlX4 1 (by decide) kb_269 (Or.inl rfl) rfl rfl dX1_giveNumber_18 ?_
  refine k_callV (rest := []) X kv_X1_hold kb_359 (c_hold X.tr h2.1 hO hd hn (ff := 18) (df := d) (kf := k) (Or.inr rfl) (fun j => S 10 d k j) (((h2.1.2 d hd).2.2.2.2.2.2.2.1 k hk).2.trans (by simp [kF, sNum0, w4]))) (h2.1.2 d hd).1 rfl rfl rfl rfl rfl (Nat.le_of_ble_eq_true rfl) ⟨by rw [hR]; exact Nat.le_of_ble_eq_true rfl, by rw [hR]; exact Nat.le_of_ble_eq_true rfl⟩ ⟨by rw [hR]; exact Nat.le_of_ble_eq_true rfl, by rw [hR]; exact Nat.le_of_ble_eq_true rfl⟩ dX1_giveNumber_21 (fun v21 C9 L9 h9 => ?_)
  obtain ⟨rfl, hX3, hfr3, hL3⟩ := h9
  exact k_vret X hE dX1_giveNumber_24 (by first | omega | exact Nat.le_of_ble_eq_true rfl | (dsimp only; omega)) (by first | omega | exact Nat.le_of_ble_eq_true rfl | (dsimp only; omega)) ⟨rfl, hX3, h2.2.tr hfr3, hL3⟩

set_option maxHeartbeats 4000000 in
set_option maxRecDepth 100000 in
theorem c_takeAct {l : Launch} (htr : l.stackTraces = false) {E : kE} {A : Nat → Prop} {C : kC} {L : kL} {S : kI4} {N : kN3} (hX : isX E C L S N) (hO : okX S N) {d : Nat} (hd : d < 4)  : kM l yX1_takeAct cX1_takeAct 2 (some (.object "FieldStore$Act")) 3 64 0 0 E A C L [.ref (L (5, d, 0))] (fun v C' L' => ((N 4 d 0 < N 3 d 0 ∧ v = some (.ref (L (19, d, N 4 d 0))) ∧ isX E C' L S (w3 N 4 d 0 (N 4 d 0 + 1))) ∨ (N 3 d 0 ≤ N 4 d 0 ∧ v = some .null ∧ C = C')) ∧ L = L' ∧ kFr C L C' L) := by
  obtain ⟨vl8, hl8⟩ := (hX.2 d hd).2.2.2.1.hd
  obtain ⟨vl10, hl10⟩ := (hX.2 d hd).2.2.2.2.1.hd
  obtain ⟨vl12, hl12⟩ := (hX.2 d hd).2.2.2.2.2.1.hd
  have hb2 := (hO.2 d hd).1
  have hb3 := (hO.2 d hd).2.1
  have hb4 := (hO.2 d hd).2.2.1
  have hb5 := (hO.2 d hd).2.2.2.1
  refine kM.of htr (by decide) (Nat.le_of_ble_eq_true rfl) (fun Γ hl hR hN hnm X hE => ?_)
  refine k_lo (lo' := [(0, .ref (L (5, d, 0)))]) ⟨rfl, trivial⟩ ?_
  refine k_aload_n X dX1_takeAct_0 rfl rfl ?_
  refine k_get0 X (hX.2 d hd).1 (q := (RX1, TX1, 9)) rfl inlX1 7 (by decide) kb_47 (Or.inl rfl) rfl rfl dX1_takeAct_1 ?_
  refine k_if_lt (tgt := 21) X dX1_takeAct_4 (by decide) (fun c4 => absurd c4 (nI_pos (by omega))) (fun c4 => ?_)
  refine k_aload_n X dX1_takeAct_7 rfl rfl ?_
  refine k_get0 X (hX.2 d hd).1 (q := (RX1, TX1, 9)) rfl inlX1 7 (by decide) kb_47 (Or.inl rfl) rfl rfl dX1_takeAct_8 ?_
  refine k_aload_n X dX1_takeAct_11 rfl rfl ?_
  refine k_get0 X (hX.2 d hd).1 (q := (RX1, TX1, 9)) rfl inlX1 6 (by decide) kb_46 (Or.inl rfl) rfl rfl dX1_takeAct_12 ?_
  refine k_callV (rest := [.int (nI (N 4 d 0))]) X kv_Jx4a65c_size_8abf5 kb_275 (c_Ls_size X.tr (hX.2 d hd).2.2.2.2.1) hl10 rfl rfl rfl rfl rfl (Nat.le_of_ble_eq_true rfl) ⟨by rw [hR]; exact Nat.le_of_ble_eq_true rfl, by rw [hR]; exact Nat.le_of_ble_eq_true rfl⟩ ⟨by rw [hR]; exact Nat.le_of_ble_eq_true rfl, by rw [hR]; exact Nat.le_of_ble_eq_true rfl⟩ dX1_takeAct_15 (fun v15 C9 L9 h9 => ?_)
  obtain ⟨rfl, rfl, rfl⟩ := h9
  refine k_icmp_lt (tgt := 23) X dX1_takeAct_18 (by decide) (fun c18 => ?_) (fun c18 => ?_)
  ·
    refine k_aload_n X dX1_takeAct_23 rfl rfl ?_
    refine k_get0 X (hX.2 d hd).1 (q := (RX1, TX1, 9)) rfl inlX1 6 (by decide) kb_46 (Or.inl rfl) rfl rfl dX1_takeAct_24 ?_
    refine k_aload_n X dX1_takeAct_27 rfl rfl ?_
    refine k_get0 X (hX.2 d hd).1 (q := (RX1, TX1, 9)) rfl inlX1 7 (by decide) kb_47 (Or.inl rfl) rfl rfl dX1_takeAct_28 ?_
    have h34 : N 4 d 0 < N 3 d 0 := (nI_ltI (by omega) (by omega)).mp c18
    refine k_callV (rest := []) X kv_Jx4a65c_get_915e3 kb_276 (c_Ls_get X.tr (hX.2 d hd).2.2.2.2.1 (N 4 d 0) h34 (by omega)) hl10 rfl rfl rfl rfl rfl (Nat.le_of_ble_eq_true rfl) ⟨by rw [hR]; exact Nat.le_of_ble_eq_true rfl, by rw [hR]; exact Nat.le_of_ble_eq_true rfl⟩ ⟨by rw [hR]; exact Nat.le_of_ble_eq_true rfl, by rw [hR]; exact Nat.le_of_ble_eq_true rfl⟩ dX1_takeAct_31 (fun v31 C9 L9 h9 => ?_)
    obtain ⟨rfl, rfl, rfl⟩ := h9
    refine k_cast X ((hX.2 d hd).2.2.2.2.2.2.2.2 (N 4 d 0) h34) (r := (RX0, TX0, 5)) rfl rfl kb_285 dX1_takeAct_34 ?_
    refine k_astore_n X dX1_takeAct_37 rfl (by rw [hN]; decide) ?_
    refine k_aload_n X dX1_takeAct_38 rfl rfl ?_
    refine k_dup X dX1_takeAct_39 rfl ?_
    refine k_get0 X (hX.2 d hd).1 (q := (RX1, TX1, 9)) rfl inlX1 7 (by decide) kb_47 (Or.inl rfl) rfl rfl dX1_takeAct_40 ?_
    refine k_iconst (v := (nI 1)) X dX1_takeAct_43 (by decide) ?_
    refine k_iaddN X dX1_takeAct_44 ?_
    refine k_put1 X (hX.2 d hd).1 (fs9 := [.int (S 4 d 0 0), .ref (L (6, d, 0)), .ref (L (7, d, 0)), .int (S 6 d 0 0), .ref (L (8, d, 0)), .int (S 7 d 0 0), .ref (L (10, d, 0)), .int (nI ((N 4 d 0) + 1)), .ref (L (12, d, 0))]) (q := (RX1, TX1, 9)) rfl inlX1 tyX1 tyX1_ok nmX1 7 (by decide) kb_47 (Or.inl rfl) (Or.inl rfl) rfl rfl rfl (Nat.le_of_ble_eq_true rfl) rfl dX1_takeAct_45 ?_
    refine k_abs (fun C' => isX E C' L S (w3 N 4 d 0 (N 4 d 0 + 1)) ∧ kFr C L C' L) ⟨isX.d5 (kup_s.trans (by simp [kDev, w3])) hX (fun f d' k' z => kup_n (kneD z)) (fun _ _ _ _ => rfl) (fun _ _ _ _ _ => rfl) (fun f d' k' z => w3_n (by omega)), kFr.rf.up (by decide)⟩ (fun C1 h1 => ?_)
    refine k_aload_n X dX1_takeAct_48 rfl rfl ?_
    exact k_aret X hE (Or.inl ⟨_, rfl⟩) (Or.inr ⟨_, rfl⟩) dX1_takeAct_49 (by first | omega | exact Nat.le_of_ble_eq_true rfl | (dsimp only; omega)) (by first | omega | exact Nat.le_of_ble_eq_true rfl | (dsimp only; omega)) ⟨Or.inl ⟨h34, rfl, h1.1⟩, rfl, h1.2⟩
  ·
    refine k_null X dX1_takeAct_21 ?_
    exact k_aret X hE (Or.inl ⟨_, rfl⟩) (Or.inl rfl) dX1_takeAct_22 (by first | omega | exact Nat.le_of_ble_eq_true rfl | (dsimp only; omega)) (by first | omega | exact Nat.le_of_ble_eq_true rfl | (dsimp only; omega)) ⟨Or.inr ⟨Nat.le_of_not_lt fun z => c18 (nI_lt z (by omega)), rfl, rfl⟩, rfl, kFr.rf⟩

def nRef (N : kN3) (d k : Nat) : kN3 := w3 (w3 N 6 d (N 5 d 0) k) 5 d 0 (N 5 d 0 + 1)

theorem kn30 {t : kT} {f d k : Nat} (ht : 30 ≤ t.1) (hf : f < 30) : t ≠ (f, d, k) := fun e => by rw [e] at ht; exact absurd ht (by show ¬ 30 ≤ f; omega)

set_option maxHeartbeats 4000000 in
set_option maxRecDepth 100000 in
theorem c_refuse {l : Launch} (htr : l.stackTraces = false) {E : kE} {A : Nat → Prop} {C : kC} {L : kL} {S : kI4} {N : kN3} (hX : isX E C L S N) (hO : okX S N) {d : Nat} (hd : d < 4) {k : Nat} (hk : k < N 3 d 0) (r : Int32) : kM l yX1_refuse cX1_refuse 3 none 7 171 1 (10 + N 5 d 0 + N 5 d 0 / 2) E A C L [.ref (L (5, d, 0)), .ref (L (19, d, k)), .int r] (fun v C' L' => v = none ∧ isX E C' L' (w4 S 11 d k 4 r) (nRef N d k) ∧ kFr C L C' L' ∧ ∀ t : kT, t.1 ≠ 13 → L' t = L t) := by
  obtain ⟨vl8, hl8⟩ := (hX.2 d hd).2.2.2.1.hd
  obtain ⟨vl10, hl10⟩ := (hX.2 d hd).2.2.2.2.1.hd
  obtain ⟨vl12, hl12⟩ := (hX.2 d hd).2.2.2.2.2.1.hd
  have hb2 := (hO.2 d hd).1
  have hb3 := (hO.2 d hd).2.1
  have hb4 := (hO.2 d hd).2.2.1
  have hb5 := (hO.2 d hd).2.2.2.1
  have hb6 := (hO.2 d hd).2.2.2.2
  refine kM.of htr (by decide) (Nat.le_of_ble_eq_true rfl) (fun Γ hl hR hN hnm X hE => ?_)
  refine k_lo (lo' := [(0, .ref (L (5, d, 0))), (1, .ref (L (19, d, k))), (2, .int r)]) ⟨rfl, rfl, rfl, trivial⟩ ?_
  refine k_aload_n X dX1_refuse_0 rfl rfl ?_
  refine k_iload_n X dX1_refuse_1 rfl rfl ?_
  refine k_put1 X ((hX.2 d hd).2.2.2.2.2.2.2.2 k hk) (fs9 := [.int (S 11 d k 0), .int (S 11 d k 1), .int (S 11 d k 2), .int (S 11 d k 3), .int r]) (q := (RX0, TX0, 5)) rfl inlX0 tyX0 tyX0_ok nmX0 4 (by decide) kb_376 (Or.inl rfl) (Or.inl rfl) rfl rfl rfl (Nat.le_of_ble_eq_true rfl) rfl dX1_refuse_2 ?_
  refine k_abs (fun C' => isX E C' L (w4 S 11 d k 4 r) N ∧ kFr C L C' L) ⟨isX.a19 (kup_s.trans (by simp [kAct, w4])) hX (fun f d' k' z => kup_n (kneT z)) (fun _ _ _ _ => rfl) (fun f d' k' j z => w4_n (by omega)) (fun _ _ _ _ => rfl), kFr.rf.up (by decide)⟩ (fun C1 h1 => ?_)
  refine k_aload_n X dX1_refuse_5 rfl rfl ?_
  refine k_get0 X (h1.1.2 d hd).1 (q := (RX1, TX1, 9)) rfl inlX1 8 (by decide) kb_48 (Or.inl rfl) rfl rfl dX1_refuse_6 ?_
  refine k_aload_n X dX1_refuse_9 rfl rfl ?_
  obtain ⟨vl12, hl12⟩ := (h1.1.2 d hd).2.2.2.2.2.1.hd
  refine k_callV (rest := []) X kv_Jx4a65c_add_9ea2d kb_298 (c_Ls_addA X.tr (fh := 12) (fa := 13) (d := d) (ft := 19) (dt := d) (kt := k) (ci := 1) (r := (RX0, TX0, 5)) rfl rfl (h1.1.2 d hd).2.2.2.2.2.1 (by omega) h1.1.1.1.2 rfl (by simp [kCas]) ((h1.1.2 d hd).2.2.2.2.2.2.2.2 k hk) (by decide) (by decide) (by decide) (by decide) (by decide) (by decide) (fun i hi => ⟨19, d, N 6 d i, _, by decide, by decide, rfl, (h1.1.2 d hd).2.2.2.2.2.2.2.2 _ (hb6 i hi)⟩)) hl12 rfl rfl rfl rfl rfl (Nat.le_of_ble_eq_true rfl) ⟨by rw [hR]; exact Nat.le_of_ble_eq_true rfl, by rw [hR]; exact Nat.le_of_ble_eq_true rfl⟩ ⟨by rw [hR]; dsimp only; omega, by rw [hR]; dsimp only; omega⟩ dX1_refuse_10 (fun v10 C9 L9 h9 => ?_)
  obtain ⟨rfl, e1, e2, e3⟩ := h9
  refine k_pop X dX1_refuse_13 rfl ?_
  exact k_vret X hE dX1_refuse_14 (by first | omega | exact Nat.le_of_ble_eq_true rfl | (dsimp only; omega)) (by first | omega | exact Nat.le_of_ble_eq_true rfl | (dsimp only; omega)) ⟨rfl, isX.addR (d := d) (by refine e3 _ (fun j hj => ?_) ?_; { rw [show nRef N d k 6 d j = N 6 d j from (w3_n (by omega)).trans (w3_n (by omega))]; exact e2 _ (kne1 (by decide)) }; { rw [show nRef N d k 6 d (N 5 d 0) = k from (w3_n (by omega)).trans w3_s]; exact e2 _ (kne1 (by decide)) }) w3_s h1.1 (fun f d' k' z => e1 _ (kneD (by omega)) (kneD (by omega))) (fun f d' k' z => e2 _ (kneD (by omega))) (fun _ _ _ _ _ => rfl) (fun f d' k' z => (w3_n (by omega)).trans (w3_n (by omega))), fun t ht => ⟨(e1 t (kn30 ht (by decide)) (kn30 ht (by decide))).trans (h1.2 t ht).1, e2 t (kn30 ht (by decide))⟩, fun t ht => e2 t (fun e => ht (congrArg Prod.fst e))⟩
