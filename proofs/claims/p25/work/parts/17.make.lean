theorem c_X2_versionOfA {l : Launch} (htr : l.stackTraces = false) {E : kE} {A : Nat → Prop} {C : kC} {L : kL} {t : kT} {q0 : Nat} {a b c d : Int32} (f : Int32) (ha : L t = q0) (h : C t = some (.inr (3, [.int a, .int b, .int c, .int d]))) : kM l yX2_versionOf cX2_versionOf 2 (some .int) 0 0 0 0 E A C L [.ref q0, .int f] (fun v C' L' => v = some (.int (if f = nI 0 then c else d)) ∧ L = L' ∧ C = C') := by
  subst ha
  exact c_X2_versionOf htr f h
theorem c_X2_valueOfA {l : Launch} (htr : l.stackTraces = false) {E : kE} {A : Nat → Prop} {C : kC} {L : kL} {t : kT} {q0 : Nat} {a b c d : Int32} (f : Int32) (ha : L t = q0) (h : C t = some (.inr (3, [.int a, .int b, .int c, .int d]))) : kM l yX2_valueOf cX2_valueOf 2 (some .int) 0 0 0 0 E A C L [.ref q0, .int f] (fun v C' L' => v = some (.int (if f = nI 0 then a else b)) ∧ L = L' ∧ C = C') := by
  subst ha
  exact c_X2_valueOf htr f h
theorem c_X2_putA {l : Launch} (htr : l.stackTraces = false) {E : kE} {A : Nat → Prop} {C : kC} {L : kL} {t : kT} {q0 : Nat} {S : kI4} {fS a b : Nat} (f x : Int32) (ha : L t = q0) (h : C t = some (kF S fS a b)) : kM l yX2_put cX2_put 3 none 0 0 0 0 E A C L [.ref q0, .int f, .int x] (fun v C' L' => v = none ∧ L = L' ∧ C' = kup C t (some (kF (sPut S fS a b f x) fS a b))) := by
  subst ha
  rw [← kF_put]
  exact c_X2_put htr f x h
theorem isX.put {E : kE} {C : kC} {L : kL} {S : kI4} {N : kN3} {ff fS d kk : Nat} {f x : Int32} (hF : (ff = 16 ∧ fS = 8) ∨ (ff = 18 ∧ fS = 10)) (h : isX E C L S N) : isX E (kup C (ff, d, kk) (some (kF (sPut S fS d kk f x) fS d kk))) L (sPut S fS d kk f x) N := by
  rcases hF with ⟨rfl, rfl⟩ | ⟨rfl, rfl⟩
  · exact isX.f16 kup_s h (fun f d' k z => kup_n (kneT z)) (fun _ _ _ _ => rfl) (fun f d' k j z => sPut_n z) (fun _ _ _ _ => rfl)
  · exact isX.m18 kup_s h (fun f d' k z => kup_n (kneT z)) (fun _ _ _ _ => rfl) (fun f d' k j z => sPut_n z) (fun _ _ _ _ => rfl)
/-- where a device's fields lie: a copy's, or a made job's -/
def kFh (N : kN3) (d ff fS kk : Nat) : Prop := (ff = 16 ∧ fS = 8 ∧ N 11 d kk ≠ 0) ∨ (ff = 18 ∧ fS = 10 ∧ kk < N 2 d 0)
theorem kFh.at {E : kE} {C : kC} {L : kL} {S : kI4} {N : kN3} {ff fS d kk : Nat} (h : kFh N d ff fS kk) (hX : isX E C L S N) (hd : d < 4) : C (ff, d, kk) = some (kF S fS d kk) := by
  rcases h with ⟨rfl, rfl, h⟩ | ⟨rfl, rfl, h⟩
  · exact (hX.2 d hd).2.2.2.2.2.2.1 kk h
  · exact ((hX.2 d hd).2.2.2.2.2.2.2.1 kk h).2
theorem kFh.f {N : kN3} {ff fS d kk : Nat} (h : kFh N d ff fS kk) : (ff = 16 ∧ fS = 8) ∨ (ff = 18 ∧ fS = 10) := by
  rcases h with ⟨rfl, rfl, h⟩ | ⟨rfl, rfl, h⟩
  · exact Or.inl ⟨rfl, rfl⟩
  · exact Or.inr ⟨rfl, rfl⟩
theorem kFh.n {N : kN3} {ff fS d kk : Nat} (h : kFh N d ff fS kk) {f0 : Nat} (h0 : 16 ≠ f0 ∧ 18 ≠ f0) : ff ≠ f0 := by
  rcases h with ⟨rfl, rfl, h⟩ | ⟨rfl, rfl, h⟩
  · exact h0.1
  · exact h0.2
theorem okX.addA {S S' : kI4} {N : kN3} {d : Nat} (h : okX S N) (hn : N 3 d 0 < 512) : okX S' (w3 N 3 d 0 (N 3 d 0 + 1)) := by
  refine ⟨by rw [w3_n (by omega)]; exact h.1, fun d' hd' => ?_⟩
  have h2 := h.2 d' hd'
  rw [w3_n (show ¬ (2 = 3 ∧ _) by omega), w3_n (show ¬ (4 = 3 ∧ _) by omega), w3_n (show ¬ (5 = 3 ∧ _) by omega)]
  have h3 : N 3 d' 0 ≤ w3 N 3 d 0 (N 3 d 0 + 1) 3 d' 0 ∧ w3 N 3 d 0 (N 3 d 0 + 1) 3 d' 0 ≤ 512 := by
    by_cases e : d' = d
    · subst e
      rw [w3_s]
      omega
    · rw [w3_n (by omega)]
      omega
  exact ⟨h2.1, h3.2, Nat.le_trans h2.2.2.1 h3.1, h2.2.2.2.1, fun i hi => by rw [w3_n (by omega)]; exact Nat.lt_of_lt_of_le (h2.2.2.2.2 i hi) h3.1⟩

theorem kn19 {t : kT} {d k : Nat} (h : t.1 ≠ 19) : t ≠ (19, d, k) := fun e => h (congrArg Prod.fst e)

set_option maxHeartbeats 4000000 in
set_option maxRecDepth 100000 in
theorem c_changeJob {l : Launch} (htr : l.stackTraces = false) {E : kE} {A : Nat → Prop} {C : kC} {L : kL} {S : kI4} {N : kN3} (hX : isX E C L S N) (hO : okX S N) {d : Nat} (hd : d < 4) {ff fS kk : Nat} (hf : kFh N d ff fS kk) (hn5 : N 3 d 0 < 512) (job f x : Int32) : kM l yX1_changeJob cX1_changeJob 5 none 7 171 2 800 E A C L [.ref (L (5, d, 0)), .int job, .ref (L (ff, d, kk)), .int f, .int x] (fun v C' L' => v = none ∧ isX E C' L' (sPut (sAct S d (N 3 d 0) job f x (if f = nI 0 then S fS d kk 2 else S fS d kk 3) (-1)) fS d kk f x) (w3 N 3 d 0 (N 3 d 0 + 1)) ∧ kFr C L C' L' ∧ ∀ t : kT, t.1 ≤ 10 → L' t = L t) := by
  obtain ⟨vl8, hl8⟩ := (hX.2 d hd).2.2.2.1.hd
  obtain ⟨vl10, hl10⟩ := (hX.2 d hd).2.2.2.2.1.hd
  obtain ⟨vl12, hl12⟩ := (hX.2 d hd).2.2.2.2.2.1.hd
  have hb2 := (hO.2 d hd).1
  have hb3 := (hO.2 d hd).2.1
  have hb4 := (hO.2 d hd).2.2.1
  have hb5 := (hO.2 d hd).2.2.2.1
  have hb6 := (hO.2 d hd).2.2.2.2
  have hc9 := hf.at hX hd
  refine kM.of htr (by decide) (Nat.le_of_ble_eq_true rfl) (fun Γ hl hR hN hnm X hE => ?_)
  refine k_lo (lo' := [(0, .ref (L (5, d, 0))), (1, .int job), (2, .ref (L (ff, d, kk))), (3, .int f), (4, .int x)]) ⟨rfl, rfl, rfl, rfl, rfl, trivial⟩ ?_
  refine k_aload_n X dX1_changeJob_0 rfl rfl ?_
  refine k_get0 X (hX.2 d hd).1 (q := (RX1, TX1, 9)) rfl inlX1 6 (by decide) kb_46 (Or.inl rfl) rfl rfl dX1_changeJob_1 ?_
  refine k_new0 X (19, d, N 3 d 0) (ci := 1) (q := (RX0, TX0, 5)) rfl inlX0 tyX0 tyX0_ok kb_285 kb_286 kb_287 (fs := [.int 0, .int 0, .int 0, .int 0, .int 0]) (fun j hj => by rcases (show j = 0 ∨ j = 1 ∨ j = 2 ∨ j = 3 ∨ j = 4 from by have : j < 5 := hj; omega) with rfl | rfl | rfl | rfl | rfl <;> rfl) dX1_changeJob_4 (by rw [hR]; dsimp only; omega) (by rw [hR]; dsimp only; omega) (fun q9 => ?_)
  refine k_dup X dX1_changeJob_7 rfl ?_
  refine k_iload_n X dX1_changeJob_8 rfl rfl ?_
  refine k_iload_n X dX1_changeJob_9 rfl rfl ?_
  refine k_iload X dX1_changeJob_10 rfl ?_
  refine k_aload_n X dX1_changeJob_12 rfl rfl ?_
  refine k_iload_n X dX1_changeJob_13 rfl rfl ?_
  refine k_callV (rest := [.int x, .int f, .int job, .ref q9, .ref q9, .ref (L (10, d, 0))]) X kv_X2_versionOf kb_288 (c_X2_versionOfA X.tr f (t := (ff, d, kk)) (kup_n (kne1 (hf.n ⟨by decide, by decide⟩))) ((kup_n (kne1 (hf.n ⟨by decide, by decide⟩))).trans hc9)) ((kup_n (kne1 (hf.n ⟨by decide, by decide⟩))).trans hc9) rfl rfl (kup_n (kne1 (hf.n ⟨by decide, by decide⟩))) rfl rfl (Nat.le_of_ble_eq_true rfl) ⟨by rw [hR]; exact Nat.le_of_ble_eq_true rfl, by rw [hR]; exact Nat.le_of_ble_eq_true rfl⟩ ⟨by rw [hR]; dsimp only; omega, by rw [hR]; dsimp only; omega⟩ dX1_changeJob_14 (fun v14 C9 L9 h9 => ?_)
  obtain ⟨rfl, rfl, rfl⟩ := h9
  refine k_callI (rest := [.ref q9, .ref (L (10, d, 0))]) X ki_X0_init kb_289 (c_X0_initA X.tr (t := (19, d, N 3 d 0)) (a := 0) (b := 0) (c := 0) (d := 0) (e := 0) job f x (if f = nI 0 then S fS d kk 2 else S fS d kk 3) kup_s kup_s) rfl rfl (Nat.le_of_ble_eq_true rfl) ⟨by rw [hR]; exact Nat.le_of_ble_eq_true rfl, by rw [hR]; exact Nat.le_of_ble_eq_true rfl⟩ ⟨by rw [hR]; dsimp only; omega, by rw [hR]; dsimp only; omega⟩ dX1_changeJob_17 (fun v17 C9 L9 h9 => ?_)
  obtain ⟨rfl, rfl, rfl⟩ := h9
  refine k_C (kup_kup).symm ?_
  obtain ⟨vl10b, hl10b⟩ := (hX.2 d hd).2.2.2.2.1.hd
  refine k_callV (rest := []) X kv_Jx4a65c_add_9ea2d kb_298 (c_Ls_addA X.tr (fh := 10) (fa := 11) (d := d) (ft := 19) (dt := d) (kt := N 3 d 0) (ci := 1) (r := (RX0, TX0, 5)) ((kup_n (kne1 (by decide))).trans rfl) kup_s ((hX.2 d hd).2.2.2.2.1.keep (kup_n (kne1 (by decide))) (kup_n (kne1 (by decide))) (kup_n (kne1 (by decide))) (fun j hj => kup_n (kne3 (by omega)))) (by omega) ((kup_n (kne1 (by decide))).trans hX.1.1.2) rfl (by simp [kCas]) kup_s (by decide) (by decide) (by decide) (by decide) (by decide) (by decide) (fun i hi => ⟨19, d, i, _, by decide, by decide, rfl, (kup_n (kne3 (by omega))).trans ((hX.2 d hd).2.2.2.2.2.2.2.2 i hi)⟩)) ((kup_n (kne1 (by decide))).trans hl10b) rfl rfl ((kup_n (kne1 (by decide))).trans rfl) rfl rfl (Nat.le_of_ble_eq_true rfl) ⟨by rw [hR]; exact Nat.le_of_ble_eq_true rfl, by rw [hR]; exact Nat.le_of_ble_eq_true rfl⟩ ⟨by rw [hR]; dsimp only; omega, by rw [hR]; dsimp only; omega⟩ dX1_changeJob_20 (fun v20 C9 L9 h9 => ?_)
  obtain ⟨rfl, e1, e2, e3⟩ := h9
  refine k_abs2 (fun C' L' => isX E C' L' (sAct S d (N 3 d 0) job f x (if f = nI 0 then S fS d kk 2 else S fS d kk 3) (-1)) (w3 N 3 d 0 (N 3 d 0 + 1)) ∧ (∀ t : kT, t.1 ≠ 10 → t.1 ≠ 11 → t.1 ≠ 19 → C' t = C t) ∧ (∀ t : kT, t.1 ≠ 11 → t.1 ≠ 19 → L' t = L t)) ⟨isX.addA (d := d) (e3 _ (fun j hj => e2 _ (kne1 (by decide))) ((e2 _ (kne1 (by decide))).trans kup_s)) w3_s ((e1 _ (kne1 (by decide)) (kne1 (by decide))).trans (kup_s.trans kAct_s)) hb6 hX (fun f d' k z => (e1 _ (kneD (by omega)) (kneD (by omega))).trans (kup_n (kneT (by omega)))) (fun f d' k z => (e2 _ (kneD (by omega))).trans (kup_n (kneT (by omega)))) (fun f d' k j z => sAct_n z) (fun f d' k z => w3_n (by omega)), fun t h1 h2 h3 => (e1 t (fun e => h1 (congrArg Prod.fst e)) (fun e => h2 (congrArg Prod.fst e))).trans (kup_n (fun e => h3 (congrArg Prod.fst e))), fun t h2 h3 => (e2 t (fun e => h2 (congrArg Prod.fst e))).trans (kup_n (fun e => h3 (congrArg Prod.fst e)))⟩ (fun C3 L3 h3 => ?_)
  obtain ⟨hX3, hC3, hL3⟩ := h3
  refine k_pop X dX1_changeJob_23 rfl ?_
  refine k_aload_n X dX1_changeJob_24 rfl rfl ?_
  refine k_iload_n X dX1_changeJob_25 rfl rfl ?_
  refine k_iload X dX1_changeJob_26 rfl ?_
  have hc8 : C3 (ff, d, kk) = some (kF (sAct S d (N 3 d 0) job f x (if f = nI 0 then S fS d kk 2 else S fS d kk 3) (-1)) fS d kk) := by
    rw [hC3 (ff, d, kk) (hf.n ⟨by decide, by decide⟩) (hf.n ⟨by decide, by decide⟩) (hf.n ⟨by decide, by decide⟩), hc9]
    have h11 : ¬ (fS = 11 ∧ d = d ∧ kk = N 3 d 0) := by rcases hf.f with z | z <;> omega
    simp only [kF, sAct_n h11]
  refine k_callV (rest := []) X kv_X2_put kb_299 (c_X2_putA X.tr f x (t := (ff, d, kk)) (hL3 (ff, d, kk) (hf.n ⟨by decide, by decide⟩) (hf.n ⟨by decide, by decide⟩)) hc8) hc8 rfl rfl (hL3 (ff, d, kk) (hf.n ⟨by decide, by decide⟩) (hf.n ⟨by decide, by decide⟩)) rfl rfl (Nat.le_of_ble_eq_true rfl) ⟨by rw [hR]; exact Nat.le_of_ble_eq_true rfl, by rw [hR]; exact Nat.le_of_ble_eq_true rfl⟩ ⟨by rw [hR]; dsimp only; omega, by rw [hR]; dsimp only; omega⟩ dX1_changeJob_28 (fun v28 C9 L9 h9 => ?_)
  obtain ⟨rfl, rfl, rfl⟩ := h9
  exact k_vret X hE dX1_changeJob_31 (by first | omega | exact Nat.le_of_ble_eq_true rfl | (dsimp only; omega)) (by first | omega | exact Nat.le_of_ble_eq_true rfl | (dsimp only; omega)) ⟨rfl, hX3.put hf.f, fun t ht => ⟨(kup_n (fun e => by rw [e] at ht; rcases hf.f with z | z <;> exact absurd ht (by show ¬ 30 ≤ ff; omega))).trans (hC3 t (by omega) (by omega) (by omega)), hL3 t (by omega) (by omega)⟩, fun t ht => hL3 t (by omega) (by omega)⟩
