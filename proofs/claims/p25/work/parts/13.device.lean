theorem kmade {x : Int32} {n : Nat} (h1 : ¬ x < nI 1000) (h2 : x - nI 1000 < nI n) (hn : n ≤ 512) : ∃ k : Nat, k < n ∧ x = nI (1000 + k) ∧ x - nI 1000 = nI k := by
  have h0 : ¬ x < 0 := fun z => h1 (Int32.lt_trans z (by decide))
  obtain ⟨j, hj, rfl⟩ := nI_of h0
  have h3 : 1000 ≤ j := Nat.le_of_not_lt fun z => h1 (nI_lt z (by decide))
  rw [pk_sub h3] at h2 ⊢
  have h4 : j - 1000 < n := (nI_ltI (by omega) (by omega)).mp h2
  exact ⟨j - 1000, h4, by rw [show 1000 + (j - 1000) = j by omega], rfl⟩
theorem knomade1 {x : Int32} {n : Nat} (h1 : x < nI 1000) (hn : n ≤ 512) : ∀ k : Nat, k < n → x ≠ nI (1000 + k) := by
  intro k hk e
  rw [e] at h1
  exact nI_nlt (by omega) (by omega) h1
theorem knomade2 {x : Int32} {n : Nat} (h1 : ¬ x - nI 1000 < nI n) (hn : n ≤ 512) : ∀ k : Nat, k < n → x ≠ nI (1000 + k) := by
  intro k hk e
  rw [e, pk_sub (by omega), show 1000 + k - 1000 = k by omega] at h1
  exact h1 (nI_lt hk (by omega))
/-- x is the own number of the device's k-th made job, or of none -/
def kOwn (N : kN3) (d : Nat) (x : Int32) (o : Option Nat) : Prop := (∃ k, k < N 2 d 0 ∧ x = nI (1000 + k) ∧ o = some k) ∨ ((∀ k, k < N 2 d 0 → x ≠ nI (1000 + k)) ∧ o = none)
/-- the number of the central store for x -/
def kCn (S : kI4) (N : kN3) (d : Nat) (x r : Int32) : Prop := (∃ k, k < N 2 d 0 ∧ x = nI (1000 + k) ∧ r = S 9 d k 0) ∨ ((∀ k, k < N 2 d 0 → x ≠ nI (1000 + k)) ∧ r = x)

set_option maxHeartbeats 4000000 in
set_option maxRecDepth 100000 in
theorem c_madeJob {l : Launch} (htr : l.stackTraces = false) {E : kE} {A : Nat → Prop} {C : kC} {L : kL} {S : kI4} {N : kN3} (hX : isX E C L S N) (hO : okX S N) {d : Nat} (hd : d < 4) (job : Int32) : kM l yX1_madeJob cX1_madeJob 2 (some (.object "FieldStore$Made")) 3 64 0 0 E A C L [.ref (L (5, d, 0)), .int job] (fun v C' L' => ((∃ k, k < N 2 d 0 ∧ job = nI (1000 + k) ∧ v = some (.ref (L (17, d, k)))) ∨ ((∀ k, k < N 2 d 0 → job ≠ nI (1000 + k)) ∧ v = some .null)) ∧ L = L' ∧ C = C') := by
  obtain ⟨vl8, hl8⟩ := (hX.2 d hd).2.2.2.1.hd
  obtain ⟨vl10, hl10⟩ := (hX.2 d hd).2.2.2.2.1.hd
  obtain ⟨vl12, hl12⟩ := (hX.2 d hd).2.2.2.2.2.1.hd
  have hb2 := (hO.2 d hd).1
  have hb3 := (hO.2 d hd).2.1
  have hb4 := (hO.2 d hd).2.2.1
  have hb5 := (hO.2 d hd).2.2.2.1
  refine kM.of htr (by decide) (Nat.le_of_ble_eq_true rfl) (fun Γ hl hR hN hnm X hE => ?_)
  refine k_lo (lo' := [(0, .ref (L (5, d, 0))), (1, .int job)]) ⟨rfl, rfl, trivial⟩ ?_
  refine k_iload_n X dX1_madeJob_0 rfl rfl ?_
  refine k_sipush (v := (nI 1000)) X dX1_madeJob_1 (by decide) ?_
  refine k_icmp_lt (tgt := 22) X dX1_madeJob_4 (by decide) (fun c4 => ?_) (fun c4 => ?_)
  ·
    refine k_null X dX1_madeJob_22 ?_
    exact k_aret X hE (Or.inl ⟨_, rfl⟩) (Or.inl rfl) dX1_madeJob_23 (by omega) (by omega) ⟨Or.inr ⟨by first | exact knomade1 c4 hb2 | exact knomade2 c19 hb2, rfl⟩, rfl, rfl⟩
  ·
    refine k_iload_n X dX1_madeJob_7 rfl rfl ?_
    refine k_sipush (v := (nI 1000)) X dX1_madeJob_8 (by decide) ?_
    refine k_isub X dX1_madeJob_11 ?_
    refine k_aload_n X dX1_madeJob_12 rfl rfl ?_
    refine k_get0 X (hX.2 d hd).1 (q := (RX1, TX1, 9)) rfl inlX1 4 (by decide) kb_44 (Or.inl rfl) rfl rfl dX1_madeJob_13 ?_
    refine k_callV (rest := [.int (job - (nI 1000))]) X kv_Jx4a65c_size_8abf5 kb_275 (c_Ls_size X.tr (hX.2 d hd).2.2.2.1) hl8 rfl rfl rfl rfl rfl (Nat.le_of_ble_eq_true rfl) ⟨by rw [hR]; exact Nat.le_of_ble_eq_true rfl, by rw [hR]; exact Nat.le_of_ble_eq_true rfl⟩ ⟨by rw [hR]; exact Nat.le_of_ble_eq_true rfl, by rw [hR]; exact Nat.le_of_ble_eq_true rfl⟩ dX1_madeJob_16 (fun v16 C9 L9 h9 => ?_)
    obtain ⟨rfl, rfl, rfl⟩ := h9
    refine k_icmp_lt (tgt := 24) X dX1_madeJob_19 (by decide) (fun c19 => ?_) (fun c19 => ?_)
    ·
      refine k_aload_n X dX1_madeJob_24 rfl rfl ?_
      refine k_get0 X (hX.2 d hd).1 (q := (RX1, TX1, 9)) rfl inlX1 4 (by decide) kb_44 (Or.inl rfl) rfl rfl dX1_madeJob_25 ?_
      refine k_iload_n X dX1_madeJob_28 rfl rfl ?_
      refine k_sipush (v := (nI 1000)) X dX1_madeJob_29 (by decide) ?_
      refine k_isub X dX1_madeJob_32 ?_
      obtain ⟨k, hk, hjob, hsub⟩ := kmade c4 c19 hb2
      refine k_rw hsub ?_
      refine k_callV (rest := []) X kv_Jx4a65c_get_915e3 kb_276 (c_Ls_get X.tr (hX.2 d hd).2.2.2.1 k hk (by omega)) hl8 rfl rfl rfl rfl rfl (Nat.le_of_ble_eq_true rfl) ⟨by rw [hR]; exact Nat.le_of_ble_eq_true rfl, by rw [hR]; exact Nat.le_of_ble_eq_true rfl⟩ ⟨by rw [hR]; exact Nat.le_of_ble_eq_true rfl, by rw [hR]; exact Nat.le_of_ble_eq_true rfl⟩ dX1_madeJob_33 (fun v33 C9 L9 h9 => ?_)
      obtain ⟨rfl, rfl, rfl⟩ := h9
      refine k_cast X ((hX.2 d hd).2.2.2.2.2.2.2.1 k hk).1 (r := (RX4, TX4, 2)) rfl rfl kb_315 dX1_madeJob_36 ?_
      exact k_aret X hE (Or.inl ⟨_, rfl⟩) (Or.inr ⟨_, rfl⟩) dX1_madeJob_39 (by omega) (by omega) ⟨Or.inl ⟨k, hk, hjob, rfl⟩, rfl, rfl⟩
    ·
      refine k_null X dX1_madeJob_22 ?_
      exact k_aret X hE (Or.inl ⟨_, rfl⟩) (Or.inl rfl) dX1_madeJob_23 (by omega) (by omega) ⟨Or.inr ⟨by first | exact knomade1 c4 hb2 | exact knomade2 c19 hb2, rfl⟩, rfl, rfl⟩

set_option maxHeartbeats 4000000 in
set_option maxRecDepth 100000 in
theorem c_centralNumber {l : Launch} (htr : l.stackTraces = false) {E : kE} {A : Nat → Prop} {C : kC} {L : kL} {S : kI4} {N : kN3} (hX : isX E C L S N) (hO : okX S N) {d : Nat} (hd : d < 4) (job : Int32) : kM l yX1_centralNumber cX1_centralNumber 3 (some .int) 4 85 0 0 E A C L [.ref (L (5, d, 0)), .int job] (fun v C' L' => (∃ r, v = some (.int r) ∧ kCn S N d job r) ∧ L = L' ∧ C = C') := by
  obtain ⟨vl8, hl8⟩ := (hX.2 d hd).2.2.2.1.hd
  obtain ⟨vl10, hl10⟩ := (hX.2 d hd).2.2.2.2.1.hd
  obtain ⟨vl12, hl12⟩ := (hX.2 d hd).2.2.2.2.2.1.hd
  have hb2 := (hO.2 d hd).1
  have hb3 := (hO.2 d hd).2.1
  have hb4 := (hO.2 d hd).2.2.1
  have hb5 := (hO.2 d hd).2.2.2.1
  refine kM.of htr (by decide) (Nat.le_of_ble_eq_true rfl) (fun Γ hl hR hN hnm X hE => ?_)
  refine k_lo (lo' := [(0, .ref (L (5, d, 0))), (1, .int job)]) ⟨rfl, rfl, trivial⟩ ?_
  refine k_aload_n X dX1_centralNumber_0 rfl rfl ?_
  refine k_iload_n X dX1_centralNumber_1 rfl rfl ?_
  refine k_callV (rest := []) X kv_X1_madeJob kb_270 (c_madeJob X.tr hX hO hd job) (hX.2 d hd).1 rfl rfl rfl rfl rfl (Nat.le_of_ble_eq_true rfl) ⟨by rw [hR]; exact Nat.le_of_ble_eq_true rfl, by rw [hR]; exact Nat.le_of_ble_eq_true rfl⟩ ⟨by rw [hR]; exact Nat.le_of_ble_eq_true rfl, by rw [hR]; exact Nat.le_of_ble_eq_true rfl⟩ dX1_centralNumber_2 (fun v2 C9 L9 h9 => ?_)
  obtain ⟨(⟨k, hk, hjob, rfl⟩ | ⟨hno, rfl⟩), rfl, rfl⟩ := h9
  ·
    refine k_astore_n X dX1_centralNumber_5 rfl (by rw [hN]; decide) ?_
    refine k_aload_n X dX1_centralNumber_6 rfl rfl ?_
    refine k_ifnonnull (tgt := 14) X dX1_centralNumber_7 (by decide) ?_
    refine k_aload_n X dX1_centralNumber_14 rfl rfl ?_
    refine k_get0 X ((hX.2 d hd).2.2.2.2.2.2.2.1 k hk).1 (q := (RX4, TX4, 2)) rfl inlX4 0 (by decide) kb_268 (Or.inl rfl) rfl rfl dX1_centralNumber_15 ?_
    exact k_iret X hE dX1_centralNumber_18 (by omega) (by omega) ⟨⟨_, rfl, Or.inl ⟨k, hk, hjob, rfl⟩⟩, rfl, rfl⟩
  ·
    refine k_astore_nN X dX1_centralNumber_5 rfl (by rw [hN]; decide) ?_
    refine k_aload_nN X dX1_centralNumber_6 rfl rfl ?_
    refine k_ifnonnullN X dX1_centralNumber_7 ?_
    refine k_iload_n X dX1_centralNumber_10 rfl rfl ?_
    refine k_goto (tgt := 18) X dX1_centralNumber_11 (by decide) ?_
    exact k_iret X hE dX1_centralNumber_18 (by omega) (by omega) ⟨⟨_, rfl, Or.inr ⟨hno, rfl⟩⟩, rfl, rfl⟩

/-- where a device holds the fields of job x, if it does -/
def kHf (S : kI4) (N : kN3) (d : Nat) (x : Int32) (o : Option kT) : Prop :=
  (∃ k, k < N 2 d 0 ∧ x = nI (1000 + k) ∧ S 9 d k 0 = -1 ∧ o = some (18, d, k)) ∨
  ((∀ k, k < N 2 d 0 → x = nI (1000 + k) → S 9 d k 0 ≠ -1) ∧ ∃ r, kCn S N d x r ∧ ((∃ n, n < 40 ∧ r = nI n ∧ S 5 d n 0 ≠ 0 ∧ ((N 11 d n ≠ 0 ∧ o = some (16, d, n)) ∨ (N 11 d n = 0 ∧ o = none))) ∨ ((∀ n, n < 40 → r = nI n → S 5 d n 0 = 0) ∧ o = none)))
def kRo (L : kL) (o : Option kT) : Value := match o with
  | none => .null
  | some t => .ref (L t)
theorem kown_inj {j k : Nat} (h : nI (1000 + j) = nI (1000 + k)) (hj : j < 512) (hk : k < 512) : j = k := by
  have := (nI_eq (by omega) (by omega)).mp h
  omega
theorem nI_inj {j k : Nat} (h : nI j = nI k) (hj : j < 2 ^ 31) (hk : k < 2 ^ 31) : j = k := (nI_eq hj hk).mp h

set_option maxHeartbeats 4000000 in
set_option maxRecDepth 100000 in
theorem c_heldFields {l : Launch} (htr : l.stackTraces = false) {E : kE} {A : Nat → Prop} {C : kC} {L : kL} {S : kI4} {N : kN3} (hX : isX E C L S N) (hO : okX S N) {d : Nat} (hd : d < 4) (job : Int32) : kM l yX1_heldFields cX1_heldFields 4 (some (.object "FieldStore$Fields")) 4 85 0 0 E A C L [.ref (L (5, d, 0)), .int job] (fun v C' L' => (∃ o, v = some (kRo L o) ∧ kHf S N d job o) ∧ L = L' ∧ C = C') := by
  obtain ⟨vl8, hl8⟩ := (hX.2 d hd).2.2.2.1.hd
  obtain ⟨vl10, hl10⟩ := (hX.2 d hd).2.2.2.2.1.hd
  obtain ⟨vl12, hl12⟩ := (hX.2 d hd).2.2.2.2.2.1.hd
  have hb2 := (hO.2 d hd).1
  have hb3 := (hO.2 d hd).2.1
  have hb4 := (hO.2 d hd).2.2.1
  have hb5 := (hO.2 d hd).2.2.2.1
  refine kM.of htr (by decide) (Nat.le_of_ble_eq_true rfl) (fun Γ hl hR hN hnm X hE => ?_)
  refine k_lo (lo' := [(0, .ref (L (5, d, 0))), (1, .int job)]) ⟨rfl, rfl, trivial⟩ ?_
  refine k_aload_n X dX1_heldFields_0 rfl rfl ?_
  refine k_iload_n X dX1_heldFields_1 rfl rfl ?_
  refine k_callV (rest := []) X kv_X1_madeJob kb_270 (c_madeJob X.tr hX hO hd job) (hX.2 d hd).1 rfl rfl rfl rfl rfl (Nat.le_of_ble_eq_true rfl) ⟨by rw [hR]; exact Nat.le_of_ble_eq_true rfl, by rw [hR]; exact Nat.le_of_ble_eq_true rfl⟩ ⟨by rw [hR]; exact Nat.le_of_ble_eq_true rfl, by rw [hR]; exact Nat.le_of_ble_eq_true rfl⟩ dX1_heldFields_2 (fun v2 C9 L9 h9 => ?_)
  obtain ⟨(⟨k, hk, hjob, rfl⟩ | ⟨hno, rfl⟩), rfl, rfl⟩ := h9
  ·
    refine k_astore_n X dX1_heldFields_5 rfl (by rw [hN]; decide) ?_
    refine k_aload_n X dX1_heldFields_6 rfl rfl ?_
    refine k_ifnull X dX1_heldFields_7 ?_
    refine k_aload_n X dX1_heldFields_10 rfl rfl ?_
    refine k_get0 X ((hX.2 d hd).2.2.2.2.2.2.2.1 k hk).1 (q := (RX4, TX4, 2)) rfl inlX4 0 (by decide) kb_268 (Or.inl rfl) rfl rfl dX1_heldFields_11 ?_
    refine k_iconst (v := (-1)) X dX1_heldFields_14 (by decide) ?_
    refine k_icmp_ne (tgt := 23) X dX1_heldFields_15 (by decide) (fun c15 => ?_) (fun c15 => ?_)
    ·
      refine k_aload_n X dX1_heldFields_23 rfl rfl ?_
      refine k_ifnonnull (tgt := 31) X dX1_heldFields_24 (by decide) ?_
      refine k_aload_n X dX1_heldFields_31 rfl rfl ?_
      refine k_get0 X ((hX.2 d hd).2.2.2.2.2.2.2.1 k hk).1 (q := (RX4, TX4, 2)) rfl inlX4 0 (by decide) kb_268 (Or.inl rfl) rfl rfl dX1_heldFields_32 ?_
      refine k_istore_n X dX1_heldFields_35 rfl (by rw [hN]; decide) ?_
      refine k_iload_n X dX1_heldFields_36 rfl rfl ?_
      refine k_if_lt (tgt := 55) X dX1_heldFields_37 (by decide) (fun c37 => ?_) (fun c37 => ?_)
      ·
        refine k_null X dX1_heldFields_55 ?_
        exact k_aret X hE (Or.inl ⟨_, rfl⟩) (Or.inl rfl) dX1_heldFields_56 (by omega) (by omega) ⟨⟨none, rfl, Or.inr ⟨(fun k2 hk2 e2 => by have e3 := kown_inj (e2.symm.trans hjob) (by omega) (by omega); subst e3; exact c15), _, Or.inl ⟨k, hk, hjob, rfl⟩, Or.inr ⟨by first | exact fun n2 hn2 e2 => absurd (show nI n2 < 0 from e2 ▸ c37) (nI_pos (by omega)) | exact fun n2 hn2 e2 => absurd (show nI 40 ≤ nI n2 from e2 ▸ c43) (nI_ge hn2 (by decide)) | exact fun n2 hn2 e2 => by rw [nI_inj (e2.symm.trans hrn) (by omega) (by omega)]; exact c52, rfl⟩⟩⟩, rfl, rfl⟩
      ·
        refine k_iload_n X dX1_heldFields_40 rfl rfl ?_
        refine k_bipush (v := (nI 40)) X dX1_heldFields_41 (by decide) ?_
        refine k_icmp_ge (tgt := 55) X dX1_heldFields_43 (by decide) (fun c43 => ?_) (fun c43 => ?_)
        ·
          refine k_null X dX1_heldFields_55 ?_
          exact k_aret X hE (Or.inl ⟨_, rfl⟩) (Or.inl rfl) dX1_heldFields_56 (by omega) (by omega) ⟨⟨none, rfl, Or.inr ⟨(fun k2 hk2 e2 => by have e3 := kown_inj (e2.symm.trans hjob) (by omega) (by omega); subst e3; exact c15), _, Or.inl ⟨k, hk, hjob, rfl⟩, Or.inr ⟨by first | exact fun n2 hn2 e2 => absurd (show nI n2 < 0 from e2 ▸ c37) (nI_pos (by omega)) | exact fun n2 hn2 e2 => absurd (show nI 40 ≤ nI n2 from e2 ▸ c43) (nI_ge hn2 (by decide)) | exact fun n2 hn2 e2 => by rw [nI_inj (e2.symm.trans hrn) (by omega) (by omega)]; exact c52, rfl⟩⟩⟩, rfl, rfl⟩
        ·
          refine k_aload_n X dX1_heldFields_46 rfl rfl ?_
          refine k_get0 X (hX.2 d hd).1 (q := (RX1, TX1, 9)) rfl inlX1 2 (by decide) kb_41 (Or.inl rfl) rfl rfl dX1_heldFields_47 ?_
          refine k_iload_n X dX1_heldFields_50 rfl rfl ?_
          obtain ⟨n, hn, hrn⟩ : ∃ n : Nat, n < 40 ∧ (S 9 d k 0) = nI n := by
            rcases pk_ix ((S 9 d k 0)) (n := 40) (by decide) with z | z | ⟨j, h1, h2⟩
            · exact absurd z c37
            · exact absurd z c43
            · exact ⟨j, h1, h2⟩
          refine k_zald X (hX.2 d hd).2.2.1 rfl (by rw [hrn]; exact vp_in_nI hn (by decide)) dX1_heldFields_51 ?_
          refine k_rw (y := S 5 d n 0) (by rw [hrn, nI_clamp (by omega)]) ?_
          refine k_if_ne (tgt := 57) X dX1_heldFields_52 (by decide) (fun c52 => ?_) (fun c52 => ?_)
          ·
            refine k_aload_n X dX1_heldFields_57 rfl rfl ?_
            refine k_get0 X (hX.2 d hd).1 (q := (RX1, TX1, 9)) rfl inlX1 1 (by decide) kb_39 (Or.inl rfl) rfl rfl dX1_heldFields_58 ?_
            refine k_iload_n X dX1_heldFields_61 rfl rfl ?_
            by_cases h11 : N 11 d n = 0
            ·
              refine k_aald X (hX.2 d hd).2.1 (nm := RX2) rfl rfl (by rw [hrn]; exact vp_in_nI hn (by decide)) dX1_heldFields_62 (v := .null) (by rw [hrn, nI_clamp (by omega)]; simp only [if_pos h11, va_rf]) ?_
              exact k_aret X hE (Or.inl ⟨_, rfl⟩) (Or.inl rfl) dX1_heldFields_63 (by omega) (by omega) ⟨⟨none, rfl, Or.inr ⟨(fun k2 hk2 e2 => by have e3 := kown_inj (e2.symm.trans hjob) (by omega) (by omega); subst e3; exact c15), _, Or.inl ⟨k, hk, hjob, rfl⟩, Or.inl ⟨n, hn, hrn, c52, Or.inr ⟨h11, rfl⟩⟩⟩⟩, rfl, rfl⟩
            ·
              refine k_aald X (hX.2 d hd).2.1 (nm := RX2) rfl rfl (by rw [hrn]; exact vp_in_nI hn (by decide)) dX1_heldFields_62 (v := .ref (L (16, d, n))) (by rw [hrn, nI_clamp (by omega)]; simp only [if_neg h11, va_rf]) ?_
              exact k_aret X hE (Or.inl ⟨_, rfl⟩) (Or.inr ⟨_, rfl⟩) dX1_heldFields_63 (by omega) (by omega) ⟨⟨some (16, d, n), rfl, Or.inr ⟨(fun k2 hk2 e2 => by have e3 := kown_inj (e2.symm.trans hjob) (by omega) (by omega); subst e3; exact c15), _, Or.inl ⟨k, hk, hjob, rfl⟩, Or.inl ⟨n, hn, hrn, c52, Or.inl ⟨h11, rfl⟩⟩⟩⟩, rfl, rfl⟩
          ·
            refine k_null X dX1_heldFields_55 ?_
            exact k_aret X hE (Or.inl ⟨_, rfl⟩) (Or.inl rfl) dX1_heldFields_56 (by omega) (by omega) ⟨⟨none, rfl, Or.inr ⟨(fun k2 hk2 e2 => by have e3 := kown_inj (e2.symm.trans hjob) (by omega) (by omega); subst e3; exact c15), _, Or.inl ⟨k, hk, hjob, rfl⟩, Or.inr ⟨by first | exact fun n2 hn2 e2 => absurd (show nI n2 < 0 from e2 ▸ c37) (nI_pos (by omega)) | exact fun n2 hn2 e2 => absurd (show nI 40 ≤ nI n2 from e2 ▸ c43) (nI_ge hn2 (by decide)) | exact fun n2 hn2 e2 => by rw [nI_inj (e2.symm.trans hrn) (by omega) (by omega)]; exact c52, rfl⟩⟩⟩, rfl, rfl⟩
    ·
      refine k_aload_n X dX1_heldFields_18 rfl rfl ?_
      refine k_get0 X ((hX.2 d hd).2.2.2.2.2.2.2.1 k hk).1 (q := (RX4, TX4, 2)) rfl inlX4 1 (by decide) kb_269 (Or.inl rfl) rfl rfl dX1_heldFields_19 ?_
      exact k_aret X hE (Or.inl ⟨_, rfl⟩) (Or.inr ⟨_, rfl⟩) dX1_heldFields_22 (by omega) (by omega) ⟨⟨some (18, d, k), rfl, Or.inl ⟨k, hk, hjob, c15, rfl⟩⟩, rfl, rfl⟩
  ·
    refine k_astore_nN X dX1_heldFields_5 rfl (by rw [hN]; decide) ?_
    refine k_aload_nN X dX1_heldFields_6 rfl rfl ?_
    refine k_ifnullN (tgt := 23) X dX1_heldFields_7 (by decide) ?_
    refine k_aload_nN X dX1_heldFields_23 rfl rfl ?_
    refine k_ifnonnullN X dX1_heldFields_24 ?_
    refine k_iload_n X dX1_heldFields_27 rfl rfl ?_
    refine k_goto (tgt := 35) X dX1_heldFields_28 (by decide) ?_
    refine k_istore_n X dX1_heldFields_35 rfl (by rw [hN]; decide) ?_
    refine k_iload_n X dX1_heldFields_36 rfl rfl ?_
    refine k_if_lt (tgt := 55) X dX1_heldFields_37 (by decide) (fun c37 => ?_) (fun c37 => ?_)
    ·
      refine k_null X dX1_heldFields_55 ?_
      exact k_aret X hE (Or.inl ⟨_, rfl⟩) (Or.inl rfl) dX1_heldFields_56 (by omega) (by omega) ⟨⟨none, rfl, Or.inr ⟨(fun k2 hk2 e2 => absurd e2 (hno k2 hk2)), _, Or.inr ⟨hno, rfl⟩, Or.inr ⟨by first | exact fun n2 hn2 e2 => absurd (show nI n2 < 0 from e2 ▸ c37) (nI_pos (by omega)) | exact fun n2 hn2 e2 => absurd (show nI 40 ≤ nI n2 from e2 ▸ c43) (nI_ge hn2 (by decide)) | exact fun n2 hn2 e2 => by rw [nI_inj (e2.symm.trans hrn) (by omega) (by omega)]; exact c52, rfl⟩⟩⟩, rfl, rfl⟩
    ·
      refine k_iload_n X dX1_heldFields_40 rfl rfl ?_
      refine k_bipush (v := (nI 40)) X dX1_heldFields_41 (by decide) ?_
      refine k_icmp_ge (tgt := 55) X dX1_heldFields_43 (by decide) (fun c43 => ?_) (fun c43 => ?_)
      ·
        refine k_null X dX1_heldFields_55 ?_
        exact k_aret X hE (Or.inl ⟨_, rfl⟩) (Or.inl rfl) dX1_heldFields_56 (by omega) (by omega) ⟨⟨none, rfl, Or.inr ⟨(fun k2 hk2 e2 => absurd e2 (hno k2 hk2)), _, Or.inr ⟨hno, rfl⟩, Or.inr ⟨by first | exact fun n2 hn2 e2 => absurd (show nI n2 < 0 from e2 ▸ c37) (nI_pos (by omega)) | exact fun n2 hn2 e2 => absurd (show nI 40 ≤ nI n2 from e2 ▸ c43) (nI_ge hn2 (by decide)) | exact fun n2 hn2 e2 => by rw [nI_inj (e2.symm.trans hrn) (by omega) (by omega)]; exact c52, rfl⟩⟩⟩, rfl, rfl⟩
      ·
        refine k_aload_n X dX1_heldFields_46 rfl rfl ?_
        refine k_get0 X (hX.2 d hd).1 (q := (RX1, TX1, 9)) rfl inlX1 2 (by decide) kb_41 (Or.inl rfl) rfl rfl dX1_heldFields_47 ?_
        refine k_iload_n X dX1_heldFields_50 rfl rfl ?_
        obtain ⟨n, hn, hrn⟩ : ∃ n : Nat, n < 40 ∧ job = nI n := by
          rcases pk_ix (job) (n := 40) (by decide) with z | z | ⟨j, h1, h2⟩
          · exact absurd z c37
          · exact absurd z c43
          · exact ⟨j, h1, h2⟩
        refine k_zald X (hX.2 d hd).2.2.1 rfl (by rw [hrn]; exact vp_in_nI hn (by decide)) dX1_heldFields_51 ?_
        refine k_rw (y := S 5 d n 0) (by rw [hrn, nI_clamp (by omega)]) ?_
        refine k_if_ne (tgt := 57) X dX1_heldFields_52 (by decide) (fun c52 => ?_) (fun c52 => ?_)
        ·
          refine k_aload_n X dX1_heldFields_57 rfl rfl ?_
          refine k_get0 X (hX.2 d hd).1 (q := (RX1, TX1, 9)) rfl inlX1 1 (by decide) kb_39 (Or.inl rfl) rfl rfl dX1_heldFields_58 ?_
          refine k_iload_n X dX1_heldFields_61 rfl rfl ?_
          by_cases h11 : N 11 d n = 0
          ·
            refine k_aald X (hX.2 d hd).2.1 (nm := RX2) rfl rfl (by rw [hrn]; exact vp_in_nI hn (by decide)) dX1_heldFields_62 (v := .null) (by rw [hrn, nI_clamp (by omega)]; simp only [if_pos h11, va_rf]) ?_
            exact k_aret X hE (Or.inl ⟨_, rfl⟩) (Or.inl rfl) dX1_heldFields_63 (by omega) (by omega) ⟨⟨none, rfl, Or.inr ⟨(fun k2 hk2 e2 => absurd e2 (hno k2 hk2)), _, Or.inr ⟨hno, rfl⟩, Or.inl ⟨n, hn, hrn, c52, Or.inr ⟨h11, rfl⟩⟩⟩⟩, rfl, rfl⟩
          ·
            refine k_aald X (hX.2 d hd).2.1 (nm := RX2) rfl rfl (by rw [hrn]; exact vp_in_nI hn (by decide)) dX1_heldFields_62 (v := .ref (L (16, d, n))) (by rw [hrn, nI_clamp (by omega)]; simp only [if_neg h11, va_rf]) ?_
            exact k_aret X hE (Or.inl ⟨_, rfl⟩) (Or.inr ⟨_, rfl⟩) dX1_heldFields_63 (by omega) (by omega) ⟨⟨some (16, d, n), rfl, Or.inr ⟨(fun k2 hk2 e2 => absurd e2 (hno k2 hk2)), _, Or.inr ⟨hno, rfl⟩, Or.inl ⟨n, hn, hrn, c52, Or.inl ⟨h11, rfl⟩⟩⟩⟩, rfl, rfl⟩
        ·
          refine k_null X dX1_heldFields_55 ?_
          exact k_aret X hE (Or.inl ⟨_, rfl⟩) (Or.inl rfl) dX1_heldFields_56 (by omega) (by omega) ⟨⟨none, rfl, Or.inr ⟨(fun k2 hk2 e2 => absurd e2 (hno k2 hk2)), _, Or.inr ⟨hno, rfl⟩, Or.inr ⟨by first | exact fun n2 hn2 e2 => absurd (show nI n2 < 0 from e2 ▸ c37) (nI_pos (by omega)) | exact fun n2 hn2 e2 => absurd (show nI 40 ≤ nI n2 from e2 ▸ c43) (nI_ge hn2 (by decide)) | exact fun n2 hn2 e2 => by rw [nI_inj (e2.symm.trans hrn) (by omega) (by omega)]; exact c52, rfl⟩⟩⟩, rfl, rfl⟩

set_option maxHeartbeats 4000000 in
set_option maxRecDepth 100000 in
theorem c_heldCount {l : Launch} (htr : l.stackTraces = false) {E : kE} {A : Nat → Prop} {C : kC} {L : kL} {S : kI4} {N : kN3} (hX : isX E C L S N) (hO : okX S N) {d : Nat} (hd : d < 4)  : kM l yX1_heldCount cX1_heldCount 1 (some .int) 0 0 0 0 E A C L [.ref (L (5, d, 0))] (fun v C' L' => v = some (.int (S 6 d 0 0 + S 7 d 0 0)) ∧ L = L' ∧ C = C') := by
  refine kM.of htr (by decide) (Nat.le_of_ble_eq_true rfl) (fun Γ hl hR hN hnm X hE => ?_)
  refine k_lo (lo' := [(0, .ref (L (5, d, 0)))]) ⟨rfl, trivial⟩ ?_
  refine k_aload_n X dX1_heldCount_0 rfl rfl ?_
  refine k_get0 X (hX.2 d hd).1 (q := (RX1, TX1, 9)) rfl inlX1 3 (by decide) kb_42 (Or.inl rfl) rfl rfl dX1_heldCount_1 ?_
  refine k_aload_n X dX1_heldCount_4 rfl rfl ?_
  refine k_get0 X (hX.2 d hd).1 (q := (RX1, TX1, 9)) rfl inlX1 5 (by decide) kb_45 (Or.inl rfl) rfl rfl dX1_heldCount_5 ?_
  refine k_iadd X dX1_heldCount_8 ?_
  exact k_iret X hE dX1_heldCount_9 (by omega) (by omega) ⟨rfl, rfl, rfl⟩

set_option maxHeartbeats 4000000 in
set_option maxRecDepth 100000 in
theorem c_takesActs {l : Launch} (htr : l.stackTraces = false) {E : kE} {A : Nat → Prop} {C : kC} {L : kL} {S : kI4} {N : kN3} (hX : isX E C L S N) (hO : okX S N) {d : Nat} (hd : d < 4)  : kM l yX1_takesActs cX1_takesActs 1 (some .boolean) 1 20 0 0 E A C L [.ref (L (5, d, 0))] (fun v C' L' => v = some (.int (if N 3 d 0 < 512 then nI 1 else nI 0)) ∧ L = L' ∧ C = C') := by
  obtain ⟨vl8, hl8⟩ := (hX.2 d hd).2.2.2.1.hd
  obtain ⟨vl10, hl10⟩ := (hX.2 d hd).2.2.2.2.1.hd
  obtain ⟨vl12, hl12⟩ := (hX.2 d hd).2.2.2.2.2.1.hd
  have hb2 := (hO.2 d hd).1
  have hb3 := (hO.2 d hd).2.1
  have hb4 := (hO.2 d hd).2.2.1
  have hb5 := (hO.2 d hd).2.2.2.1
  refine kM.of htr (by decide) (Nat.le_of_ble_eq_true rfl) (fun Γ hl hR hN hnm X hE => ?_)
  refine k_lo (lo' := [(0, .ref (L (5, d, 0)))]) ⟨rfl, trivial⟩ ?_
  refine k_aload_n X dX1_takesActs_0 rfl rfl ?_
  refine k_get0 X (hX.2 d hd).1 (q := (RX1, TX1, 9)) rfl inlX1 6 (by decide) kb_46 (Or.inl rfl) rfl rfl dX1_takesActs_1 ?_
  refine k_callV (rest := []) X kv_Jx4a65c_size_8abf5 kb_275 (c_Ls_size X.tr (hX.2 d hd).2.2.2.2.1) hl10 rfl rfl rfl rfl rfl (Nat.le_of_ble_eq_true rfl) ⟨by rw [hR]; exact Nat.le_of_ble_eq_true rfl, by rw [hR]; exact Nat.le_of_ble_eq_true rfl⟩ ⟨by rw [hR]; exact Nat.le_of_ble_eq_true rfl, by rw [hR]; exact Nat.le_of_ble_eq_true rfl⟩ dX1_takesActs_4 (fun v4 C9 L9 h9 => ?_)
  obtain ⟨rfl, rfl, rfl⟩ := h9
  refine k_sipush (v := (nI 512)) X dX1_takesActs_7 (by decide) ?_
  refine k_icmp_ge (tgt := 17) X dX1_takesActs_10 (by decide) (fun c10 => ?_) (fun c10 => ?_)
  ·
    refine k_iconst (v := (nI 0)) X dX1_takesActs_17 (by decide) ?_
    exact k_zret X hE kz0 dX1_takesActs_18 (by omega) (by omega) ⟨by rw [if_neg (fun z => nI_ge z (by decide) c10)], rfl, rfl⟩
  ·
    refine k_iconst (v := (nI 1)) X dX1_takesActs_13 (by decide) ?_
    refine k_goto (tgt := 18) X dX1_takesActs_14 (by decide) ?_
    exact k_zret X hE kz1 dX1_takesActs_18 (by omega) (by omega) ⟨by rw [if_pos (show N 3 d 0 < 512 from Nat.lt_of_not_le fun z => c10 (nI_le z (by omega)))], rfl, rfl⟩

set_option maxHeartbeats 4000000 in
set_option maxRecDepth 100000 in
theorem c_waitingCount {l : Launch} (htr : l.stackTraces = false) {E : kE} {A : Nat → Prop} {C : kC} {L : kL} {S : kI4} {N : kN3} (hX : isX E C L S N) (hO : okX S N) {d : Nat} (hd : d < 4)  : kM l yX1_waitingCount cX1_waitingCount 1 (some .int) 1 20 0 0 E A C L [.ref (L (5, d, 0))] (fun v C' L' => v = some (.int (nI (N 3 d 0 - N 4 d 0))) ∧ L = L' ∧ C = C') := by
  obtain ⟨vl8, hl8⟩ := (hX.2 d hd).2.2.2.1.hd
  obtain ⟨vl10, hl10⟩ := (hX.2 d hd).2.2.2.2.1.hd
  obtain ⟨vl12, hl12⟩ := (hX.2 d hd).2.2.2.2.2.1.hd
  have hb2 := (hO.2 d hd).1
  have hb3 := (hO.2 d hd).2.1
  have hb4 := (hO.2 d hd).2.2.1
  have hb5 := (hO.2 d hd).2.2.2.1
  refine kM.of htr (by decide) (Nat.le_of_ble_eq_true rfl) (fun Γ hl hR hN hnm X hE => ?_)
  refine k_lo (lo' := [(0, .ref (L (5, d, 0)))]) ⟨rfl, trivial⟩ ?_
  refine k_aload_n X dX1_waitingCount_0 rfl rfl ?_
  refine k_get0 X (hX.2 d hd).1 (q := (RX1, TX1, 9)) rfl inlX1 6 (by decide) kb_46 (Or.inl rfl) rfl rfl dX1_waitingCount_1 ?_
  refine k_callV (rest := []) X kv_Jx4a65c_size_8abf5 kb_275 (c_Ls_size X.tr (hX.2 d hd).2.2.2.2.1) hl10 rfl rfl rfl rfl rfl (Nat.le_of_ble_eq_true rfl) ⟨by rw [hR]; exact Nat.le_of_ble_eq_true rfl, by rw [hR]; exact Nat.le_of_ble_eq_true rfl⟩ ⟨by rw [hR]; exact Nat.le_of_ble_eq_true rfl, by rw [hR]; exact Nat.le_of_ble_eq_true rfl⟩ dX1_waitingCount_4 (fun v4 C9 L9 h9 => ?_)
  obtain ⟨rfl, rfl, rfl⟩ := h9
  refine k_aload_n X dX1_waitingCount_7 rfl rfl ?_
  refine k_get0 X (hX.2 d hd).1 (q := (RX1, TX1, 9)) rfl inlX1 7 (by decide) kb_47 (Or.inl rfl) rfl rfl dX1_waitingCount_8 ?_
  refine k_isubN (h := hb4) X dX1_waitingCount_11 ?_
  exact k_iret X hE dX1_waitingCount_12 (by omega) (by omega) ⟨rfl, rfl, rfl⟩
