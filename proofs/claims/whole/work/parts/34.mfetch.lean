/-- a job is copied to a device -/
def mHold (M : kM2) (d j : Nat) : kM2 := w2 (w2 (w2 (w2 (w2 M 7 (40 * d + j) (nI 1)) 8 (2 * (40 * d + j)) (M 4 (2 * j))) 9 (2 * (40 * d + j)) (M 5 (2 * j))) 8 (2 * (40 * d + j) + 1) (M 4 (2 * j + 1))) 9 (2 * (40 * d + j) + 1) (M 5 (2 * j + 1))
theorem kdec {a : Nat} (h : 1 ≤ a) : nI a + Int32.ofInt (-1) = nI (a - 1) := by
  rw [← pk_sub h, Int32.sub_eq_add_neg]
  rfl
theorem kle0 {a : Nat} (h : a < 2 ^ 31) : nI a ≤ 0 ↔ a = 0 := by
  have e := nI_leI (a := a) (b := 0) h (by decide)
  rw [nI_0] at e
  rw [e]
  omega
theorem kneg0 : ∀ n, n < 601 → (-1) - nI n < 0 := by decide +kernel
theorem kneg1 {x : Int32} : (-1) - ((-1) - x) = x := by
  have h : (-1) - x + x = -1 := Int32.sub_add_cancel _ _
  have e : (-1) - ((-1) - x) = ((-1) - x + x) - ((-1) - x) := by rw [h]
  rw [e, Int32.add_comm, Int32.add_sub_cancel]

set_option maxHeartbeats 4000000 in
set_option maxRecDepth 100000 in
theorem m_hold {l : Launch} (htr : l.stackTraces = false) {E : kE} {A : Nat → Prop} {C : kC} {L : kL} {R : Int32} {M : kM2} {Q : kQ2} (h : isM E C L R M Q) {d j : Nat} (hd : d < 4) (hj : j < 40)  : kM l yX6_hold cX6_hold 5 none 0 0 0 0 E A C L [.ref (L (30, 0, 0)), .int (nI d), .int (nI j)] (fun v C' L' => v = none ∧ L = L' ∧ kFm C C' ∧ isM E C' L R (mHold M d j) Q) := by
  refine kM.of htr (by decide) (Nat.le_of_ble_eq_true rfl) (fun Γ hl hR hN hnm X hE => ?_)
  refine k_lo (lo' := [(0, .ref (L (30, 0, 0))), (1, .int (nI d)), (2, .int (nI j))]) ⟨rfl, rfl, rfl, trivial⟩ ?_
  refine k_bipush (v := (nI 40)) X dX6_hold_0 (by decide) ?_
  refine k_iload_n X dX6_hold_2 rfl rfl ?_
  refine k_imulN X dX6_hold_3 ?_
  refine k_iload_n X dX6_hold_4 rfl rfl ?_
  refine k_iaddN X dX6_hold_5 ?_
  refine k_istore_n X dX6_hold_6 rfl (by rw [hN]; decide) ?_
  refine k_aload_n X dX6_hold_7 rfl rfl ?_
  refine k_get0 X h.1 (q := (RX6, TX6, 25)) rfl inlX6 7 (by decide) kb_63 (Or.inl rfl) rfl rfl dX6_hold_8 ?_
  refine k_iload_n X dX6_hold_11 rfl rfl ?_
  refine k_iconst (v := (nI 1)) X dX6_hold_12 (by decide) ?_
  refine k_mstZ X h kFm.rf (i := (40 * d) + j) rfl kzn1 (by omega) dX6_hold_13 (fun C1 h1 f1 => ?_)
  refine k_iconst (v := (nI 0)) X dX6_hold_14 (by decide) ?_
  refine k_istore X dX6_hold_15 (by rw [hN]; decide) ?_
  refine k_iload X dX6_hold_17 rfl ?_
  refine k_iconst (v := (nI 2)) X dX6_hold_19 (by decide) ?_
  refine k_icmp_ge (tgt := 73) X dX6_hold_20 (by decide) (fun c20 => absurd c20 (show ¬ ((nI 2) ≤ (nI 0)) by decide)) (fun c20 => ?_)
  refine k_aload_n X dX6_hold_23 rfl rfl ?_
  refine k_get0 X h1.1 (q := (RX6, TX6, 25)) rfl inlX6 8 (by decide) kb_64 (Or.inl rfl) rfl rfl dX6_hold_24 ?_
  refine k_iconst (v := (nI 2)) X dX6_hold_27 (by decide) ?_
  refine k_iload_n X dX6_hold_28 rfl rfl ?_
  refine k_imulN X dX6_hold_29 ?_
  refine k_iload X dX6_hold_30 rfl ?_
  refine k_iaddN X dX6_hold_32 ?_
  refine k_aload_n X dX6_hold_33 rfl rfl ?_
  refine k_get0 X h1.1 (q := (RX6, TX6, 25)) rfl inlX6 4 (by decide) kb_60 (Or.inl rfl) rfl rfl dX6_hold_34 ?_
  refine k_iconst (v := (nI 2)) X dX6_hold_37 (by decide) ?_
  refine k_iload_n X dX6_hold_38 rfl rfl ?_
  refine k_imulN X dX6_hold_39 ?_
  refine k_iload X dX6_hold_40 rfl ?_
  refine k_iaddN X dX6_hold_42 ?_
  refine k_mld X h1 4 (i := (2 * j) + 0) rfl (by decide) (show (2 * j) + 0 < 80 by omega) dX6_hold_43 ?_
  refine k_rw (y := (M 4 ((2 * j) + 0))) (w2_a (by decide)) ?_
  refine k_mst X h1 f1 8 (i := (2 * ((40 * d) + j)) + 0) rfl (by decide) (show (2 * ((40 * d) + j)) + 0 < 320 by omega) dX6_hold_44 (fun C2 h2 f2 => ?_)
  refine k_aload_n X dX6_hold_45 rfl rfl ?_
  refine k_get0 X h2.1 (q := (RX6, TX6, 25)) rfl inlX6 9 (by decide) kb_65 (Or.inl rfl) rfl rfl dX6_hold_46 ?_
  refine k_iconst (v := (nI 2)) X dX6_hold_49 (by decide) ?_
  refine k_iload_n X dX6_hold_50 rfl rfl ?_
  refine k_imulN X dX6_hold_51 ?_
  refine k_iload X dX6_hold_52 rfl ?_
  refine k_iaddN X dX6_hold_54 ?_
  refine k_aload_n X dX6_hold_55 rfl rfl ?_
  refine k_get0 X h2.1 (q := (RX6, TX6, 25)) rfl inlX6 5 (by decide) kb_61 (Or.inl rfl) rfl rfl dX6_hold_56 ?_
  refine k_iconst (v := (nI 2)) X dX6_hold_59 (by decide) ?_
  refine k_iload_n X dX6_hold_60 rfl rfl ?_
  refine k_imulN X dX6_hold_61 ?_
  refine k_iload X dX6_hold_62 rfl ?_
  refine k_iaddN X dX6_hold_64 ?_
  refine k_mld X h2 5 (i := (2 * j) + 0) rfl (by decide) (show (2 * j) + 0 < 80 by omega) dX6_hold_65 ?_
  refine k_rw (y := (M 5 ((2 * j) + 0))) ((w2_a (by decide)).trans (w2_a (by decide))) ?_
  refine k_mst X h2 f2 9 (i := (2 * ((40 * d) + j)) + 0) rfl (by decide) (show (2 * ((40 * d) + j)) + 0 < 320 by omega) dX6_hold_66 (fun C3 h3 f3 => ?_)
  refine k_iinc (v := (nI (0 + 1))) X dX6_hold_67 rfl (by rw [show Int32.ofInt 1 = nI 1 from by decide, nI_add]) (by rw [hN]; decide) ?_
  refine k_goto (tgt := 17) X dX6_hold_70 (by decide) ?_
  refine k_iload X dX6_hold_17 rfl ?_
  refine k_iconst (v := (nI 2)) X dX6_hold_19 (by decide) ?_
  refine k_icmp_ge (tgt := 73) X dX6_hold_20 (by decide) (fun c20 => absurd c20 (show ¬ ((nI 2) ≤ (nI (0 + 1))) by decide)) (fun c20 => ?_)
  refine k_aload_n X dX6_hold_23 rfl rfl ?_
  refine k_get0 X h3.1 (q := (RX6, TX6, 25)) rfl inlX6 8 (by decide) kb_64 (Or.inl rfl) rfl rfl dX6_hold_24 ?_
  refine k_iconst (v := (nI 2)) X dX6_hold_27 (by decide) ?_
  refine k_iload_n X dX6_hold_28 rfl rfl ?_
  refine k_imulN X dX6_hold_29 ?_
  refine k_iload X dX6_hold_30 rfl ?_
  refine k_iaddN X dX6_hold_32 ?_
  refine k_aload_n X dX6_hold_33 rfl rfl ?_
  refine k_get0 X h3.1 (q := (RX6, TX6, 25)) rfl inlX6 4 (by decide) kb_60 (Or.inl rfl) rfl rfl dX6_hold_34 ?_
  refine k_iconst (v := (nI 2)) X dX6_hold_37 (by decide) ?_
  refine k_iload_n X dX6_hold_38 rfl rfl ?_
  refine k_imulN X dX6_hold_39 ?_
  refine k_iload X dX6_hold_40 rfl ?_
  refine k_iaddN X dX6_hold_42 ?_
  refine k_mld X h3 4 (i := (2 * j) + (0 + 1)) rfl (by decide) (show (2 * j) + (0 + 1) < 80 by omega) dX6_hold_43 ?_
  refine k_rw (y := (M 4 ((2 * j) + (0 + 1)))) ((w2_a (by decide)).trans ((w2_a (by decide)).trans (w2_a (by decide)))) ?_
  refine k_mst X h3 f3 8 (i := (2 * ((40 * d) + j)) + (0 + 1)) rfl (by decide) (show (2 * ((40 * d) + j)) + (0 + 1) < 320 by omega) dX6_hold_44 (fun C4 h4 f4 => ?_)
  refine k_aload_n X dX6_hold_45 rfl rfl ?_
  refine k_get0 X h4.1 (q := (RX6, TX6, 25)) rfl inlX6 9 (by decide) kb_65 (Or.inl rfl) rfl rfl dX6_hold_46 ?_
  refine k_iconst (v := (nI 2)) X dX6_hold_49 (by decide) ?_
  refine k_iload_n X dX6_hold_50 rfl rfl ?_
  refine k_imulN X dX6_hold_51 ?_
  refine k_iload X dX6_hold_52 rfl ?_
  refine k_iaddN X dX6_hold_54 ?_
  refine k_aload_n X dX6_hold_55 rfl rfl ?_
  refine k_get0 X h4.1 (q := (RX6, TX6, 25)) rfl inlX6 5 (by decide) kb_61 (Or.inl rfl) rfl rfl dX6_hold_56 ?_
  refine k_iconst (v := (nI 2)) X dX6_hold_59 (by decide) ?_
  refine k_iload_n X dX6_hold_60 rfl rfl ?_
  refine k_imulN X dX6_hold_61 ?_
  refine k_iload X dX6_hold_62 rfl ?_
  refine k_iaddN X dX6_hold_64 ?_
  refine k_mld X h4 5 (i := (2 * j) + (0 + 1)) rfl (by decide) (show (2 * j) + (0 + 1) < 80 by omega) dX6_hold_65 ?_
  refine k_rw (y := (M 5 ((2 * j) + (0 + 1)))) ((w2_a (by decide)).trans ((w2_a (by decide)).trans ((w2_a (by decide)).trans (w2_a (by decide))))) ?_
  refine k_mst X h4 f4 9 (i := (2 * ((40 * d) + j)) + (0 + 1)) rfl (by decide) (show (2 * ((40 * d) + j)) + (0 + 1) < 320 by omega) dX6_hold_66 (fun C5 h5 f5 => ?_)
  refine k_iinc (v := (nI (0 + 1 + 1))) X dX6_hold_67 rfl (by rw [show Int32.ofInt 1 = nI 1 from by decide, nI_add]) (by rw [hN]; decide) ?_
  refine k_goto (tgt := 17) X dX6_hold_70 (by decide) ?_
  refine k_iload X dX6_hold_17 rfl ?_
  refine k_iconst (v := (nI 2)) X dX6_hold_19 (by decide) ?_
  refine k_icmp_ge (tgt := 73) X dX6_hold_20 (by decide) (fun c20 => ?_) (fun c20 => absurd (show (nI 2) ≤ (nI (0 + 1 + 1)) by decide) c20)
  exact k_vret X hE dX6_hold_73 (by first | omega | exact Nat.le_of_ble_eq_true rfl | (dsimp only; omega)) (by first | omega | exact Nat.le_of_ble_eq_true rfl | (dsimp only; omega)) ⟨rfl, rfl, f5, h5⟩

def mClr (M : kM2) (d n : Nat) : kM2 := fun a i => if a = 7 ∧ 40 * d ≤ i ∧ i < 40 * d + n then nI 0 else M a i
theorem mClr_0 {M : kM2} {d : Nat} : mClr M d 0 = M := by
  funext a i
  exact if_neg (by omega)
theorem mClr_up {M : kM2} {d n : Nat} : w2 (mClr M d n) 7 (40 * d + n) (nI 0) = mClr M d (n + 1) := by
  funext a i
  unfold w2 mClr
  by_cases h : a = 7 ∧ i = 40 * d + n
  · rw [if_pos h, if_pos (by omega)]
  · rw [if_neg h]
    by_cases h2 : a = 7 ∧ 40 * d ≤ i ∧ i < 40 * d + n
    · rw [if_pos h2, if_pos (by omega)]
    · rw [if_neg h2, if_neg (by omega)]
def mCp (q : kM2 × Nat) (d : Nat) (z : Int32) (i : Nat) : kM2 × Nat := if 0 < q.2 ∧ q.1 2 i = nI d ∧ q.1 4 (2 * i) = z then (mHold q.1 d i, q.2 - 1) else q
def mCps (q : kM2 × Nat) (d : Nat) (z : Int32) : Nat → kM2 × Nat
  | 0 => q
  | i + 1 => mCp (mCps q d z i) d z i
theorem mCps_le {q : kM2 × Nat} {d : Nat} {z : Int32} : ∀ i, (mCps q d z i).2 ≤ q.2
  | 0 => Nat.le_refl _
  | i + 1 => by
    have ih := mCps_le (q := q) (d := d) (z := z) i
    show (mCp (mCps q d z i) d z i).2 ≤ q.2
    unfold mCp
    by_cases c : 0 < (mCps q d z i).2 ∧ (mCps q d z i).1 2 i = nI d ∧ (mCps q d z i).1 4 (2 * i) = z
    · rw [if_pos c]
      show (mCps q d z i).2 - 1 ≤ q.2
      omega
    · rw [if_neg c]
      exact ih
/-- what a fetch makes -/
def mFe (M : kM2) (d ro n : Nat) : kM2 × Nat := mCps (mCps (mCps (mClr M d 40, ro) d (nI 1) n) d (nI 0) n) d (nI 2) n

set_option maxHeartbeats 4000000 in
set_option maxRecDepth 100000 in
theorem m_fetch {l : Launch} (htr : l.stackTraces = false) {E : kE} {A : Nat → Prop} {C : kC} {L : kL} {R : Int32} {M : kM2} {Q : kQ2} (h : isM E C L R M Q) (hq : Q 1 0 ≤ 40) (ho : ∀ d, d < 4 → Q 10 d ≤ 512) (rm : Nat → Nat) (hrm : ∀ d, d < 4 → rm d ≤ 40) (hr : ∀ d, d < 4 → M 6 d = nI (rm d)) (dv : Int32) : kM l yX6_fetch cX6_fetch 6 (some .int) 3 63 0 0 E A C L [.ref (L (30, 0, 0)), .int dv] (fun v C' L' => ((∃ d, d < 4 ∧ dv = nI d ∧ v = some (.int (nI (kcn (mHd (mFe M d (rm d) (Q 1 0)).1 d) 40 + kcn (mUn (mFe M d (rm d) (Q 1 0)).1 d) (Q 10 d)))) ∧ isM E C' L (nI 0) (mFe M d (rm d) (Q 1 0)).1 Q) ∨ (¬ kix dv 4 ∧ v = some (.int (nI 0)) ∧ isM E C' L (nI 1) M Q)) ∧ L = L' ∧ kFm C C') := by
  refine kM.of htr (by decide) (Nat.le_of_ble_eq_true rfl) (fun Γ hl hR hN hnm X hE => ?_)
  refine k_lo (lo' := [(0, .ref (L (30, 0, 0))), (1, .int dv)]) ⟨rfl, rfl, trivial⟩ ?_
  refine k_aload_n X dX6_fetch_0 rfl rfl ?_
  refine k_iload_n X dX6_fetch_1 rfl rfl ?_
  refine k_callV (rest := []) X kv_X6_noDevice kb_390 (m_noDevice X.tr h dv) h.1 rfl rfl rfl rfl rfl (Nat.le_of_ble_eq_true rfl) ⟨by rw [hR]; exact Nat.le_of_ble_eq_true rfl, by rw [hR]; exact Nat.le_of_ble_eq_true rfl⟩ ⟨by rw [hR]; exact Nat.le_of_ble_eq_true rfl, by rw [hR]; exact Nat.le_of_ble_eq_true rfl⟩ dX6_fetch_2 (fun v2 C9 L9 h9 => ?_)
  obtain ⟨(⟨pd, rfl, h7⟩ | ⟨pd, rfl, h7⟩), rfl, g7⟩ := h9
  ·
    have f7 := kFm.tr kFm.rf g7
    obtain ⟨d, hd, rfl⟩ := pd.ex (by decide)
    refine k_if_eq (tgt := 10) X dX6_fetch_5 (by decide) (fun c5 => ?_) (fun c5 => absurd (show (nI 0) = 0 by decide) c5)
    refine k_aload_n X dX6_fetch_10 rfl rfl ?_
    refine k_get0 X h7.1 (q := (RX6, TX6, 25)) rfl inlX6 6 (by decide) kb_62 (Or.inl rfl) rfl rfl dX6_fetch_11 ?_
    refine k_iload_n X dX6_fetch_14 rfl rfl ?_
    refine k_mld X h7 6 (i := d) rfl (by decide) (show d < 4 by omega) dX6_fetch_15 ?_
    refine k_rw (y := nI (rm d)) (hr d hd) ?_
    refine k_istore_n X dX6_fetch_16 rfl (by rw [hN]; decide) ?_
    refine k_iconst (v := (nI 0)) X dX6_fetch_17 (by decide) ?_
    refine k_istore_n X dX6_fetch_18 rfl (by rw [hN]; decide) ?_
    have inner : ∀ (t : Nat) (z : Int32) (q0 : kM2 × Nat), q0.2 ≤ 40 → (∀ C9, isM E C9 L (nI 0) (mCps q0 d z (Q 1 0)).1 Q → kFm C C9 → kW Γ E A C9 L 0 0 127 [(0, .ref (L (30, 0, 0))), (1, .int (nI d)), (2, .int (nI ((mCps q0 d z (Q 1 0)).2))), (3, .int (nI t))] []) → ∀ (m i : Nat) (C8 : kC) (q8 : kM2 × Nat), i + m = Q 1 0 → mCps q0 d z i = q8 → isM E C8 L (nI 0) q8.1 Q → kFm C C8 → kW Γ E A C8 L 0 0 73 [(0, .ref (L (30, 0, 0))), (1, .int (nI d)), (2, .int (nI q8.2)), (3, .int (nI t)), (4, .int z), (5, .int (nI i))] [] := by
      intro t z q0 hq0 K m
      induction m with
      | zero =>
        intro i C8 q8 hi e8 h8 f8
        have hq8 : q8.2 ≤ 40 := by rw [← e8]; exact Nat.le_trans (mCps_le i) hq0
        refine k_iload X dX6_fetch_73 rfl ?_
        refine k_aload_n X dX6_fetch_75 rfl rfl ?_
        refine k_get0 X h8.1 (q := (RX6, TX6, 25)) rfl inlX6 1 (by decide) kb_176 (Or.inl rfl) rfl rfl dX6_fetch_76 ?_
        refine k_icmp_ge (tgt := 127) X dX6_fetch_79 (by decide) (fun c79 => ?_) (fun c79 => absurd (nI_le (Nat.le_of_eq (by omega)) (by omega)) c79)
        have ei : i = Q 1 0 := by omega
        rw [ei] at e8
        subst e8
        exact k_lo (lo' := [(0, .ref (L (30, 0, 0))), (1, .int (nI d)), (2, .int (nI ((mCps q0 d z (Q 1 0)).2))), (3, .int (nI t))]) ⟨rfl, rfl, rfl, rfl, trivial⟩ (K C8 h8 f8)
      | succ m ih =>
        intro i C8 q8 hi e8 h8 f8
        have hq8 : q8.2 ≤ 40 := by rw [← e8]; exact Nat.le_trans (mCps_le i) hq0
        refine k_iload X dX6_fetch_73 rfl ?_
        refine k_aload_n X dX6_fetch_75 rfl rfl ?_
        refine k_get0 X h8.1 (q := (RX6, TX6, 25)) rfl inlX6 1 (by decide) kb_176 (Or.inl rfl) rfl rfl dX6_fetch_76 ?_
        refine k_icmp_ge (tgt := 127) X dX6_fetch_79 (by decide) (fun c79 => absurd c79 (nI_ge (show i < Q 1 0 by omega) (by omega))) (fun c79 => ?_)
        refine k_iload_n X dX6_fetch_82 rfl rfl ?_
        refine k_if_le (tgt := 121) X dX6_fetch_83 (by decide) (fun c83 => ?_) (fun c83 => ?_)
        ·
          refine k_iinc (v := (nI (i + 1))) X dX6_fetch_121 rfl (by rw [show Int32.ofInt 1 = nI 1 from by decide, nI_add]) (by rw [hN]; decide) ?_
          refine k_goto (tgt := 73) X dX6_fetch_124 (by decide) ?_
          refine k_lo (lo' := [(0, .ref (L (30, 0, 0))), (1, .int (nI d)), (2, .int (nI q8.2)), (3, .int (nI t)), (4, .int z), (5, .int (nI (i + 1)))]) ⟨rfl, rfl, rfl, rfl, rfl, rfl, trivial⟩ ?_
          exact ih (i + 1) _ q8 (by omega) (by rw [show mCps q0 d z (i + 1) = mCp (mCps q0 d z i) d z i from rfl, e8]; exact if_neg (by first | exact fun z9 => absurd ((kle0 (by omega)).mp c83) (by omega) | exact fun z9 => c94 z9.2.1 | exact fun z9 => c108 z9.2.2)) h8 f8
        ·
          refine k_aload_n X dX6_fetch_86 rfl rfl ?_
          refine k_get0 X h8.1 (q := (RX6, TX6, 25)) rfl inlX6 2 (by decide) kb_58 (Or.inl rfl) rfl rfl dX6_fetch_87 ?_
          refine k_iload X dX6_fetch_90 rfl ?_
          refine k_mld X h8 2 (i := i) rfl (by decide) (show i < 40 by omega) dX6_fetch_92 ?_
          refine k_iload_n X dX6_fetch_93 rfl rfl ?_
          refine k_icmp_ne (tgt := 121) X dX6_fetch_94 (by decide) (fun c94 => ?_) (fun c94 => ?_)
          ·
            refine k_iinc (v := (nI (i + 1))) X dX6_fetch_121 rfl (by rw [show Int32.ofInt 1 = nI 1 from by decide, nI_add]) (by rw [hN]; decide) ?_
            refine k_goto (tgt := 73) X dX6_fetch_124 (by decide) ?_
            refine k_lo (lo' := [(0, .ref (L (30, 0, 0))), (1, .int (nI d)), (2, .int (nI q8.2)), (3, .int (nI t)), (4, .int z), (5, .int (nI (i + 1)))]) ⟨rfl, rfl, rfl, rfl, rfl, rfl, trivial⟩ ?_
            exact ih (i + 1) _ q8 (by omega) (by rw [show mCps q0 d z (i + 1) = mCp (mCps q0 d z i) d z i from rfl, e8]; exact if_neg (by first | exact fun z9 => absurd ((kle0 (by omega)).mp c83) (by omega) | exact fun z9 => c94 z9.2.1 | exact fun z9 => c108 z9.2.2)) h8 f8
          ·
            refine k_aload_n X dX6_fetch_97 rfl rfl ?_
            refine k_get0 X h8.1 (q := (RX6, TX6, 25)) rfl inlX6 4 (by decide) kb_60 (Or.inl rfl) rfl rfl dX6_fetch_98 ?_
            refine k_iconst (v := (nI 2)) X dX6_fetch_101 (by decide) ?_
            refine k_iload X dX6_fetch_102 rfl ?_
            refine k_imulN X dX6_fetch_104 ?_
            refine k_mld X h8 4 (i := 2 * i) rfl (by decide) (show 2 * i < 80 by omega) dX6_fetch_105 ?_
            refine k_iload X dX6_fetch_106 rfl ?_
            refine k_icmp_ne (tgt := 121) X dX6_fetch_108 (by decide) (fun c108 => ?_) (fun c108 => ?_)
            ·
              refine k_iinc (v := (nI (i + 1))) X dX6_fetch_121 rfl (by rw [show Int32.ofInt 1 = nI 1 from by decide, nI_add]) (by rw [hN]; decide) ?_
              refine k_goto (tgt := 73) X dX6_fetch_124 (by decide) ?_
              refine k_lo (lo' := [(0, .ref (L (30, 0, 0))), (1, .int (nI d)), (2, .int (nI q8.2)), (3, .int (nI t)), (4, .int z), (5, .int (nI (i + 1)))]) ⟨rfl, rfl, rfl, rfl, rfl, rfl, trivial⟩ ?_
              exact ih (i + 1) _ q8 (by omega) (by rw [show mCps q0 d z (i + 1) = mCp (mCps q0 d z i) d z i from rfl, e8]; exact if_neg (by first | exact fun z9 => absurd ((kle0 (by omega)).mp c83) (by omega) | exact fun z9 => c94 z9.2.1 | exact fun z9 => c108 z9.2.2)) h8 f8
            ·
              refine k_aload_n X dX6_fetch_111 rfl rfl ?_
              refine k_iload_n X dX6_fetch_112 rfl rfl ?_
              refine k_iload X dX6_fetch_113 rfl ?_
              have hl0 : 0 < q8.2 := Nat.pos_of_ne_zero fun e => c83 ((kle0 (by omega)).mpr e)
              refine k_callV (rest := []) X kv_X6_hold kb_394 (m_hold X.tr h8 hd (j := i) (by omega)) h8.1 rfl rfl rfl rfl rfl (Nat.le_of_ble_eq_true rfl) ⟨by rw [hR]; exact Nat.le_of_ble_eq_true rfl, by rw [hR]; exact Nat.le_of_ble_eq_true rfl⟩ ⟨by rw [hR]; exact Nat.le_of_ble_eq_true rfl, by rw [hR]; exact Nat.le_of_ble_eq_true rfl⟩ dX6_fetch_115 (fun v115 C9 L9 h9 => ?_)
              obtain ⟨rfl, rfl, g1, h1⟩ := h9
              have f1 := kFm.tr f8 g1
              refine k_iinc (v := nI (q8.2 - 1)) X dX6_fetch_118 rfl (kdec (by omega)) (by rw [hN]; decide) ?_
              refine k_iinc (v := (nI (i + 1))) X dX6_fetch_121 rfl (by rw [show Int32.ofInt 1 = nI 1 from by decide, nI_add]) (by rw [hN]; decide) ?_
              refine k_goto (tgt := 73) X dX6_fetch_124 (by decide) ?_
              refine k_lo (lo' := [(0, .ref (L (30, 0, 0))), (1, .int (nI d)), (2, .int (nI ((mHold q8.1 d i, q8.2 - 1).2))), (3, .int (nI t)), (4, .int z), (5, .int (nI (i + 1)))]) ⟨rfl, rfl, rfl, rfl, rfl, rfl, trivial⟩ ?_
              exact ih (i + 1) _ (mHold q8.1 d i, q8.2 - 1) (by omega) (by rw [show mCps q0 d z (i + 1) = mCp (mCps q0 d z i) d z i from rfl, e8]; exact if_pos ⟨hl0, c94, c108⟩) h1 f1
    have turns : ∀ (C8 : kC), isM E C8 L (nI 0) (mClr M d 40) Q → kFm C C8 → kW Γ E A C8 L 0 0 45 [(0, .ref (L (30, 0, 0))), (1, .int (nI d)), (2, .int (nI (rm d))), (3, .int (nI 0))] [] := by
      intro C8 h8 f8
      refine k_iload_n X dX6_fetch_45 rfl rfl ?_
      refine k_iconst (v := (nI 3)) X dX6_fetch_46 (by decide) ?_
      refine k_icmp_ge (tgt := 133) X dX6_fetch_47 (by decide) (fun c47 => absurd c47 (show ¬ ((nI 3) ≤ (nI 0)) by decide)) (fun c47 => ?_)
      refine k_iload_n X dX6_fetch_50 rfl rfl ?_
      refine k_if_ne (tgt := 58) X dX6_fetch_51 (by decide) (fun c51 => absurd c51 (show ¬ (¬ (nI 0) = 0) by decide)) (fun c51 => ?_)
      refine k_iconst (v := (nI 1)) X dX6_fetch_54 (by decide) ?_
      refine k_goto (tgt := 68) X dX6_fetch_55 (by decide) ?_
      refine k_istore X dX6_fetch_68 (by rw [hN]; decide) ?_
      refine k_iconst (v := (nI 0)) X dX6_fetch_70 (by decide) ?_
      refine k_istore X dX6_fetch_71 (by rw [hN]; decide) ?_
      refine k_lo (lo' := [(0, .ref (L (30, 0, 0))), (1, .int (nI d)), (2, .int (nI ((mClr M d 40, rm d).2))), (3, .int (nI 0)), (4, .int (nI 1)), (5, .int (nI 0))]) ⟨rfl, rfl, rfl, rfl, rfl, rfl, trivial⟩ ?_
      refine inner 0 (nI 1) (mClr M d 40, rm d) (hrm d hd) (fun C3 h3 f3 => ?_) (Q 1 0) 0 _ (mClr M d 40, rm d) (by omega) rfl h8 f8
      refine k_iinc (v := (nI (0 + 1))) X dX6_fetch_127 rfl (by rw [show Int32.ofInt 1 = nI 1 from by decide, nI_add]) (by rw [hN]; decide) ?_
      refine k_goto (tgt := 45) X dX6_fetch_130 (by decide) ?_
      refine k_iload_n X dX6_fetch_45 rfl rfl ?_
      refine k_iconst (v := (nI 3)) X dX6_fetch_46 (by decide) ?_
      refine k_icmp_ge (tgt := 133) X dX6_fetch_47 (by decide) (fun c47 => absurd c47 (show ¬ ((nI 3) ≤ (nI (0 + 1))) by decide)) (fun c47 => ?_)
      refine k_iload_n X dX6_fetch_50 rfl rfl ?_
      refine k_if_ne (tgt := 58) X dX6_fetch_51 (by decide) (fun c51 => ?_) (fun c51 => absurd c51 (show ¬ (nI (0 + 1)) = 0 by decide))
      refine k_iload_n X dX6_fetch_58 rfl rfl ?_
      refine k_iconst (v := (nI 1)) X dX6_fetch_59 (by decide) ?_
      refine k_icmp_ne (tgt := 67) X dX6_fetch_60 (by decide) (fun c60 => absurd c60 (show ¬ (¬ (nI (0 + 1)) = (nI 1)) by decide)) (fun c60 => ?_)
      refine k_iconst (v := (nI 0)) X dX6_fetch_63 (by decide) ?_
      refine k_goto (tgt := 68) X dX6_fetch_64 (by decide) ?_
      refine k_istore X dX6_fetch_68 (by rw [hN]; decide) ?_
      refine k_iconst (v := (nI 0)) X dX6_fetch_70 (by decide) ?_
      refine k_istore X dX6_fetch_71 (by rw [hN]; decide) ?_
      refine k_lo (lo' := [(0, .ref (L (30, 0, 0))), (1, .int (nI d)), (2, .int (nI ((mCps (mClr M d 40, rm d) d (nI 1) (Q 1 0)).2))), (3, .int (nI (0 + 1))), (4, .int (nI 0)), (5, .int (nI 0))]) ⟨rfl, rfl, rfl, rfl, rfl, rfl, trivial⟩ ?_
      refine inner (0 + 1) (nI 0) (mCps (mClr M d 40, rm d) d (nI 1) (Q 1 0)) (Nat.le_trans (mCps_le _) (hrm d hd)) (fun C4 h4 f4 => ?_) (Q 1 0) 0 _ (mCps (mClr M d 40, rm d) d (nI 1) (Q 1 0)) (by omega) rfl h3 f3
      refine k_iinc (v := (nI (0 + 1 + 1))) X dX6_fetch_127 rfl (by rw [show Int32.ofInt 1 = nI 1 from by decide, nI_add]) (by rw [hN]; decide) ?_
      refine k_goto (tgt := 45) X dX6_fetch_130 (by decide) ?_
      refine k_iload_n X dX6_fetch_45 rfl rfl ?_
      refine k_iconst (v := (nI 3)) X dX6_fetch_46 (by decide) ?_
      refine k_icmp_ge (tgt := 133) X dX6_fetch_47 (by decide) (fun c47 => absurd c47 (show ¬ ((nI 3) ≤ (nI (0 + 1 + 1))) by decide)) (fun c47 => ?_)
      refine k_iload_n X dX6_fetch_50 rfl rfl ?_
      refine k_if_ne (tgt := 58) X dX6_fetch_51 (by decide) (fun c51 => ?_) (fun c51 => absurd c51 (show ¬ (nI (0 + 1 + 1)) = 0 by decide))
      refine k_iload_n X dX6_fetch_58 rfl rfl ?_
      refine k_iconst (v := (nI 1)) X dX6_fetch_59 (by decide) ?_
      refine k_icmp_ne (tgt := 67) X dX6_fetch_60 (by decide) (fun c60 => ?_) (fun c60 => absurd c60 (show ¬ (nI (0 + 1 + 1)) = (nI 1) by decide))
      refine k_iconst (v := (nI 2)) X dX6_fetch_67 (by decide) ?_
      refine k_istore X dX6_fetch_68 (by rw [hN]; decide) ?_
      refine k_iconst (v := (nI 0)) X dX6_fetch_70 (by decide) ?_
      refine k_istore X dX6_fetch_71 (by rw [hN]; decide) ?_
      refine k_lo (lo' := [(0, .ref (L (30, 0, 0))), (1, .int (nI d)), (2, .int (nI ((mCps (mCps (mClr M d 40, rm d) d (nI 1) (Q 1 0)) d (nI 0) (Q 1 0)).2))), (3, .int (nI (0 + 1 + 1))), (4, .int (nI 2)), (5, .int (nI 0))]) ⟨rfl, rfl, rfl, rfl, rfl, rfl, trivial⟩ ?_
      refine inner (0 + 1 + 1) (nI 2) (mCps (mCps (mClr M d 40, rm d) d (nI 1) (Q 1 0)) d (nI 0) (Q 1 0)) (Nat.le_trans (mCps_le _) (Nat.le_trans (mCps_le _) (hrm d hd))) (fun C5 h5 f5 => ?_) (Q 1 0) 0 _ (mCps (mCps (mClr M d 40, rm d) d (nI 1) (Q 1 0)) d (nI 0) (Q 1 0)) (by omega) rfl h4 f4
      refine k_iinc (v := (nI (0 + 1 + 1 + 1))) X dX6_fetch_127 rfl (by rw [show Int32.ofInt 1 = nI 1 from by decide, nI_add]) (by rw [hN]; decide) ?_
      refine k_goto (tgt := 45) X dX6_fetch_130 (by decide) ?_
      refine k_iload_n X dX6_fetch_45 rfl rfl ?_
      refine k_iconst (v := (nI 3)) X dX6_fetch_46 (by decide) ?_
      refine k_icmp_ge (tgt := 133) X dX6_fetch_47 (by decide) (fun c47 => ?_) (fun c47 => absurd (show (nI 3) ≤ (nI (0 + 1 + 1 + 1)) by decide) c47)
      refine k_aload_n X dX6_fetch_133 rfl rfl ?_
      refine k_iload_n X dX6_fetch_134 rfl rfl ?_
      refine k_callV (rest := []) X kv_X6_countHeld kb_398 (m_countHeld X.tr h5 hd (ho d hd)) h5.1 rfl rfl rfl rfl rfl (Nat.le_of_ble_eq_true rfl) ⟨by rw [hR]; exact Nat.le_of_ble_eq_true rfl, by rw [hR]; exact Nat.le_of_ble_eq_true rfl⟩ ⟨by rw [hR]; exact Nat.le_of_ble_eq_true rfl, by rw [hR]; exact Nat.le_of_ble_eq_true rfl⟩ dX6_fetch_135 (fun v135 C9 L9 h9 => ?_)
      obtain ⟨rfl, rfl, rfl⟩ := h9
      exact k_iret X hE dX6_fetch_138 (by first | omega | exact Nat.le_of_ble_eq_true rfl | (dsimp only; omega)) (by first | omega | exact Nat.le_of_ble_eq_true rfl | (dsimp only; omega)) ⟨Or.inl (⟨d, hd, rfl, rfl, h5⟩), rfl, f5⟩
    have clr : ∀ (m n : Nat) (C8 : kC), n + m = 40 → isM E C8 L (nI 0) (mClr M d n) Q → kFm C C8 → kW Γ E A C8 L 0 0 19 [(0, .ref (L (30, 0, 0))), (1, .int (nI d)), (2, .int (nI (rm d))), (3, .int (nI n))] [] := by
      intro m
      induction m with
      | zero =>
        intro n C8 hn h8 f8
        have e40 : n = 40 := by omega
        subst e40
        refine k_iload_n X dX6_fetch_19 rfl rfl ?_
        refine k_bipush (v := (nI 40)) X dX6_fetch_20 (by decide) ?_
        refine k_icmp_ge (tgt := 43) X dX6_fetch_22 (by decide) (fun c22 => ?_) (fun c22 => absurd (nI_le (Nat.le_refl 40) (by decide)) c22)
        refine k_iconst (v := (nI 0)) X dX6_fetch_43 (by decide) ?_
        refine k_istore_n X dX6_fetch_44 rfl (by rw [hN]; decide) ?_
        exact k_lo (lo' := [(0, .ref (L (30, 0, 0))), (1, .int (nI d)), (2, .int (nI (rm d))), (3, .int (nI 0))]) ⟨rfl, rfl, rfl, rfl, trivial⟩ (turns _ h8 f8)
      | succ m ih =>
        intro n C8 hn h8 f8
        refine k_iload_n X dX6_fetch_19 rfl rfl ?_
        refine k_bipush (v := (nI 40)) X dX6_fetch_20 (by decide) ?_
        refine k_icmp_ge (tgt := 43) X dX6_fetch_22 (by decide) (fun c22 => absurd c22 (nI_ge (show n < 40 by omega) (by decide))) (fun c22 => ?_)
        refine k_aload_n X dX6_fetch_25 rfl rfl ?_
        refine k_get0 X h8.1 (q := (RX6, TX6, 25)) rfl inlX6 7 (by decide) kb_63 (Or.inl rfl) rfl rfl dX6_fetch_26 ?_
        refine k_bipush (v := (nI 40)) X dX6_fetch_29 (by decide) ?_
        refine k_iload_n X dX6_fetch_31 rfl rfl ?_
        refine k_imulN X dX6_fetch_32 ?_
        refine k_iload_n X dX6_fetch_33 rfl rfl ?_
        refine k_iaddN X dX6_fetch_34 ?_
        refine k_iconst (v := (nI 0)) X dX6_fetch_35 (by decide) ?_
        refine k_mstZ X h8 f8 (i := (40 * d) + n) rfl kzn0 (by omega) dX6_fetch_36 (fun C2 h2 f2 => ?_)
        refine k_iinc (v := (nI (n + 1))) X dX6_fetch_37 rfl (by rw [show Int32.ofInt 1 = nI 1 from by decide, nI_add]) (by rw [hN]; decide) ?_
        refine k_goto (tgt := 19) X dX6_fetch_40 (by decide) ?_
        rw [mClr_up] at h2
        exact k_lo (lo' := [(0, .ref (L (30, 0, 0))), (1, .int (nI d)), (2, .int (nI (rm d))), (3, .int (nI (n + 1)))]) ⟨rfl, rfl, rfl, rfl, trivial⟩ (ih (n + 1) _ (by omega) h2 f2)
    exact k_lo (lo' := [(0, .ref (L (30, 0, 0))), (1, .int (nI d)), (2, .int (nI (rm d))), (3, .int (nI 0))]) ⟨rfl, rfl, rfl, rfl, trivial⟩ (clr 40 0 _ (by omega) (by rw [mClr_0]; exact h7) f7)
  ·
    have f7 := kFm.tr kFm.rf g7
    refine k_if_eq (tgt := 10) X dX6_fetch_5 (by decide) (fun c5 => absurd c5 (show ¬ ((nI 1) = 0) by decide)) (fun c5 => ?_)
    refine k_iconst (v := (nI 0)) X dX6_fetch_8 (by decide) ?_
    exact k_iret X hE dX6_fetch_9 (by first | omega | exact Nat.le_of_ble_eq_true rfl | (dsimp only; omega)) (by first | omega | exact Nat.le_of_ble_eq_true rfl | (dsimp only; omega)) ⟨Or.inr (⟨pd, rfl, h7⟩), rfl, f7⟩

/-- why a change is refused; -1 if it isn't -/
def mAg (M : kM2) (Q : kQ2) (d g f0 : Nat) (r : Int32) : Prop := ∃ x, mNm M Q d (M 16 g) x ∧ ((¬ kix x (Q 1 0) ∧ r = nI 3) ∨ ∃ i, i < Q 1 0 ∧ x = nI i ∧ ((¬ M 2 i = nI d ∧ r = nI 0) ∨ (M 2 i = nI d ∧ ¬ M 5 (2 * i + f0) = M 19 g ∧ r = nI 1) ∨ (M 2 i = nI d ∧ M 5 (2 * i + f0) = M 19 g ∧ ¬ (nI f0 = nI 1 ∨ M 4 (2 * i + f0) + nI 1 = M 18 g) ∧ r = nI 2) ∨ (M 2 i = nI d ∧ M 5 (2 * i + f0) = M 19 g ∧ (nI f0 = nI 1 ∨ M 4 (2 * i + f0) + nI 1 = M 18 g) ∧ r = -1)))

set_option maxHeartbeats 4000000 in
set_option maxRecDepth 100000 in
theorem m_against {l : Launch} (htr : l.stackTraces = false) {E : kE} {A : Nat → Prop} {C : kC} {L : kL} {R : Int32} {M : kM2} {Q : kQ2} (h : isM E C L R M Q) (hq : Q 1 0 ≤ 40) {d g : Nat} (hd : d < 4) (ho : Q 10 d ≤ 512) (hg : g < 600) (h15 : M 15 g = nI d) {f0 : Nat} (hf0 : f0 ≤ 1) (h17 : M 17 g = nI f0) : kM l yX6_against cX6_against 6 (some .int) 3 67 0 0 E A C L [.ref (L (30, 0, 0)), .int (nI g)] (fun v C' L' => (∃ r, v = some (.int r) ∧ mAg M Q d g f0 r) ∧ L = L' ∧ C = C') := by
  refine kM.of htr (by decide) (Nat.le_of_ble_eq_true rfl) (fun Γ hl hR hN hnm X hE => ?_)
  refine k_lo (lo' := [(0, .ref (L (30, 0, 0))), (1, .int (nI g))]) ⟨rfl, rfl, trivial⟩ ?_
  refine k_aload_n X dX6_against_0 rfl rfl ?_
  refine k_get0 X h.1 (q := (RX6, TX6, 25)) rfl inlX6 15 (by decide) kb_70 (Or.inl rfl) rfl rfl dX6_against_1 ?_
  refine k_iload_n X dX6_against_4 rfl rfl ?_
  refine k_mld X h 15 (i := g) rfl (by decide) (show g < 600 by omega) dX6_against_5 ?_
  refine k_rw (y := nI d) h15 ?_
  refine k_istore_n X dX6_against_6 rfl (by rw [hN]; decide) ?_
  refine k_aload_n X dX6_against_7 rfl rfl ?_
  refine k_iload_n X dX6_against_8 rfl rfl ?_
  refine k_aload_n X dX6_against_9 rfl rfl ?_
  refine k_get0 X h.1 (q := (RX6, TX6, 25)) rfl inlX6 16 (by decide) kb_71 (Or.inl rfl) rfl rfl dX6_against_10 ?_
  refine k_iload_n X dX6_against_13 rfl rfl ?_
  refine k_mld X h 16 (i := g) rfl (by decide) (show g < 600 by omega) dX6_against_14 ?_
  refine k_callV (rest := []) X kv_X6_named kb_441 (m_named X.tr h hd ho (M 16 g)) h.1 rfl rfl rfl rfl rfl (Nat.le_of_ble_eq_true rfl) ⟨by rw [hR]; exact Nat.le_of_ble_eq_true rfl, by rw [hR]; exact Nat.le_of_ble_eq_true rfl⟩ ⟨by rw [hR]; exact Nat.le_of_ble_eq_true rfl, by rw [hR]; exact Nat.le_of_ble_eq_true rfl⟩ dX6_against_15 (fun v15 C9 L9 h9 => ?_)
  obtain ⟨⟨x, rfl, hx⟩, rfl, rfl⟩ := h9
  refine k_istore_n X dX6_against_18 rfl (by rw [hN]; decide) ?_
  refine k_aload_n X dX6_against_19 rfl rfl ?_
  refine k_iload_n X dX6_against_20 rfl rfl ?_
  refine k_callV (rest := []) X kv_X6_isJob kb_232 (m_isJob X.tr h hq x) h.1 rfl rfl rfl rfl rfl (Nat.le_of_ble_eq_true rfl) ⟨by rw [hR]; exact Nat.le_of_ble_eq_true rfl, by rw [hR]; exact Nat.le_of_ble_eq_true rfl⟩ ⟨by rw [hR]; exact Nat.le_of_ble_eq_true rfl, by rw [hR]; exact Nat.le_of_ble_eq_true rfl⟩ dX6_against_21 (fun v21 C9 L9 h9 => ?_)
  obtain ⟨(⟨pj, rfl⟩ | ⟨pj, rfl⟩), rfl, rfl⟩ := h9
  ·
    obtain ⟨i, hi, rfl⟩ := pj.ex (by omega)
    refine k_if_ne (tgt := 29) X dX6_against_24 (by decide) (fun c24 => ?_) (fun c24 => absurd c24 (show ¬ (nI 1) = 0 by decide))
    refine k_iconst (v := (nI 2)) X dX6_against_29 (by decide) ?_
    refine k_iload_n X dX6_against_30 rfl rfl ?_
    refine k_imulN X dX6_against_31 ?_
    refine k_aload_n X dX6_against_32 rfl rfl ?_
    refine k_get0 X h.1 (q := (RX6, TX6, 25)) rfl inlX6 17 (by decide) kb_72 (Or.inl rfl) rfl rfl dX6_against_33 ?_
    refine k_iload_n X dX6_against_36 rfl rfl ?_
    refine k_mld X h 17 (i := g) rfl (by decide) (show g < 600 by omega) dX6_against_37 ?_
    refine k_rw (y := nI f0) h17 ?_
    refine k_iaddN X dX6_against_38 ?_
    refine k_istore X dX6_against_39 (by rw [hN]; decide) ?_
    refine k_aload_n X dX6_against_41 rfl rfl ?_
    refine k_get0 X h.1 (q := (RX6, TX6, 25)) rfl inlX6 2 (by decide) kb_58 (Or.inl rfl) rfl rfl dX6_against_42 ?_
    refine k_iload_n X dX6_against_45 rfl rfl ?_
    refine k_mld X h 2 (i := i) rfl (by decide) (show i < 40 by omega) dX6_against_46 ?_
    refine k_iload_n X dX6_against_47 rfl rfl ?_
    refine k_icmp_eq (tgt := 53) X dX6_against_48 (by decide) (fun c48 => ?_) (fun c48 => ?_)
    ·
      refine k_aload_n X dX6_against_53 rfl rfl ?_
      refine k_get0 X h.1 (q := (RX6, TX6, 25)) rfl inlX6 5 (by decide) kb_61 (Or.inl rfl) rfl rfl dX6_against_54 ?_
      refine k_iload X dX6_against_57 rfl ?_
      refine k_mld X h 5 (i := (2 * i) + f0) rfl (by decide) (show (2 * i) + f0 < 80 by omega) dX6_against_59 ?_
      refine k_aload_n X dX6_against_60 rfl rfl ?_
      refine k_get0 X h.1 (q := (RX6, TX6, 25)) rfl inlX6 19 (by decide) kb_74 (Or.inl rfl) rfl rfl dX6_against_61 ?_
      refine k_iload_n X dX6_against_64 rfl rfl ?_
      refine k_mld X h 19 (i := g) rfl (by decide) (show g < 600 by omega) dX6_against_65 ?_
      refine k_icmp_eq (tgt := 71) X dX6_against_66 (by decide) (fun c66 => ?_) (fun c66 => ?_)
      ·
        refine k_aload_n X dX6_against_71 rfl rfl ?_
        refine k_get0 X h.1 (q := (RX6, TX6, 25)) rfl inlX6 17 (by decide) kb_72 (Or.inl rfl) rfl rfl dX6_against_72 ?_
        refine k_iload_n X dX6_against_75 rfl rfl ?_
        refine k_mld X h 17 (i := g) rfl (by decide) (show g < 600 by omega) dX6_against_76 ?_
        refine k_rw (y := nI f0) h17 ?_
        refine k_iconst (v := (nI 1)) X dX6_against_77 (by decide) ?_
        refine k_icmp_eq (tgt := 99) X dX6_against_78 (by decide) (fun c78 => ?_) (fun c78 => ?_)
        ·
          refine k_iconst (v := (nI 1)) X dX6_against_99 (by decide) ?_
          refine k_goto (tgt := 104) X dX6_against_100 (by decide) ?_
          refine k_istore X dX6_against_104 (by rw [hN]; decide) ?_
          refine k_iload X dX6_against_106 rfl ?_
          refine k_if_eq (tgt := 115) X dX6_against_108 (by decide) (fun c108 => absurd c108 (show ¬ ((nI 1) = 0) by decide)) (fun c108 => ?_)
          refine k_iconst (v := (-1)) X dX6_against_111 (by decide) ?_
          refine k_goto (tgt := 116) X dX6_against_112 (by decide) ?_
          exact k_iret X hE dX6_against_116 (by first | omega | exact Nat.le_of_ble_eq_true rfl | (dsimp only; omega)) (by first | omega | exact Nat.le_of_ble_eq_true rfl | (dsimp only; omega)) ⟨⟨_, rfl, _, hx, Or.inr ⟨i, hi, rfl, Or.inr (Or.inr (Or.inr ⟨c48, c66, by first | exact Or.inl c78 | exact Or.inr c96, rfl⟩))⟩⟩, rfl, rfl⟩
        ·
          refine k_aload_n X dX6_against_81 rfl rfl ?_
          refine k_get0 X h.1 (q := (RX6, TX6, 25)) rfl inlX6 4 (by decide) kb_60 (Or.inl rfl) rfl rfl dX6_against_82 ?_
          refine k_iload X dX6_against_85 rfl ?_
          refine k_mld X h 4 (i := (2 * i) + f0) rfl (by decide) (show (2 * i) + f0 < 80 by omega) dX6_against_87 ?_
          refine k_iconst (v := (nI 1)) X dX6_against_88 (by decide) ?_
          refine k_iadd X dX6_against_89 ?_
          refine k_aload_n X dX6_against_90 rfl rfl ?_
          refine k_get0 X h.1 (q := (RX6, TX6, 25)) rfl inlX6 18 (by decide) kb_73 (Or.inl rfl) rfl rfl dX6_against_91 ?_
          refine k_iload_n X dX6_against_94 rfl rfl ?_
          refine k_mld X h 18 (i := g) rfl (by decide) (show g < 600 by omega) dX6_against_95 ?_
          refine k_icmp_ne (tgt := 103) X dX6_against_96 (by decide) (fun c96 => ?_) (fun c96 => ?_)
          ·
            refine k_iconst (v := (nI 0)) X dX6_against_103 (by decide) ?_
            refine k_istore X dX6_against_104 (by rw [hN]; decide) ?_
            refine k_iload X dX6_against_106 rfl ?_
            refine k_if_eq (tgt := 115) X dX6_against_108 (by decide) (fun c108 => ?_) (fun c108 => absurd (show (nI 0) = 0 by decide) c108)
            refine k_iconst (v := (nI 2)) X dX6_against_115 (by decide) ?_
            exact k_iret X hE dX6_against_116 (by first | omega | exact Nat.le_of_ble_eq_true rfl | (dsimp only; omega)) (by first | omega | exact Nat.le_of_ble_eq_true rfl | (dsimp only; omega)) ⟨⟨_, rfl, _, hx, Or.inr ⟨i, hi, rfl, Or.inr (Or.inr (Or.inl ⟨c48, c66, fun z => z.elim c78 c96, rfl⟩))⟩⟩, rfl, rfl⟩
          ·
            refine k_iconst (v := (nI 1)) X dX6_against_99 (by decide) ?_
            refine k_goto (tgt := 104) X dX6_against_100 (by decide) ?_
            refine k_istore X dX6_against_104 (by rw [hN]; decide) ?_
            refine k_iload X dX6_against_106 rfl ?_
            refine k_if_eq (tgt := 115) X dX6_against_108 (by decide) (fun c108 => absurd c108 (show ¬ ((nI 1) = 0) by decide)) (fun c108 => ?_)
            refine k_iconst (v := (-1)) X dX6_against_111 (by decide) ?_
            refine k_goto (tgt := 116) X dX6_against_112 (by decide) ?_
            exact k_iret X hE dX6_against_116 (by first | omega | exact Nat.le_of_ble_eq_true rfl | (dsimp only; omega)) (by first | omega | exact Nat.le_of_ble_eq_true rfl | (dsimp only; omega)) ⟨⟨_, rfl, _, hx, Or.inr ⟨i, hi, rfl, Or.inr (Or.inr (Or.inr ⟨c48, c66, by first | exact Or.inl c78 | exact Or.inr c96, rfl⟩))⟩⟩, rfl, rfl⟩
      ·
        refine k_iconst (v := (nI 1)) X dX6_against_69 (by decide) ?_
        exact k_iret X hE dX6_against_70 (by first | omega | exact Nat.le_of_ble_eq_true rfl | (dsimp only; omega)) (by first | omega | exact Nat.le_of_ble_eq_true rfl | (dsimp only; omega)) ⟨⟨_, rfl, _, hx, Or.inr ⟨i, hi, rfl, Or.inr (Or.inl ⟨c48, c66, rfl⟩)⟩⟩, rfl, rfl⟩
    ·
      refine k_iconst (v := (nI 0)) X dX6_against_51 (by decide) ?_
      exact k_iret X hE dX6_against_52 (by first | omega | exact Nat.le_of_ble_eq_true rfl | (dsimp only; omega)) (by first | omega | exact Nat.le_of_ble_eq_true rfl | (dsimp only; omega)) ⟨⟨_, rfl, _, hx, Or.inr ⟨i, hi, rfl, Or.inl ⟨c48, rfl⟩⟩⟩, rfl, rfl⟩
  ·
    refine k_if_ne (tgt := 29) X dX6_against_24 (by decide) (fun c24 => absurd c24 (show ¬ (¬ (nI 0) = 0) by decide)) (fun c24 => ?_)
    refine k_iconst (v := (nI 3)) X dX6_against_27 (by decide) ?_
    exact k_iret X hE dX6_against_28 (by first | omega | exact Nat.le_of_ble_eq_true rfl | (dsimp only; omega)) (by first | omega | exact Nat.le_of_ble_eq_true rfl | (dsimp only; omega)) ⟨⟨_, rfl, _, hx, Or.inl ⟨pj, rfl⟩⟩, rfl, rfl⟩

/-- a made job gets its number -/
def mAdopt (M : kM2) (Q : kQ2) (d g k : Nat) : kM2 := (w2 (w2 (w2 (w2 (w2 (w2 (w2 (w2 M 2 (Q 1 0) (nI d)) 3 (Q 1 0) (M 18 g)) 11 (600 * d + k) (nI (Q 1 0))) 7 (40 * d + Q 1 0) (nI 1)) 8 (2 * (40 * d + Q 1 0)) (M 12 (2 * (600 * d + k)))) 9 (2 * (40 * d + Q 1 0)) (M 13 (2 * (600 * d + k)))) 8 (2 * (40 * d + Q 1 0) + 1) (M 12 (2 * (600 * d + k) + 1))) 9 (2 * (40 * d + Q 1 0) + 1) (M 13 (2 * (600 * d + k) + 1)))

set_option maxHeartbeats 4000000 in
set_option maxRecDepth 100000 in
theorem m_adopt {l : Launch} (htr : l.stackTraces = false) {E : kE} {A : Nat → Prop} {C : kC} {L : kL} {R : Int32} {M : kM2} {Q : kQ2} (h : isM E C L R M Q) (hq1 : Q 1 0 < 40) {d g : Nat} (hd : d < 4) (ho : Q 10 d ≤ 512) (hg : g < 600) (h15 : M 15 g = nI d) {k : Nat} (hk : k < Q 10 d) (h16 : M 16 g = nI (1000 + k))  : kM l yX6_adopt cX6_adopt 7 none 2 44 0 0 E A C L [.ref (L (30, 0, 0)), .int (nI g)] (fun v C' L' => v = none ∧ L = L' ∧ kFm C C' ∧ isM E C' L R (mAdopt M Q d g k) (w2 Q 1 0 (Q 1 0 + 1))) := by
  refine kM.of htr (by decide) (Nat.le_of_ble_eq_true rfl) (fun Γ hl hR hN hnm X hE => ?_)
  refine k_lo (lo' := [(0, .ref (L (30, 0, 0))), (1, .int (nI g))]) ⟨rfl, rfl, trivial⟩ ?_
  refine k_aload_n X dX6_adopt_0 rfl rfl ?_
  refine k_get0 X h.1 (q := (RX6, TX6, 25)) rfl inlX6 15 (by decide) kb_70 (Or.inl rfl) rfl rfl dX6_adopt_1 ?_
  refine k_iload_n X dX6_adopt_4 rfl rfl ?_
  refine k_mld X h 15 (i := g) rfl (by decide) (show g < 600 by omega) dX6_adopt_5 ?_
  refine k_rw (y := nI d) h15 ?_
  refine k_istore_n X dX6_adopt_6 rfl (by rw [hN]; decide) ?_
  refine k_aload_n X dX6_adopt_7 rfl rfl ?_
  refine k_iload_n X dX6_adopt_8 rfl rfl ?_
  refine k_aload_n X dX6_adopt_9 rfl rfl ?_
  refine k_get0 X h.1 (q := (RX6, TX6, 25)) rfl inlX6 16 (by decide) kb_71 (Or.inl rfl) rfl rfl dX6_adopt_10 ?_
  refine k_iload_n X dX6_adopt_13 rfl rfl ?_
  refine k_mld X h 16 (i := g) rfl (by decide) (show g < 600 by omega) dX6_adopt_14 ?_
  refine k_rw (y := nI (1000 + k)) h16 ?_
  refine k_callV (rest := []) X kv_X6_ownPlace kb_445 (m_ownPlace X.tr h hd ho (nI (1000 + k))) h.1 rfl rfl rfl rfl rfl (Nat.le_of_ble_eq_true rfl) ⟨by rw [hR]; exact Nat.le_of_ble_eq_true rfl, by rw [hR]; exact Nat.le_of_ble_eq_true rfl⟩ ⟨by rw [hR]; exact Nat.le_of_ble_eq_true rfl, by rw [hR]; exact Nat.le_of_ble_eq_true rfl⟩ dX6_adopt_15 (fun v15 C9 L9 h9 => ?_)
  obtain ⟨⟨_, rfl, h9⟩, rfl, rfl⟩ := h9
  obtain ⟨k2, hk2, hx2, rfl⟩ := h9.resolve_right (fun z => z.1 k hk rfl)
  have ek := kown_inj hx2 (by omega) (by omega)
  subst ek
  refine k_istore_n X dX6_adopt_18 rfl (by rw [hN]; decide) ?_
  refine k_aload_n X dX6_adopt_19 rfl rfl ?_
  refine k_iload_n X dX6_adopt_20 rfl rfl ?_
  refine k_aload_n X dX6_adopt_21 rfl rfl ?_
  refine k_get0 X h.1 (q := (RX6, TX6, 25)) rfl inlX6 18 (by decide) kb_73 (Or.inl rfl) rfl rfl dX6_adopt_22 ?_
  refine k_iload_n X dX6_adopt_25 rfl rfl ?_
  refine k_mld X h 18 (i := g) rfl (by decide) (show g < 600 by omega) dX6_adopt_26 ?_
  refine k_callV (rest := []) X kv_X6_enter kb_188 (m_enter X.tr h hq1 (nI d) (M 18 g)) h.1 rfl rfl rfl rfl rfl (Nat.le_of_ble_eq_true rfl) ⟨by rw [hR]; exact Nat.le_of_ble_eq_true rfl, by rw [hR]; exact Nat.le_of_ble_eq_true rfl⟩ ⟨by rw [hR]; exact Nat.le_of_ble_eq_true rfl, by rw [hR]; exact Nat.le_of_ble_eq_true rfl⟩ dX6_adopt_27 (fun v27 C9 L9 h9 => ?_)
  obtain ⟨rfl, rfl, g2, h2⟩ := h9
  have f2 := kFm.tr kFm.rf g2
  refine k_istore X dX6_adopt_30 (by rw [hN]; decide) ?_
  refine k_bipush (v := (nI 40)) X dX6_adopt_32 (by decide) ?_
  refine k_iload_n X dX6_adopt_34 rfl rfl ?_
  refine k_imulN X dX6_adopt_35 ?_
  refine k_iload X dX6_adopt_36 rfl ?_
  refine k_iaddN X dX6_adopt_38 ?_
  refine k_istore X dX6_adopt_39 (by rw [hN]; decide) ?_
  refine k_aload_n X dX6_adopt_41 rfl rfl ?_
  refine k_get0 X h2.1 (q := (RX6, TX6, 25)) rfl inlX6 11 (by decide) kb_67 (Or.inl rfl) rfl rfl dX6_adopt_42 ?_
  refine k_iload_n X dX6_adopt_45 rfl rfl ?_
  refine k_iload X dX6_adopt_46 rfl ?_
  refine k_mst X h2 f2 11 (i := 600 * d + k) rfl (by decide) (show 600 * d + k < 2400 by omega) dX6_adopt_48 (fun C3 h3 f3 => ?_)
  refine k_aload_n X dX6_adopt_49 rfl rfl ?_
  refine k_get0 X h3.1 (q := (RX6, TX6, 25)) rfl inlX6 7 (by decide) kb_63 (Or.inl rfl) rfl rfl dX6_adopt_50 ?_
  refine k_iload X dX6_adopt_53 rfl ?_
  refine k_iconst (v := (nI 1)) X dX6_adopt_55 (by decide) ?_
  refine k_mstZ X h3 f3 (i := (40 * d) + (Q 1 0)) rfl kzn1 (by omega) dX6_adopt_56 (fun C4 h4 f4 => ?_)
  refine k_iconst (v := (nI 0)) X dX6_adopt_57 (by decide) ?_
  refine k_istore X dX6_adopt_58 (by rw [hN]; decide) ?_
  refine k_iload X dX6_adopt_60 rfl ?_
  refine k_iconst (v := (nI 2)) X dX6_adopt_62 (by decide) ?_
  refine k_icmp_ge (tgt := 118) X dX6_adopt_63 (by decide) (fun c63 => absurd c63 (show ¬ ((nI 2) ≤ (nI 0)) by decide)) (fun c63 => ?_)
  refine k_aload_n X dX6_adopt_66 rfl rfl ?_
  refine k_get0 X h4.1 (q := (RX6, TX6, 25)) rfl inlX6 8 (by decide) kb_64 (Or.inl rfl) rfl rfl dX6_adopt_67 ?_
  refine k_iconst (v := (nI 2)) X dX6_adopt_70 (by decide) ?_
  refine k_iload X dX6_adopt_71 rfl ?_
  refine k_imulN X dX6_adopt_73 ?_
  refine k_iload X dX6_adopt_74 rfl ?_
  refine k_iaddN X dX6_adopt_76 ?_
  refine k_aload_n X dX6_adopt_77 rfl rfl ?_
  refine k_get0 X h4.1 (q := (RX6, TX6, 25)) rfl inlX6 12 (by decide) kb_68 (Or.inl rfl) rfl rfl dX6_adopt_78 ?_
  refine k_iconst (v := (nI 2)) X dX6_adopt_81 (by decide) ?_
  refine k_iload_n X dX6_adopt_82 rfl rfl ?_
  refine k_imulN X dX6_adopt_83 ?_
  refine k_iload X dX6_adopt_84 rfl ?_
  refine k_iaddN X dX6_adopt_86 ?_
  refine k_mld X h4 12 (i := (2 * (600 * d + k)) + 0) rfl (by decide) (show (2 * (600 * d + k)) + 0 < 4800 by omega) dX6_adopt_87 ?_
  refine k_rw (y := (M 12 ((2 * (600 * d + k)) + 0))) ((w2_a (by decide)).trans ((w2_a (by decide)).trans ((w2_a (by decide)).trans (w2_a (by decide))))) ?_
  refine k_mst X h4 f4 8 (i := (2 * ((40 * d) + (Q 1 0))) + 0) rfl (by decide) (show (2 * ((40 * d) + (Q 1 0))) + 0 < 320 by omega) dX6_adopt_88 (fun C5 h5 f5 => ?_)
  refine k_aload_n X dX6_adopt_89 rfl rfl ?_
  refine k_get0 X h5.1 (q := (RX6, TX6, 25)) rfl inlX6 9 (by decide) kb_65 (Or.inl rfl) rfl rfl dX6_adopt_90 ?_
  refine k_iconst (v := (nI 2)) X dX6_adopt_93 (by decide) ?_
  refine k_iload X dX6_adopt_94 rfl ?_
  refine k_imulN X dX6_adopt_96 ?_
  refine k_iload X dX6_adopt_97 rfl ?_
  refine k_iaddN X dX6_adopt_99 ?_
  refine k_aload_n X dX6_adopt_100 rfl rfl ?_
  refine k_get0 X h5.1 (q := (RX6, TX6, 25)) rfl inlX6 13 (by decide) kb_69 (Or.inl rfl) rfl rfl dX6_adopt_101 ?_
  refine k_iconst (v := (nI 2)) X dX6_adopt_104 (by decide) ?_
  refine k_iload_n X dX6_adopt_105 rfl rfl ?_
  refine k_imulN X dX6_adopt_106 ?_
  refine k_iload X dX6_adopt_107 rfl ?_
  refine k_iaddN X dX6_adopt_109 ?_
  refine k_mld X h5 13 (i := (2 * (600 * d + k)) + 0) rfl (by decide) (show (2 * (600 * d + k)) + 0 < 4800 by omega) dX6_adopt_110 ?_
  refine k_rw (y := (M 13 ((2 * (600 * d + k)) + 0))) ((w2_a (by decide)).trans ((w2_a (by decide)).trans ((w2_a (by decide)).trans ((w2_a (by decide)).trans (w2_a (by decide)))))) ?_
  refine k_mst X h5 f5 9 (i := (2 * ((40 * d) + (Q 1 0))) + 0) rfl (by decide) (show (2 * ((40 * d) + (Q 1 0))) + 0 < 320 by omega) dX6_adopt_111 (fun C6 h6 f6 => ?_)
  refine k_iinc (v := (nI (0 + 1))) X dX6_adopt_112 rfl (by rw [show Int32.ofInt 1 = nI 1 from by decide, nI_add]) (by rw [hN]; decide) ?_
  refine k_goto (tgt := 60) X dX6_adopt_115 (by decide) ?_
  refine k_iload X dX6_adopt_60 rfl ?_
  refine k_iconst (v := (nI 2)) X dX6_adopt_62 (by decide) ?_
  refine k_icmp_ge (tgt := 118) X dX6_adopt_63 (by decide) (fun c63 => absurd c63 (show ¬ ((nI 2) ≤ (nI (0 + 1))) by decide)) (fun c63 => ?_)
  refine k_aload_n X dX6_adopt_66 rfl rfl ?_
  refine k_get0 X h6.1 (q := (RX6, TX6, 25)) rfl inlX6 8 (by decide) kb_64 (Or.inl rfl) rfl rfl dX6_adopt_67 ?_
  refine k_iconst (v := (nI 2)) X dX6_adopt_70 (by decide) ?_
  refine k_iload X dX6_adopt_71 rfl ?_
  refine k_imulN X dX6_adopt_73 ?_
  refine k_iload X dX6_adopt_74 rfl ?_
  refine k_iaddN X dX6_adopt_76 ?_
  refine k_aload_n X dX6_adopt_77 rfl rfl ?_
  refine k_get0 X h6.1 (q := (RX6, TX6, 25)) rfl inlX6 12 (by decide) kb_68 (Or.inl rfl) rfl rfl dX6_adopt_78 ?_
  refine k_iconst (v := (nI 2)) X dX6_adopt_81 (by decide) ?_
  refine k_iload_n X dX6_adopt_82 rfl rfl ?_
  refine k_imulN X dX6_adopt_83 ?_
  refine k_iload X dX6_adopt_84 rfl ?_
  refine k_iaddN X dX6_adopt_86 ?_
  refine k_mld X h6 12 (i := (2 * (600 * d + k)) + (0 + 1)) rfl (by decide) (show (2 * (600 * d + k)) + (0 + 1) < 4800 by omega) dX6_adopt_87 ?_
  refine k_rw (y := (M 12 ((2 * (600 * d + k)) + (0 + 1)))) ((w2_a (by decide)).trans ((w2_a (by decide)).trans ((w2_a (by decide)).trans ((w2_a (by decide)).trans ((w2_a (by decide)).trans (w2_a (by decide))))))) ?_
  refine k_mst X h6 f6 8 (i := (2 * ((40 * d) + (Q 1 0))) + (0 + 1)) rfl (by decide) (show (2 * ((40 * d) + (Q 1 0))) + (0 + 1) < 320 by omega) dX6_adopt_88 (fun C7 h7 f7 => ?_)
  refine k_aload_n X dX6_adopt_89 rfl rfl ?_
  refine k_get0 X h7.1 (q := (RX6, TX6, 25)) rfl inlX6 9 (by decide) kb_65 (Or.inl rfl) rfl rfl dX6_adopt_90 ?_
  refine k_iconst (v := (nI 2)) X dX6_adopt_93 (by decide) ?_
  refine k_iload X dX6_adopt_94 rfl ?_
  refine k_imulN X dX6_adopt_96 ?_
  refine k_iload X dX6_adopt_97 rfl ?_
  refine k_iaddN X dX6_adopt_99 ?_
  refine k_aload_n X dX6_adopt_100 rfl rfl ?_
  refine k_get0 X h7.1 (q := (RX6, TX6, 25)) rfl inlX6 13 (by decide) kb_69 (Or.inl rfl) rfl rfl dX6_adopt_101 ?_
  refine k_iconst (v := (nI 2)) X dX6_adopt_104 (by decide) ?_
  refine k_iload_n X dX6_adopt_105 rfl rfl ?_
  refine k_imulN X dX6_adopt_106 ?_
  refine k_iload X dX6_adopt_107 rfl ?_
  refine k_iaddN X dX6_adopt_109 ?_
  refine k_mld X h7 13 (i := (2 * (600 * d + k)) + (0 + 1)) rfl (by decide) (show (2 * (600 * d + k)) + (0 + 1) < 4800 by omega) dX6_adopt_110 ?_
  refine k_rw (y := (M 13 ((2 * (600 * d + k)) + (0 + 1)))) ((w2_a (by decide)).trans ((w2_a (by decide)).trans ((w2_a (by decide)).trans ((w2_a (by decide)).trans ((w2_a (by decide)).trans ((w2_a (by decide)).trans (w2_a (by decide)))))))) ?_
  refine k_mst X h7 f7 9 (i := (2 * ((40 * d) + (Q 1 0))) + (0 + 1)) rfl (by decide) (show (2 * ((40 * d) + (Q 1 0))) + (0 + 1) < 320 by omega) dX6_adopt_111 (fun C8 h8 f8 => ?_)
  refine k_iinc (v := (nI (0 + 1 + 1))) X dX6_adopt_112 rfl (by rw [show Int32.ofInt 1 = nI 1 from by decide, nI_add]) (by rw [hN]; decide) ?_
  refine k_goto (tgt := 60) X dX6_adopt_115 (by decide) ?_
  refine k_iload X dX6_adopt_60 rfl ?_
  refine k_iconst (v := (nI 2)) X dX6_adopt_62 (by decide) ?_
  refine k_icmp_ge (tgt := 118) X dX6_adopt_63 (by decide) (fun c63 => ?_) (fun c63 => absurd (show (nI 2) ≤ (nI (0 + 1 + 1)) by decide) c63)
  exact k_vret X hE dX6_adopt_118 (by first | omega | exact Nat.le_of_ble_eq_true rfl | (dsimp only; omega)) (by first | omega | exact Nat.le_of_ble_eq_true rfl | (dsimp only; omega)) ⟨rfl, rfl, f8, h8⟩
