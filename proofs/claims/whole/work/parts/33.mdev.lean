/-- the sum of f over the first n -/
def kcn (f : Nat → Nat) : Nat → Nat
  | 0 => 0
  | n + 1 => kcn f n + f n
theorem kcn_le {f : Nat → Nat} (h : ∀ n, f n ≤ 1) : ∀ n, kcn f n ≤ n
  | 0 => Nat.le_refl 0
  | n + 1 => Nat.add_le_add (kcn_le h n) (h n)
def mWt (M : kM2) (d k : Nat) : Nat := if M 15 k = nI d ∧ M 20 k = 0 then 1 else 0
def mHd (M : kM2) (d k : Nat) : Nat := if M 7 (40 * d + k) = 0 then 0 else 1
def mUn (M : kM2) (d k : Nat) : Nat := if M 11 (600 * d + k) = -1 then 1 else 0
theorem kcn_v {f : Nat → Nat} {k y : Nat} (h : f k = y) : (some (.int (nI (kcn f k + y))) : Option Value) = some (.int (nI (kcn f (k + 1)))) := by rw [← h]; rfl
theorem kcn_v2 {c : Nat} {f : Nat → Nat} {k y : Nat} (h : f k = y) : (some (.int (nI (c + kcn f k + y))) : Option Value) = some (.int (nI (c + kcn f (k + 1)))) := by rw [← h, Nat.add_assoc]; rfl
theorem mNm.un {M : kM2} {Q : kQ2} {d : Nat} {x r r2 : Int32} (ho : Q 10 d ≤ 512) (h : mNm M Q d x r) (g : mNm M Q d x r2) : r = r2 := by
  rcases h with ⟨k, h1, h2, h3, h4⟩ | ⟨h1, h2⟩ <;> rcases g with ⟨j, g1, g2, g3, g4⟩ | ⟨g1, g2⟩
  · have := kown_inj (h2.symm.trans g2) (by omega) (by omega)
    subst this
    rw [h4, g4]
  · exact absurd (g1 k h1 h2) h3
  · exact absurd (h1 j g1 g2) g3
  · rw [h2, g2]

set_option maxHeartbeats 4000000 in
set_option maxRecDepth 100000 in
theorem m_countWaiting {l : Launch} (htr : l.stackTraces = false) {E : kE} {A : Nat → Prop} {C : kC} {L : kL} {R : Int32} {M : kM2} {Q : kQ2} (h : isM E C L R M Q) (hqa : Q 14 0 ≤ 600) (d : Nat) : kM l yX6_countWaiting cX6_countWaiting 4 (some .int) 0 0 0 0 E A C L [.ref (L (30, 0, 0)), .int (nI d)] (fun v C' L' => v = some (.int (nI (kcn (mWt M d) (Q 14 0)))) ∧ L = L' ∧ C = C') := by
  refine kM.of htr (by decide) (Nat.le_of_ble_eq_true rfl) (fun Γ hl hR hN hnm X hE => ?_)
  refine k_lo (lo' := [(0, .ref (L (30, 0, 0))), (1, .int (nI d))]) ⟨rfl, rfl, trivial⟩ ?_
  have loop : ∀ (m k : Nat), k + m = Q 14 0 → kW Γ E A C L 0 0 4 [(0, .ref (L (30, 0, 0))), (1, .int (nI d)), (2, .int (nI (kcn (mWt M d) k))), (3, .int (nI k))] [] := by
    intro m
    induction m with
    | zero =>
      intro k hk
      refine k_iload_n X dX6_countWaiting_4 rfl rfl ?_
      refine k_aload_n X dX6_countWaiting_5 rfl rfl ?_
      refine k_get0 X h.1 (q := (RX6, TX6, 25)) rfl inlX6 14 (by decide) kb_509 (Or.inl rfl) rfl rfl dX6_countWaiting_6 ?_
      refine k_icmp_ge (tgt := 45) X dX6_countWaiting_9 (by decide) (fun c9 => ?_) (fun c9 => absurd (nI_le (Nat.le_of_eq (by omega)) (by omega)) c9)
      refine k_iload_n X dX6_countWaiting_45 rfl rfl ?_
      exact k_iret X hE dX6_countWaiting_46 (by first | omega | exact Nat.le_of_ble_eq_true rfl | (dsimp only; omega)) (by first | omega | exact Nat.le_of_ble_eq_true rfl | (dsimp only; omega)) ⟨by rw [show k = Q 14 0 by omega], rfl, rfl⟩
    | succ m ih =>
      intro k hk
      refine k_iload_n X dX6_countWaiting_4 rfl rfl ?_
      refine k_aload_n X dX6_countWaiting_5 rfl rfl ?_
      refine k_get0 X h.1 (q := (RX6, TX6, 25)) rfl inlX6 14 (by decide) kb_509 (Or.inl rfl) rfl rfl dX6_countWaiting_6 ?_
      refine k_icmp_ge (tgt := 45) X dX6_countWaiting_9 (by decide) (fun c9 => absurd c9 (nI_ge (show k < Q 14 0 by omega) (by omega))) (fun c9 => ?_)
      refine k_iload_n X dX6_countWaiting_12 rfl rfl ?_
      refine k_aload_n X dX6_countWaiting_13 rfl rfl ?_
      refine k_get0 X h.1 (q := (RX6, TX6, 25)) rfl inlX6 15 (by decide) kb_70 (Or.inl rfl) rfl rfl dX6_countWaiting_14 ?_
      refine k_iload_n X dX6_countWaiting_17 rfl rfl ?_
      refine k_mld X h 15 (i := k) rfl (by decide) (show k < 600 by omega) dX6_countWaiting_18 ?_
      refine k_iload_n X dX6_countWaiting_19 rfl rfl ?_
      refine k_icmp_ne (tgt := 36) X dX6_countWaiting_20 (by decide) (fun c20 => ?_) (fun c20 => ?_)
      ·
        refine k_iconst (v := (nI 0)) X dX6_countWaiting_36 (by decide) ?_
        refine k_iaddN X dX6_countWaiting_37 ?_
        refine k_istore_n X dX6_countWaiting_38 rfl (by rw [hN]; decide) ?_
        refine k_iinc (v := (nI (k + 1))) X dX6_countWaiting_39 rfl (by rw [show Int32.ofInt 1 = nI 1 from by decide, nI_add]) (by rw [hN]; decide) ?_
        refine k_goto (tgt := 4) X dX6_countWaiting_42 (by decide) ?_
        exact k_lo (lo' := [(0, .ref (L (30, 0, 0))), (1, .int (nI d)), (2, .int (nI (kcn (mWt M d) (k + 1)))), (3, .int (nI (k + 1)))]) ⟨rfl, rfl, kcn_v (if_neg (by first | exact fun z => c20 z.1 | exact fun z => c29 z.2)), rfl, trivial⟩ (ih (k + 1) (by omega))
      ·
        refine k_aload_n X dX6_countWaiting_23 rfl rfl ?_
        refine k_get0 X h.1 (q := (RX6, TX6, 25)) rfl inlX6 20 (by decide) kb_75 (Or.inl rfl) rfl rfl dX6_countWaiting_24 ?_
        refine k_iload_n X dX6_countWaiting_27 rfl rfl ?_
        refine k_mld X h 20 (i := k) rfl (by decide) (show k < 600 by omega) dX6_countWaiting_28 ?_
        refine k_if_ne (tgt := 36) X dX6_countWaiting_29 (by decide) (fun c29 => ?_) (fun c29 => ?_)
        ·
          refine k_iconst (v := (nI 0)) X dX6_countWaiting_36 (by decide) ?_
          refine k_iaddN X dX6_countWaiting_37 ?_
          refine k_istore_n X dX6_countWaiting_38 rfl (by rw [hN]; decide) ?_
          refine k_iinc (v := (nI (k + 1))) X dX6_countWaiting_39 rfl (by rw [show Int32.ofInt 1 = nI 1 from by decide, nI_add]) (by rw [hN]; decide) ?_
          refine k_goto (tgt := 4) X dX6_countWaiting_42 (by decide) ?_
          exact k_lo (lo' := [(0, .ref (L (30, 0, 0))), (1, .int (nI d)), (2, .int (nI (kcn (mWt M d) (k + 1)))), (3, .int (nI (k + 1)))]) ⟨rfl, rfl, kcn_v (if_neg (by first | exact fun z => c20 z.1 | exact fun z => c29 z.2)), rfl, trivial⟩ (ih (k + 1) (by omega))
        ·
          refine k_iconst (v := (nI 1)) X dX6_countWaiting_32 (by decide) ?_
          refine k_goto (tgt := 37) X dX6_countWaiting_33 (by decide) ?_
          refine k_iaddN X dX6_countWaiting_37 ?_
          refine k_istore_n X dX6_countWaiting_38 rfl (by rw [hN]; decide) ?_
          refine k_iinc (v := (nI (k + 1))) X dX6_countWaiting_39 rfl (by rw [show Int32.ofInt 1 = nI 1 from by decide, nI_add]) (by rw [hN]; decide) ?_
          refine k_goto (tgt := 4) X dX6_countWaiting_42 (by decide) ?_
          exact k_lo (lo' := [(0, .ref (L (30, 0, 0))), (1, .int (nI d)), (2, .int (nI (kcn (mWt M d) (k + 1)))), (3, .int (nI (k + 1)))]) ⟨rfl, rfl, kcn_v (if_pos ⟨c20, c29⟩), rfl, trivial⟩ (ih (k + 1) (by omega))
  refine k_iconst (v := (nI 0)) X dX6_countWaiting_0 (by decide) ?_
  refine k_istore_n X dX6_countWaiting_1 rfl (by rw [hN]; decide) ?_
  refine k_iconst (v := (nI 0)) X dX6_countWaiting_2 (by decide) ?_
  refine k_istore_n X dX6_countWaiting_3 rfl (by rw [hN]; decide) ?_
  exact k_lo (lo' := [(0, .ref (L (30, 0, 0))), (1, .int (nI d)), (2, .int (nI (kcn (mWt M d) 0))), (3, .int (nI 0))]) ⟨rfl, rfl, rfl, rfl, trivial⟩ (loop (Q 14 0) 0 (by omega))

set_option maxHeartbeats 4000000 in
set_option maxRecDepth 100000 in
theorem m_countHeld {l : Launch} (htr : l.stackTraces = false) {E : kE} {A : Nat → Prop} {C : kC} {L : kL} {R : Int32} {M : kM2} {Q : kQ2} (h : isM E C L R M Q) {d : Nat} (hd : d < 4) (ho : Q 10 d ≤ 512)  : kM l yX6_countHeld cX6_countHeld 4 (some .int) 0 0 0 0 E A C L [.ref (L (30, 0, 0)), .int (nI d)] (fun v C' L' => v = some (.int (nI (kcn (mHd M d) 40 + kcn (mUn M d) (Q 10 d)))) ∧ L = L' ∧ C = C') := by
  refine kM.of htr (by decide) (Nat.le_of_ble_eq_true rfl) (fun Γ hl hR hN hnm X hE => ?_)
  refine k_lo (lo' := [(0, .ref (L (30, 0, 0))), (1, .int (nI d))]) ⟨rfl, rfl, trivial⟩ ?_
  have loop2 : ∀ (m k : Nat), k + m = Q 10 d → kW Γ E A C L 0 0 40 [(0, .ref (L (30, 0, 0))), (1, .int (nI d)), (2, .int (nI (kcn (mHd M d) 40 + kcn (mUn M d) k))), (3, .int (nI k))] [] := by
    intro m
    induction m with
    | zero =>
      intro k hk
      refine k_iload_n X dX6_countHeld_40 rfl rfl ?_
      refine k_aload_n X dX6_countHeld_41 rfl rfl ?_
      refine k_get0 X h.1 (q := (RX6, TX6, 25)) rfl inlX6 10 (by decide) kb_66 (Or.inl rfl) rfl rfl dX6_countHeld_42 ?_
      refine k_iload_n X dX6_countHeld_45 rfl rfl ?_
      refine k_mldQ X h 10 (i := d) rfl (by decide) (show d < 4 by omega) dX6_countHeld_46 ?_
      refine k_icmp_ge (tgt := 80) X dX6_countHeld_47 (by decide) (fun c47 => ?_) (fun c47 => absurd (nI_le (Nat.le_of_eq (by omega)) (by omega)) c47)
      refine k_iload_n X dX6_countHeld_80 rfl rfl ?_
      exact k_iret X hE dX6_countHeld_81 (by first | omega | exact Nat.le_of_ble_eq_true rfl | (dsimp only; omega)) (by first | omega | exact Nat.le_of_ble_eq_true rfl | (dsimp only; omega)) ⟨by rw [show k = Q 10 d by omega], rfl, rfl⟩
    | succ m ih =>
      intro k hk
      refine k_iload_n X dX6_countHeld_40 rfl rfl ?_
      refine k_aload_n X dX6_countHeld_41 rfl rfl ?_
      refine k_get0 X h.1 (q := (RX6, TX6, 25)) rfl inlX6 10 (by decide) kb_66 (Or.inl rfl) rfl rfl dX6_countHeld_42 ?_
      refine k_iload_n X dX6_countHeld_45 rfl rfl ?_
      refine k_mldQ X h 10 (i := d) rfl (by decide) (show d < 4 by omega) dX6_countHeld_46 ?_
      refine k_icmp_ge (tgt := 80) X dX6_countHeld_47 (by decide) (fun c47 => absurd c47 (nI_ge (show k < Q 10 d by omega) (by omega))) (fun c47 => ?_)
      refine k_iload_n X dX6_countHeld_50 rfl rfl ?_
      refine k_aload_n X dX6_countHeld_51 rfl rfl ?_
      refine k_get0 X h.1 (q := (RX6, TX6, 25)) rfl inlX6 11 (by decide) kb_67 (Or.inl rfl) rfl rfl dX6_countHeld_52 ?_
      refine k_sipush (v := (nI 600)) X dX6_countHeld_55 (by decide) ?_
      refine k_iload_n X dX6_countHeld_58 rfl rfl ?_
      refine k_imulN X dX6_countHeld_59 ?_
      refine k_iload_n X dX6_countHeld_60 rfl rfl ?_
      refine k_iaddN X dX6_countHeld_61 ?_
      refine k_mld X h 11 (i := (600 * d) + k) rfl (by decide) (show (600 * d) + k < 2400 by omega) dX6_countHeld_62 ?_
      refine k_iconst (v := (-1)) X dX6_countHeld_63 (by decide) ?_
      refine k_icmp_ne (tgt := 71) X dX6_countHeld_64 (by decide) (fun c64 => ?_) (fun c64 => ?_)
      ·
        refine k_iconst (v := (nI 0)) X dX6_countHeld_71 (by decide) ?_
        refine k_iaddN X dX6_countHeld_72 ?_
        refine k_istore_n X dX6_countHeld_73 rfl (by rw [hN]; decide) ?_
        refine k_iinc (v := (nI (k + 1))) X dX6_countHeld_74 rfl (by rw [show Int32.ofInt 1 = nI 1 from by decide, nI_add]) (by rw [hN]; decide) ?_
        refine k_goto (tgt := 40) X dX6_countHeld_77 (by decide) ?_
        exact k_lo (lo' := [(0, .ref (L (30, 0, 0))), (1, .int (nI d)), (2, .int (nI (kcn (mHd M d) 40 + kcn (mUn M d) (k + 1)))), (3, .int (nI (k + 1)))]) ⟨rfl, rfl, kcn_v2 (if_neg c64), rfl, trivial⟩ (ih (k + 1) (by omega))
      ·
        refine k_iconst (v := (nI 1)) X dX6_countHeld_67 (by decide) ?_
        refine k_goto (tgt := 72) X dX6_countHeld_68 (by decide) ?_
        refine k_iaddN X dX6_countHeld_72 ?_
        refine k_istore_n X dX6_countHeld_73 rfl (by rw [hN]; decide) ?_
        refine k_iinc (v := (nI (k + 1))) X dX6_countHeld_74 rfl (by rw [show Int32.ofInt 1 = nI 1 from by decide, nI_add]) (by rw [hN]; decide) ?_
        refine k_goto (tgt := 40) X dX6_countHeld_77 (by decide) ?_
        exact k_lo (lo' := [(0, .ref (L (30, 0, 0))), (1, .int (nI d)), (2, .int (nI (kcn (mHd M d) 40 + kcn (mUn M d) (k + 1)))), (3, .int (nI (k + 1)))]) ⟨rfl, rfl, kcn_v2 (if_pos c64), rfl, trivial⟩ (ih (k + 1) (by omega))
  have loop1 : ∀ (m k : Nat), k + m = 40 → kW Γ E A C L 0 0 4 [(0, .ref (L (30, 0, 0))), (1, .int (nI d)), (2, .int (nI (kcn (mHd M d) k))), (3, .int (nI k))] [] := by
    intro m
    induction m with
    | zero =>
      intro k hk
      have e40 : k = 40 := by omega
      subst e40
      refine k_iload_n X dX6_countHeld_4 rfl rfl ?_
      refine k_bipush (v := (nI 40)) X dX6_countHeld_5 (by decide) ?_
      refine k_icmp_ge (tgt := 38) X dX6_countHeld_7 (by decide) (fun c7 => ?_) (fun c7 => absurd (nI_le (Nat.le_refl 40) (by decide)) c7)
      refine k_iconst (v := (nI 0)) X dX6_countHeld_38 (by decide) ?_
      refine k_istore_n X dX6_countHeld_39 rfl (by rw [hN]; decide) ?_
      exact k_lo (lo' := [(0, .ref (L (30, 0, 0))), (1, .int (nI d)), (2, .int (nI (kcn (mHd M d) 40 + kcn (mUn M d) 0))), (3, .int (nI 0))]) ⟨rfl, rfl, rfl, rfl, trivial⟩ (loop2 (Q 10 d) 0 (by omega))
    | succ m ih =>
      intro k hk
      refine k_iload_n X dX6_countHeld_4 rfl rfl ?_
      refine k_bipush (v := (nI 40)) X dX6_countHeld_5 (by decide) ?_
      refine k_icmp_ge (tgt := 38) X dX6_countHeld_7 (by decide) (fun c7 => absurd c7 (nI_ge (show k < 40 by omega) (by omega))) (fun c7 => ?_)
      refine k_iload_n X dX6_countHeld_10 rfl rfl ?_
      refine k_aload_n X dX6_countHeld_11 rfl rfl ?_
      refine k_get0 X h.1 (q := (RX6, TX6, 25)) rfl inlX6 7 (by decide) kb_63 (Or.inl rfl) rfl rfl dX6_countHeld_12 ?_
      refine k_bipush (v := (nI 40)) X dX6_countHeld_15 (by decide) ?_
      refine k_iload_n X dX6_countHeld_17 rfl rfl ?_
      refine k_imulN X dX6_countHeld_18 ?_
      refine k_iload_n X dX6_countHeld_19 rfl rfl ?_
      refine k_iaddN X dX6_countHeld_20 ?_
      refine k_mldZ X h (i := (40 * d) + k) rfl (by omega) dX6_countHeld_21 ?_
      refine k_if_eq (tgt := 29) X dX6_countHeld_22 (by decide) (fun c22 => ?_) (fun c22 => ?_)
      ·
        refine k_iconst (v := (nI 0)) X dX6_countHeld_29 (by decide) ?_
        refine k_iaddN X dX6_countHeld_30 ?_
        refine k_istore_n X dX6_countHeld_31 rfl (by rw [hN]; decide) ?_
        refine k_iinc (v := (nI (k + 1))) X dX6_countHeld_32 rfl (by rw [show Int32.ofInt 1 = nI 1 from by decide, nI_add]) (by rw [hN]; decide) ?_
        refine k_goto (tgt := 4) X dX6_countHeld_35 (by decide) ?_
        exact k_lo (lo' := [(0, .ref (L (30, 0, 0))), (1, .int (nI d)), (2, .int (nI (kcn (mHd M d) (k + 1)))), (3, .int (nI (k + 1)))]) ⟨rfl, rfl, kcn_v (if_pos c22), rfl, trivial⟩ (ih (k + 1) (by omega))
      ·
        refine k_iconst (v := (nI 1)) X dX6_countHeld_25 (by decide) ?_
        refine k_goto (tgt := 30) X dX6_countHeld_26 (by decide) ?_
        refine k_iaddN X dX6_countHeld_30 ?_
        refine k_istore_n X dX6_countHeld_31 rfl (by rw [hN]; decide) ?_
        refine k_iinc (v := (nI (k + 1))) X dX6_countHeld_32 rfl (by rw [show Int32.ofInt 1 = nI 1 from by decide, nI_add]) (by rw [hN]; decide) ?_
        refine k_goto (tgt := 4) X dX6_countHeld_35 (by decide) ?_
        exact k_lo (lo' := [(0, .ref (L (30, 0, 0))), (1, .int (nI d)), (2, .int (nI (kcn (mHd M d) (k + 1)))), (3, .int (nI (k + 1)))]) ⟨rfl, rfl, kcn_v (if_neg c22), rfl, trivial⟩ (ih (k + 1) (by omega))
  refine k_iconst (v := (nI 0)) X dX6_countHeld_0 (by decide) ?_
  refine k_istore_n X dX6_countHeld_1 rfl (by rw [hN]; decide) ?_
  refine k_iconst (v := (nI 0)) X dX6_countHeld_2 (by decide) ?_
  refine k_istore_n X dX6_countHeld_3 rfl (by rw [hN]; decide) ?_
  exact k_lo (lo' := [(0, .ref (L (30, 0, 0))), (1, .int (nI d)), (2, .int (nI (kcn (mHd M d) 0))), (3, .int (nI 0))]) ⟨rfl, rfl, rfl, rfl, trivial⟩ (loop1 40 0 (by omega))

set_option maxHeartbeats 4000000 in
set_option maxRecDepth 100000 in
theorem m_held {l : Launch} (htr : l.stackTraces = false) {E : kE} {A : Nat → Prop} {C : kC} {L : kL} {R : Int32} {M : kM2} {Q : kQ2} (h : isM E C L R M Q) (ho : ∀ d, d < 4 → Q 10 d ≤ 512) (dv : Int32) : kM l yX6_held cX6_held 2 (some .int) 3 63 0 0 E A C L [.ref (L (30, 0, 0)), .int dv] (fun v C' L' => ((∃ d, d < 4 ∧ dv = nI d ∧ v = some (.int (nI (kcn (mHd M d) 40 + kcn (mUn M d) (Q 10 d)))) ∧ isM E C' L (nI 0) M Q) ∨ (¬ kix dv 4 ∧ v = some (.int (nI 0)) ∧ isM E C' L (nI 1) M Q)) ∧ L = L' ∧ kFm C C') := by
  refine kM.of htr (by decide) (Nat.le_of_ble_eq_true rfl) (fun Γ hl hR hN hnm X hE => ?_)
  refine k_lo (lo' := [(0, .ref (L (30, 0, 0))), (1, .int dv)]) ⟨rfl, rfl, trivial⟩ ?_
  refine k_aload_n X dX6_held_0 rfl rfl ?_
  refine k_iload_n X dX6_held_1 rfl rfl ?_
  refine k_callV (rest := []) X kv_X6_noDevice kb_390 (m_noDevice X.tr h dv) h.1 rfl rfl rfl rfl rfl (Nat.le_of_ble_eq_true rfl) ⟨by rw [hR]; exact Nat.le_of_ble_eq_true rfl, by rw [hR]; exact Nat.le_of_ble_eq_true rfl⟩ ⟨by rw [hR]; exact Nat.le_of_ble_eq_true rfl, by rw [hR]; exact Nat.le_of_ble_eq_true rfl⟩ dX6_held_2 (fun v2 C9 L9 h9 => ?_)
  obtain ⟨(⟨pd, rfl, h1⟩ | ⟨pd, rfl, h1⟩), rfl, g1⟩ := h9
  ·
    have f1 := kFm.tr kFm.rf g1
    obtain ⟨d, hd, rfl⟩ := pd.ex (by decide)
    refine k_if_eq (tgt := 12) X dX6_held_5 (by decide) (fun c5 => ?_) (fun c5 => absurd (show (nI 0) = 0 by decide) c5)
    refine k_aload_n X dX6_held_12 rfl rfl ?_
    refine k_iload_n X dX6_held_13 rfl rfl ?_
    refine k_callV (rest := []) X kv_X6_countHeld kb_398 (m_countHeld X.tr h1 hd (ho d hd)) h1.1 rfl rfl rfl rfl rfl (Nat.le_of_ble_eq_true rfl) ⟨by rw [hR]; exact Nat.le_of_ble_eq_true rfl, by rw [hR]; exact Nat.le_of_ble_eq_true rfl⟩ ⟨by rw [hR]; exact Nat.le_of_ble_eq_true rfl, by rw [hR]; exact Nat.le_of_ble_eq_true rfl⟩ dX6_held_14 (fun v14 C9 L9 h9 => ?_)
    obtain ⟨rfl, rfl, rfl⟩ := h9
    exact k_iret X hE dX6_held_17 (by first | omega | exact Nat.le_of_ble_eq_true rfl | (dsimp only; omega)) (by first | omega | exact Nat.le_of_ble_eq_true rfl | (dsimp only; omega)) ⟨Or.inl (⟨d, hd, rfl, rfl, h1⟩), rfl, f1⟩
  ·
    have f1 := kFm.tr kFm.rf g1
    refine k_if_eq (tgt := 12) X dX6_held_5 (by decide) (fun c5 => absurd c5 (show ¬ ((nI 1) = 0) by decide)) (fun c5 => ?_)
    refine k_iconst (v := (nI 0)) X dX6_held_8 (by decide) ?_
    refine k_goto (tgt := 17) X dX6_held_9 (by decide) ?_
    exact k_iret X hE dX6_held_17 (by first | omega | exact Nat.le_of_ble_eq_true rfl | (dsimp only; omega)) (by first | omega | exact Nat.le_of_ble_eq_true rfl | (dsimp only; omega)) ⟨Or.inr (⟨pd, rfl, h1⟩), rfl, f1⟩

set_option maxHeartbeats 4000000 in
set_option maxRecDepth 100000 in
theorem m_waiting {l : Launch} (htr : l.stackTraces = false) {E : kE} {A : Nat → Prop} {C : kC} {L : kL} {R : Int32} {M : kM2} {Q : kQ2} (h : isM E C L R M Q) (hqa : Q 14 0 ≤ 600) (dv : Int32) : kM l yX6_waiting cX6_waiting 2 (some .int) 3 63 0 0 E A C L [.ref (L (30, 0, 0)), .int dv] (fun v C' L' => ((∃ d, d < 4 ∧ dv = nI d ∧ v = some (.int (nI (kcn (mWt M d) (Q 14 0)))) ∧ isM E C' L (nI 0) M Q) ∨ (¬ kix dv 4 ∧ v = some (.int (nI 0)) ∧ isM E C' L (nI 1) M Q)) ∧ L = L' ∧ kFm C C') := by
  refine kM.of htr (by decide) (Nat.le_of_ble_eq_true rfl) (fun Γ hl hR hN hnm X hE => ?_)
  refine k_lo (lo' := [(0, .ref (L (30, 0, 0))), (1, .int dv)]) ⟨rfl, rfl, trivial⟩ ?_
  refine k_aload_n X dX6_waiting_0 rfl rfl ?_
  refine k_iload_n X dX6_waiting_1 rfl rfl ?_
  refine k_callV (rest := []) X kv_X6_noDevice kb_390 (m_noDevice X.tr h dv) h.1 rfl rfl rfl rfl rfl (Nat.le_of_ble_eq_true rfl) ⟨by rw [hR]; exact Nat.le_of_ble_eq_true rfl, by rw [hR]; exact Nat.le_of_ble_eq_true rfl⟩ ⟨by rw [hR]; exact Nat.le_of_ble_eq_true rfl, by rw [hR]; exact Nat.le_of_ble_eq_true rfl⟩ dX6_waiting_2 (fun v2 C9 L9 h9 => ?_)
  obtain ⟨(⟨pd, rfl, h1⟩ | ⟨pd, rfl, h1⟩), rfl, g1⟩ := h9
  ·
    have f1 := kFm.tr kFm.rf g1
    obtain ⟨d, hd, rfl⟩ := pd.ex (by decide)
    refine k_if_eq (tgt := 12) X dX6_waiting_5 (by decide) (fun c5 => ?_) (fun c5 => absurd (show (nI 0) = 0 by decide) c5)
    refine k_aload_n X dX6_waiting_12 rfl rfl ?_
    refine k_iload_n X dX6_waiting_13 rfl rfl ?_
    refine k_callV (rest := []) X kv_X6_countWaiting kb_510 (m_countWaiting X.tr h1 hqa d) h1.1 rfl rfl rfl rfl rfl (Nat.le_of_ble_eq_true rfl) ⟨by rw [hR]; exact Nat.le_of_ble_eq_true rfl, by rw [hR]; exact Nat.le_of_ble_eq_true rfl⟩ ⟨by rw [hR]; exact Nat.le_of_ble_eq_true rfl, by rw [hR]; exact Nat.le_of_ble_eq_true rfl⟩ dX6_waiting_14 (fun v14 C9 L9 h9 => ?_)
    obtain ⟨rfl, rfl, rfl⟩ := h9
    exact k_iret X hE dX6_waiting_17 (by first | omega | exact Nat.le_of_ble_eq_true rfl | (dsimp only; omega)) (by first | omega | exact Nat.le_of_ble_eq_true rfl | (dsimp only; omega)) ⟨Or.inl (⟨d, hd, rfl, rfl, h1⟩), rfl, f1⟩
  ·
    have f1 := kFm.tr kFm.rf g1
    refine k_if_eq (tgt := 12) X dX6_waiting_5 (by decide) (fun c5 => absurd c5 (show ¬ ((nI 1) = 0) by decide)) (fun c5 => ?_)
    refine k_iconst (v := (nI 0)) X dX6_waiting_8 (by decide) ?_
    refine k_goto (tgt := 17) X dX6_waiting_9 (by decide) ?_
    exact k_iret X hE dX6_waiting_17 (by first | omega | exact Nat.le_of_ble_eq_true rfl | (dsimp only; omega)) (by first | omega | exact Nat.le_of_ble_eq_true rfl | (dsimp only; omega)) ⟨Or.inr (⟨pd, rfl, h1⟩), rfl, f1⟩

set_option maxHeartbeats 4000000 in
set_option maxRecDepth 100000 in
theorem m_holds {l : Launch} (htr : l.stackTraces = false) {E : kE} {A : Nat → Prop} {C : kC} {L : kL} {R : Int32} {M : kM2} {Q : kQ2} (h : isM E C L R M Q) (hq : Q 1 0 ≤ 40) (hz : ∀ p, M 7 p = nI 0 ∨ M 7 p = nI 1) (ho : ∀ d, d < 4 → Q 10 d ≤ 512) (dv job : Int32) : kM l yX6_holds cX6_holds 3 (some .boolean) 4 90 0 0 E A C L [.ref (L (30, 0, 0)), .int dv, .int job] (fun v C' L' => ((∃ d, d < 4 ∧ dv = nI d ∧ ∃ b, mHs M Q d job b ∧ v = some (.int (nI b)) ∧ isM E C' L (nI 0) M Q) ∨ (¬ kix dv 4 ∧ v = some (.int (nI 0)) ∧ isM E C' L (nI 1) M Q)) ∧ L = L' ∧ kFm C C') := by
  refine kM.of htr (by decide) (Nat.le_of_ble_eq_true rfl) (fun Γ hl hR hN hnm X hE => ?_)
  refine k_lo (lo' := [(0, .ref (L (30, 0, 0))), (1, .int dv), (2, .int job)]) ⟨rfl, rfl, rfl, trivial⟩ ?_
  refine k_aload_n X dX6_holds_0 rfl rfl ?_
  refine k_iload_n X dX6_holds_1 rfl rfl ?_
  refine k_callV (rest := []) X kv_X6_noDevice kb_390 (m_noDevice X.tr h dv) h.1 rfl rfl rfl rfl rfl (Nat.le_of_ble_eq_true rfl) ⟨by rw [hR]; exact Nat.le_of_ble_eq_true rfl, by rw [hR]; exact Nat.le_of_ble_eq_true rfl⟩ ⟨by rw [hR]; exact Nat.le_of_ble_eq_true rfl, by rw [hR]; exact Nat.le_of_ble_eq_true rfl⟩ dX6_holds_2 (fun v2 C9 L9 h9 => ?_)
  obtain ⟨(⟨pd, rfl, h1⟩ | ⟨pd, rfl, h1⟩), rfl, g1⟩ := h9
  ·
    have f1 := kFm.tr kFm.rf g1
    obtain ⟨d, hd, rfl⟩ := pd.ex (by decide)
    refine k_if_ne (tgt := 21) X dX6_holds_5 (by decide) (fun c5 => absurd c5 (show ¬ (¬ (nI 0) = 0) by decide)) (fun c5 => ?_)
    refine k_aload_n X dX6_holds_8 rfl rfl ?_
    refine k_iload_n X dX6_holds_9 rfl rfl ?_
    refine k_iload_n X dX6_holds_10 rfl rfl ?_
    refine k_callV (rest := []) X kv_X6_has kb_437 (m_has X.tr h1 hq hz hd (ho d hd) job) h1.1 rfl rfl rfl rfl rfl (Nat.le_of_ble_eq_true rfl) ⟨by rw [hR]; exact Nat.le_of_ble_eq_true rfl, by rw [hR]; exact Nat.le_of_ble_eq_true rfl⟩ ⟨by rw [hR]; exact Nat.le_of_ble_eq_true rfl, by rw [hR]; exact Nat.le_of_ble_eq_true rfl⟩ dX6_holds_11 (fun v11 C9 L9 h9 => ?_)
    obtain ⟨(⟨rfl, ph⟩ | ⟨rfl, ph⟩), rfl, rfl⟩ := h9
    ·
      refine k_if_eq (tgt := 21) X dX6_holds_14 (by decide) (fun c14 => absurd c14 (show ¬ ((nI 1) = 0) by decide)) (fun c14 => ?_)
      refine k_iconst (v := (nI 1)) X dX6_holds_17 (by decide) ?_
      refine k_goto (tgt := 22) X dX6_holds_18 (by decide) ?_
      exact k_zret X hE kz1 dX6_holds_22 (by first | omega | exact Nat.le_of_ble_eq_true rfl | (dsimp only; omega)) (by first | omega | exact Nat.le_of_ble_eq_true rfl | (dsimp only; omega)) ⟨Or.inl (⟨d, hd, rfl, 1, ph, rfl, h1⟩), rfl, f1⟩
    ·
      refine k_if_eq (tgt := 21) X dX6_holds_14 (by decide) (fun c14 => ?_) (fun c14 => absurd (show (nI 0) = 0 by decide) c14)
      refine k_iconst (v := (nI 0)) X dX6_holds_21 (by decide) ?_
      exact k_zret X hE kz0 dX6_holds_22 (by first | omega | exact Nat.le_of_ble_eq_true rfl | (dsimp only; omega)) (by first | omega | exact Nat.le_of_ble_eq_true rfl | (dsimp only; omega)) ⟨Or.inl (⟨d, hd, rfl, 0, ph, rfl, h1⟩), rfl, f1⟩
  ·
    have f1 := kFm.tr kFm.rf g1
    refine k_if_ne (tgt := 21) X dX6_holds_5 (by decide) (fun c5 => ?_) (fun c5 => absurd c5 (show ¬ (nI 1) = 0 by decide))
    refine k_iconst (v := (nI 0)) X dX6_holds_21 (by decide) ?_
    exact k_zret X hE kz0 dX6_holds_22 (by first | omega | exact Nat.le_of_ble_eq_true rfl | (dsimp only; omega)) (by first | omega | exact Nat.le_of_ble_eq_true rfl | (dsimp only; omega)) ⟨Or.inr (⟨pd, rfl, h1⟩), rfl, f1⟩

set_option maxHeartbeats 4000000 in
set_option maxRecDepth 100000 in
theorem m_lacks {l : Launch} (htr : l.stackTraces = false) {E : kE} {A : Nat → Prop} {C : kC} {L : kL} {R : Int32} {M : kM2} {Q : kQ2} (h : isM E C L R M Q) (hq : Q 1 0 ≤ 40) (hz : ∀ p, M 7 p = nI 0 ∨ M 7 p = nI 1) (ho : ∀ d, d < 4 → Q 10 d ≤ 512) (dv job w : Int32) : kM l yX6_lacks cX6_lacks 4 (some .boolean) 4 90 0 0 E A C L [.ref (L (30, 0, 0)), .int dv, .int job, .int w] (fun v C' L' => ((∃ d, d < 4 ∧ dv = nI d ∧ ¬ w = 0 ∧ mHs M Q d job 1 ∧ v = some (.int (nI 0)) ∧ isM E C' L (nI 0) M Q) ∨ (¬ kix dv 4 ∧ v = some (.int (nI 1)) ∧ isM E C' L (nI 1) M Q) ∨ (kix dv 4 ∧ w = 0 ∧ v = some (.int (nI 1)) ∧ isM E C' L (nI 2) M Q) ∨ (∃ d, d < 4 ∧ dv = nI d ∧ ¬ w = 0 ∧ mHs M Q d job 0 ∧ v = some (.int (nI 1)) ∧ isM E C' L (nI 3) M Q)) ∧ L = L' ∧ kFm C C') := by
  refine kM.of htr (by decide) (Nat.le_of_ble_eq_true rfl) (fun Γ hl hR hN hnm X hE => ?_)
  refine k_lo (lo' := [(0, .ref (L (30, 0, 0))), (1, .int dv), (2, .int job), (3, .int w)]) ⟨rfl, rfl, rfl, rfl, trivial⟩ ?_
  refine k_aload_n X dX6_lacks_0 rfl rfl ?_
  refine k_iload_n X dX6_lacks_1 rfl rfl ?_
  refine k_callS (rest := [.ref (L (30, 0, 0))]) X ks_X6_isDevice kb_177 (m_isDevice X.tr dv) rfl rfl (Nat.le_of_ble_eq_true rfl) ⟨by rw [hR]; exact Nat.le_of_ble_eq_true rfl, by rw [hR]; exact Nat.le_of_ble_eq_true rfl⟩ ⟨by rw [hR]; exact Nat.le_of_ble_eq_true rfl, by rw [hR]; exact Nat.le_of_ble_eq_true rfl⟩ dX6_lacks_2 (fun v2 C9 L9 h9 => ?_)
  obtain ⟨(⟨pd, rfl⟩ | ⟨pd, rfl⟩), rfl, rfl⟩ := h9
  ·
    obtain ⟨d, hd, rfl⟩ := pd.ex (by decide)
    refine k_if_ne (tgt := 12) X dX6_lacks_5 (by decide) (fun c5 => ?_) (fun c5 => absurd c5 (show ¬ (nI 1) = 0 by decide))
    refine k_iload_n X dX6_lacks_12 rfl rfl ?_
    refine k_if_ne (tgt := 20) X dX6_lacks_13 (by decide) (fun c13 => ?_) (fun c13 => ?_)
    ·
      refine k_aload_n X dX6_lacks_20 rfl rfl ?_
      refine k_iload_n X dX6_lacks_21 rfl rfl ?_
      refine k_iload_n X dX6_lacks_22 rfl rfl ?_
      refine k_callV (rest := [.ref (L (30, 0, 0))]) X kv_X6_has kb_437 (m_has X.tr h hq hz hd (ho d hd) job) h.1 rfl rfl rfl rfl rfl (Nat.le_of_ble_eq_true rfl) ⟨by rw [hR]; exact Nat.le_of_ble_eq_true rfl, by rw [hR]; exact Nat.le_of_ble_eq_true rfl⟩ ⟨by rw [hR]; exact Nat.le_of_ble_eq_true rfl, by rw [hR]; exact Nat.le_of_ble_eq_true rfl⟩ dX6_lacks_23 (fun v23 C9 L9 h9 => ?_)
      obtain ⟨(⟨rfl, ph⟩ | ⟨rfl, ph⟩), rfl, rfl⟩ := h9
      ·
        refine k_if_eq (tgt := 33) X dX6_lacks_26 (by decide) (fun c26 => absurd c26 (show ¬ ((nI 1) = 0) by decide)) (fun c26 => ?_)
        refine k_iconst (v := (nI 0)) X dX6_lacks_29 (by decide) ?_
        refine k_goto (tgt := 34) X dX6_lacks_30 (by decide) ?_
        refine k_callV (rest := []) X kv_X6_refused kb_183 (m_refused X.tr h (nI 0) (nI 0) (by decide)) h.1 rfl rfl rfl rfl rfl (Nat.le_of_ble_eq_true rfl) ⟨by rw [hR]; exact Nat.le_of_ble_eq_true rfl, by rw [hR]; exact Nat.le_of_ble_eq_true rfl⟩ ⟨by rw [hR]; exact Nat.le_of_ble_eq_true rfl, by rw [hR]; exact Nat.le_of_ble_eq_true rfl⟩ dX6_lacks_34 (fun v34 C9 L9 h9 => ?_)
        obtain ⟨rfl, rfl, g3, h3⟩ := h9
        have f3 := kFm.tr kFm.rf g3
        exact k_zret X hE kz0 dX6_lacks_37 (by first | omega | exact Nat.le_of_ble_eq_true rfl | (dsimp only; omega)) (by first | omega | exact Nat.le_of_ble_eq_true rfl | (dsimp only; omega)) ⟨Or.inl (⟨d, hd, rfl, c13, ph, rfl, h3⟩), rfl, f3⟩
      ·
        refine k_if_eq (tgt := 33) X dX6_lacks_26 (by decide) (fun c26 => ?_) (fun c26 => absurd (show (nI 0) = 0 by decide) c26)
        refine k_iconst (v := (nI 3)) X dX6_lacks_33 (by decide) ?_
        refine k_callV (rest := []) X kv_X6_refused kb_183 (m_refused X.tr h (nI 3) (nI 1) (by decide)) h.1 rfl rfl rfl rfl rfl (Nat.le_of_ble_eq_true rfl) ⟨by rw [hR]; exact Nat.le_of_ble_eq_true rfl, by rw [hR]; exact Nat.le_of_ble_eq_true rfl⟩ ⟨by rw [hR]; exact Nat.le_of_ble_eq_true rfl, by rw [hR]; exact Nat.le_of_ble_eq_true rfl⟩ dX6_lacks_34 (fun v34 C9 L9 h9 => ?_)
        obtain ⟨rfl, rfl, g4, h4⟩ := h9
        have f4 := kFm.tr kFm.rf g4
        exact k_zret X hE kz1 dX6_lacks_37 (by first | omega | exact Nat.le_of_ble_eq_true rfl | (dsimp only; omega)) (by first | omega | exact Nat.le_of_ble_eq_true rfl | (dsimp only; omega)) ⟨Or.inr (Or.inr (Or.inr (⟨d, hd, rfl, c13, ph, rfl, h4⟩))), rfl, f4⟩
    ·
      refine k_iconst (v := (nI 2)) X dX6_lacks_16 (by decide) ?_
      refine k_goto (tgt := 34) X dX6_lacks_17 (by decide) ?_
      refine k_callV (rest := []) X kv_X6_refused kb_183 (m_refused X.tr h (nI 2) (nI 1) (by decide)) h.1 rfl rfl rfl rfl rfl (Nat.le_of_ble_eq_true rfl) ⟨by rw [hR]; exact Nat.le_of_ble_eq_true rfl, by rw [hR]; exact Nat.le_of_ble_eq_true rfl⟩ ⟨by rw [hR]; exact Nat.le_of_ble_eq_true rfl, by rw [hR]; exact Nat.le_of_ble_eq_true rfl⟩ dX6_lacks_34 (fun v34 C9 L9 h9 => ?_)
      obtain ⟨rfl, rfl, g5, h5⟩ := h9
      have f5 := kFm.tr kFm.rf g5
      exact k_zret X hE kz1 dX6_lacks_37 (by first | omega | exact Nat.le_of_ble_eq_true rfl | (dsimp only; omega)) (by first | omega | exact Nat.le_of_ble_eq_true rfl | (dsimp only; omega)) ⟨Or.inr (Or.inr (Or.inl (⟨pd, c13, rfl, h5⟩))), rfl, f5⟩
  ·
    refine k_if_ne (tgt := 12) X dX6_lacks_5 (by decide) (fun c5 => absurd c5 (show ¬ (¬ (nI 0) = 0) by decide)) (fun c5 => ?_)
    refine k_iconst (v := (nI 1)) X dX6_lacks_8 (by decide) ?_
    refine k_goto (tgt := 34) X dX6_lacks_9 (by decide) ?_
    refine k_callV (rest := []) X kv_X6_refused kb_183 (m_refused X.tr h (nI 1) (nI 1) (by decide)) h.1 rfl rfl rfl rfl rfl (Nat.le_of_ble_eq_true rfl) ⟨by rw [hR]; exact Nat.le_of_ble_eq_true rfl, by rw [hR]; exact Nat.le_of_ble_eq_true rfl⟩ ⟨by rw [hR]; exact Nat.le_of_ble_eq_true rfl, by rw [hR]; exact Nat.le_of_ble_eq_true rfl⟩ dX6_lacks_34 (fun v34 C9 L9 h9 => ?_)
    obtain ⟨rfl, rfl, g6, h6⟩ := h9
    have f6 := kFm.tr kFm.rf g6
    exact k_zret X hE kz1 dX6_lacks_37 (by first | omega | exact Nat.le_of_ble_eq_true rfl | (dsimp only; omega)) (by first | omega | exact Nat.le_of_ble_eq_true rfl | (dsimp only; omega)) ⟨Or.inr (Or.inl (⟨pd, rfl, h6⟩)), rfl, f6⟩

set_option maxHeartbeats 4000000 in
set_option maxRecDepth 100000 in
theorem m_heldValue {l : Launch} (htr : l.stackTraces = false) {E : kE} {A : Nat → Prop} {C : kC} {L : kL} {R : Int32} {M : kM2} {Q : kQ2} (h : isM E C L R M Q) (hq : Q 1 0 ≤ 40) (hz : ∀ p, M 7 p = nI 0 ∨ M 7 p = nI 1) (ho : ∀ d, d < 4 → Q 10 d ≤ 512) (dv job f : Int32) : kM l yX6_heldValue cX6_heldValue 5 (some .int) 5 113 0 0 E A C L [.ref (L (30, 0, 0)), .int dv, .int job, .int f] (fun v C' L' => ((∃ d f0, d < 4 ∧ dv = nI d ∧ f0 ≤ 1 ∧ f = nI f0 ∧ ((∃ n, n < Q 1 0 ∧ mNm M Q d job (nI n) ∧ M 7 (40 * d + n) = nI 1 ∧ v = some (.int (M 8 (2 * (40 * d + n) + f0)))) ∨ (∃ k, k < Q 10 d ∧ ¬ kix (nI (1000 + k)) (Q 1 0) ∧ mNm M Q d job (nI (1000 + k)) ∧ v = some (.int (M 12 (2 * (600 * d + k) + f0))))) ∧ isM E C' L (nI 0) M Q) ∨ (¬ kix dv 4 ∧ v = some (.int (nI 0)) ∧ isM E C' L (nI 1) M Q) ∨ (kix dv 4 ∧ ¬ (kin f (nI 0) (nI 1)) ∧ v = some (.int (nI 0)) ∧ isM E C' L (nI 2) M Q) ∨ (∃ d, d < 4 ∧ dv = nI d ∧ (kin f (nI 0) (nI 1)) ∧ mHs M Q d job 0 ∧ v = some (.int (nI 0)) ∧ isM E C' L (nI 3) M Q)) ∧ L = L' ∧ kFm C C') := by
  refine kM.of htr (by decide) (Nat.le_of_ble_eq_true rfl) (fun Γ hl hR hN hnm X hE => ?_)
  refine k_lo (lo' := [(0, .ref (L (30, 0, 0))), (1, .int dv), (2, .int job), (3, .int f)]) ⟨rfl, rfl, rfl, rfl, trivial⟩ ?_
  refine k_aload_n X dX6_heldValue_0 rfl rfl ?_
  refine k_iload_n X dX6_heldValue_1 rfl rfl ?_
  refine k_iload_n X dX6_heldValue_2 rfl rfl ?_
  refine k_iload_n X dX6_heldValue_3 rfl rfl ?_
  refine k_callS (rest := [.int job, .int dv, .ref (L (30, 0, 0))]) X ks_X6_isField kb_265 (m_isField X.tr f) rfl rfl (Nat.le_of_ble_eq_true rfl) ⟨by rw [hR]; exact Nat.le_of_ble_eq_true rfl, by rw [hR]; exact Nat.le_of_ble_eq_true rfl⟩ ⟨by rw [hR]; exact Nat.le_of_ble_eq_true rfl, by rw [hR]; exact Nat.le_of_ble_eq_true rfl⟩ dX6_heldValue_4 (fun v4 C9 L9 h9 => ?_)
  obtain ⟨(⟨pf, rfl⟩ | ⟨pf, rfl⟩), rfl, rfl⟩ := h9
  ·
    refine k_callV (rest := []) X kv_X6_lacks kb_463 (m_lacks X.tr h hq hz ho dv job (nI 1)) h.1 rfl rfl rfl rfl rfl (Nat.le_of_ble_eq_true rfl) ⟨by rw [hR]; exact Nat.le_of_ble_eq_true rfl, by rw [hR]; exact Nat.le_of_ble_eq_true rfl⟩ ⟨by rw [hR]; exact Nat.le_of_ble_eq_true rfl, by rw [hR]; exact Nat.le_of_ble_eq_true rfl⟩ dX6_heldValue_7 (fun v7 C9 L9 h9 => ?_)
    obtain ⟨(⟨d, hd, rfl, pw, ph, rfl, h2⟩ | ⟨pd, rfl, h2⟩ | ⟨pd, pw, rfl, h2⟩ | ⟨d, hd, rfl, pw, ph, rfl, h2⟩), rfl, g2⟩ := h9
    ·
      have f2 := kFm.tr kFm.rf g2
      obtain ⟨f0, hf0a, hf0, rfl⟩ := pf.ex (by decide) (by decide)
      refine k_if_eq (tgt := 15) X dX6_heldValue_10 (by decide) (fun c10 => ?_) (fun c10 => absurd (show (nI 0) = 0 by decide) c10)
      refine k_aload_n X dX6_heldValue_15 rfl rfl ?_
      refine k_iload_n X dX6_heldValue_16 rfl rfl ?_
      refine k_iload_n X dX6_heldValue_17 rfl rfl ?_
      refine k_callV (rest := []) X kv_X6_named kb_441 (m_named X.tr h2 hd (ho d hd) job) h2.1 rfl rfl rfl rfl rfl (Nat.le_of_ble_eq_true rfl) ⟨by rw [hR]; exact Nat.le_of_ble_eq_true rfl, by rw [hR]; exact Nat.le_of_ble_eq_true rfl⟩ ⟨by rw [hR]; exact Nat.le_of_ble_eq_true rfl, by rw [hR]; exact Nat.le_of_ble_eq_true rfl⟩ dX6_heldValue_18 (fun v18 C9 L9 h9 => ?_)
      obtain ⟨⟨r, rfl, hr⟩, rfl, rfl⟩ := h9
      obtain ⟨r2, hr2, hcase⟩ := ph
      have er := mNm.un (ho d hd) hr2 hr
      subst er
      rcases hcase with ⟨n, hn, rfl, hm7⟩ | ⟨pnj, ⟨_, k, hk, rfl⟩ | ⟨hb0, _⟩⟩
      ·
        refine k_istore X dX6_heldValue_21 (by rw [hN]; decide) ?_
        refine k_aload_n X dX6_heldValue_23 rfl rfl ?_
        refine k_iload X dX6_heldValue_24 rfl ?_
        refine k_callV (rest := []) X kv_X6_isJob kb_232 (m_isJob X.tr h2 hq (nI n)) h2.1 rfl rfl rfl rfl rfl (Nat.le_of_ble_eq_true rfl) ⟨by rw [hR]; exact Nat.le_of_ble_eq_true rfl, by rw [hR]; exact Nat.le_of_ble_eq_true rfl⟩ ⟨by rw [hR]; exact Nat.le_of_ble_eq_true rfl, by rw [hR]; exact Nat.le_of_ble_eq_true rfl⟩ dX6_heldValue_26 (fun v26 C9 L9 h9 => ?_)
        obtain ⟨h9, rfl, rfl⟩ := h9
        obtain ⟨_, rfl⟩ := h9.resolve_right (fun z => z.1 (kix.of hn (by omega)))
        refine k_if_eq (tgt := 51) X dX6_heldValue_29 (by decide) (fun c29 => absurd c29 (show ¬ ((nI 1) = 0) by decide)) (fun c29 => ?_)
        refine k_aload_n X dX6_heldValue_32 rfl rfl ?_
        refine k_get0 X h2.1 (q := (RX6, TX6, 25)) rfl inlX6 8 (by decide) kb_64 (Or.inl rfl) rfl rfl dX6_heldValue_33 ?_
        refine k_iconst (v := (nI 2)) X dX6_heldValue_36 (by decide) ?_
        refine k_bipush (v := (nI 40)) X dX6_heldValue_37 (by decide) ?_
        refine k_iload_n X dX6_heldValue_39 rfl rfl ?_
        refine k_imulN X dX6_heldValue_40 ?_
        refine k_iload X dX6_heldValue_41 rfl ?_
        refine k_iaddN X dX6_heldValue_43 ?_
        refine k_imulN X dX6_heldValue_44 ?_
        refine k_iload_n X dX6_heldValue_45 rfl rfl ?_
        refine k_iaddN X dX6_heldValue_46 ?_
        refine k_mld X h2 8 (i := (2 * ((40 * d) + n)) + f0) rfl (by decide) (show (2 * ((40 * d) + n)) + f0 < 320 by omega) dX6_heldValue_47 ?_
        refine k_goto (tgt := 67) X dX6_heldValue_48 (by decide) ?_
        exact k_iret X hE dX6_heldValue_67 (by first | omega | exact Nat.le_of_ble_eq_true rfl | (dsimp only; omega)) (by first | omega | exact Nat.le_of_ble_eq_true rfl | (dsimp only; omega)) ⟨Or.inl (⟨d, f0, hd, rfl, hf0, rfl, Or.inl ⟨n, hn, hr, hm7, rfl⟩, h2⟩), rfl, f2⟩
      ·
        refine k_istore X dX6_heldValue_21 (by rw [hN]; decide) ?_
        refine k_aload_n X dX6_heldValue_23 rfl rfl ?_
        refine k_iload X dX6_heldValue_24 rfl ?_
        refine k_callV (rest := []) X kv_X6_isJob kb_232 (m_isJob X.tr h2 hq (nI (1000 + k))) h2.1 rfl rfl rfl rfl rfl (Nat.le_of_ble_eq_true rfl) ⟨by rw [hR]; exact Nat.le_of_ble_eq_true rfl, by rw [hR]; exact Nat.le_of_ble_eq_true rfl⟩ ⟨by rw [hR]; exact Nat.le_of_ble_eq_true rfl, by rw [hR]; exact Nat.le_of_ble_eq_true rfl⟩ dX6_heldValue_26 (fun v26 C9 L9 h9 => ?_)
        obtain ⟨h9, rfl, rfl⟩ := h9
        obtain ⟨_, rfl⟩ := h9.resolve_left (fun z => pnj z.1)
        refine k_if_eq (tgt := 51) X dX6_heldValue_29 (by decide) (fun c29 => ?_) (fun c29 => absurd (show (nI 0) = 0 by decide) c29)
        refine k_aload_n X dX6_heldValue_51 rfl rfl ?_
        refine k_get0 X h2.1 (q := (RX6, TX6, 25)) rfl inlX6 12 (by decide) kb_68 (Or.inl rfl) rfl rfl dX6_heldValue_52 ?_
        refine k_iconst (v := (nI 2)) X dX6_heldValue_55 (by decide) ?_
        refine k_aload_n X dX6_heldValue_56 rfl rfl ?_
        refine k_iload_n X dX6_heldValue_57 rfl rfl ?_
        refine k_iload X dX6_heldValue_58 rfl ?_
        refine k_callV (rest := [.int (nI 2), .ref (L (42, 0, 0))]) X kv_X6_ownPlace kb_445 (m_ownPlace X.tr h2 hd (ho d hd) (nI (1000 + k))) h2.1 rfl rfl rfl rfl rfl (Nat.le_of_ble_eq_true rfl) ⟨by rw [hR]; exact Nat.le_of_ble_eq_true rfl, by rw [hR]; exact Nat.le_of_ble_eq_true rfl⟩ ⟨by rw [hR]; exact Nat.le_of_ble_eq_true rfl, by rw [hR]; exact Nat.le_of_ble_eq_true rfl⟩ dX6_heldValue_60 (fun v60 C9 L9 h9 => ?_)
        obtain ⟨⟨_, rfl, h9⟩, rfl, rfl⟩ := h9
        obtain ⟨k2, hk2, hx2, rfl⟩ := h9.resolve_right (fun z => z.1 k hk rfl)
        have ho1 := ho d hd
        have ek := kown_inj hx2 (by omega) (by omega)
        subst ek
        refine k_imulN X dX6_heldValue_63 ?_
        refine k_iload_n X dX6_heldValue_64 rfl rfl ?_
        refine k_iaddN X dX6_heldValue_65 ?_
        refine k_mld X h2 12 (i := (2 * (600 * d + k)) + f0) rfl (by decide) (show (2 * (600 * d + k)) + f0 < 4800 by omega) dX6_heldValue_66 ?_
        exact k_iret X hE dX6_heldValue_67 (by first | omega | exact Nat.le_of_ble_eq_true rfl | (dsimp only; omega)) (by first | omega | exact Nat.le_of_ble_eq_true rfl | (dsimp only; omega)) ⟨Or.inl (⟨d, f0, hd, rfl, hf0, rfl, Or.inr ⟨k, hk, pnj, hr, rfl⟩, h2⟩), rfl, f2⟩
      · exact absurd hb0 (by decide)
    ·
      have f2 := kFm.tr kFm.rf g2
      refine k_if_eq (tgt := 15) X dX6_heldValue_10 (by decide) (fun c10 => absurd c10 (show ¬ ((nI 1) = 0) by decide)) (fun c10 => ?_)
      refine k_iconst (v := (nI 0)) X dX6_heldValue_13 (by decide) ?_
      exact k_iret X hE dX6_heldValue_14 (by first | omega | exact Nat.le_of_ble_eq_true rfl | (dsimp only; omega)) (by first | omega | exact Nat.le_of_ble_eq_true rfl | (dsimp only; omega)) ⟨Or.inr (Or.inl (⟨pd, rfl, h2⟩)), rfl, f2⟩
    ·
      have f2 := kFm.tr kFm.rf g2
      refine k_if_eq (tgt := 15) X dX6_heldValue_10 (by decide) (fun c10 => absurd c10 (show ¬ ((nI 1) = 0) by decide)) (fun c10 => ?_)
      refine k_iconst (v := (nI 0)) X dX6_heldValue_13 (by decide) ?_
      exact k_iret X hE dX6_heldValue_14 (by first | omega | exact Nat.le_of_ble_eq_true rfl | (dsimp only; omega)) (by first | omega | exact Nat.le_of_ble_eq_true rfl | (dsimp only; omega)) ⟨Or.inr (Or.inr (Or.inl (⟨pd, by first | exact pf | exact absurd pw (by decide), rfl, h2⟩))), rfl, f2⟩
    ·
      have f2 := kFm.tr kFm.rf g2
      refine k_if_eq (tgt := 15) X dX6_heldValue_10 (by decide) (fun c10 => absurd c10 (show ¬ ((nI 1) = 0) by decide)) (fun c10 => ?_)
      refine k_iconst (v := (nI 0)) X dX6_heldValue_13 (by decide) ?_
      exact k_iret X hE dX6_heldValue_14 (by first | omega | exact Nat.le_of_ble_eq_true rfl | (dsimp only; omega)) (by first | omega | exact Nat.le_of_ble_eq_true rfl | (dsimp only; omega)) ⟨Or.inr (Or.inr (Or.inr (⟨d, hd, rfl, pf, ph, rfl, h2⟩))), rfl, f2⟩
  ·
    refine k_callV (rest := []) X kv_X6_lacks kb_463 (m_lacks X.tr h hq hz ho dv job (nI 0)) h.1 rfl rfl rfl rfl rfl (Nat.le_of_ble_eq_true rfl) ⟨by rw [hR]; exact Nat.le_of_ble_eq_true rfl, by rw [hR]; exact Nat.le_of_ble_eq_true rfl⟩ ⟨by rw [hR]; exact Nat.le_of_ble_eq_true rfl, by rw [hR]; exact Nat.le_of_ble_eq_true rfl⟩ dX6_heldValue_7 (fun v7 C9 L9 h9 => ?_)
    obtain ⟨(⟨d, hd, rfl, pw, ph, rfl, h8⟩ | ⟨pd, rfl, h8⟩ | ⟨pd, pw, rfl, h8⟩ | ⟨d, hd, rfl, pw, ph, rfl, h8⟩), rfl, g8⟩ := h9
    ·
      have f8 := kFm.tr kFm.rf g8
      exact absurd (show nI 0 = 0 by decide) pw
    ·
      have f8 := kFm.tr kFm.rf g8
      refine k_if_eq (tgt := 15) X dX6_heldValue_10 (by decide) (fun c10 => absurd c10 (show ¬ ((nI 1) = 0) by decide)) (fun c10 => ?_)
      refine k_iconst (v := (nI 0)) X dX6_heldValue_13 (by decide) ?_
      exact k_iret X hE dX6_heldValue_14 (by first | omega | exact Nat.le_of_ble_eq_true rfl | (dsimp only; omega)) (by first | omega | exact Nat.le_of_ble_eq_true rfl | (dsimp only; omega)) ⟨Or.inr (Or.inl (⟨pd, rfl, h8⟩)), rfl, f8⟩
    ·
      have f8 := kFm.tr kFm.rf g8
      refine k_if_eq (tgt := 15) X dX6_heldValue_10 (by decide) (fun c10 => absurd c10 (show ¬ ((nI 1) = 0) by decide)) (fun c10 => ?_)
      refine k_iconst (v := (nI 0)) X dX6_heldValue_13 (by decide) ?_
      exact k_iret X hE dX6_heldValue_14 (by first | omega | exact Nat.le_of_ble_eq_true rfl | (dsimp only; omega)) (by first | omega | exact Nat.le_of_ble_eq_true rfl | (dsimp only; omega)) ⟨Or.inr (Or.inr (Or.inl (⟨pd, by first | exact pf | exact absurd pw (by decide), rfl, h8⟩))), rfl, f8⟩
    ·
      have f8 := kFm.tr kFm.rf g8
      exact absurd (show nI 0 = 0 by decide) pw

set_option maxHeartbeats 4000000 in
set_option maxRecDepth 100000 in
theorem m_note {l : Launch} (htr : l.stackTraces = false) {E : kE} {A : Nat → Prop} {C : kC} {L : kL} {R : Int32} {M : kM2} {Q : kQ2} (h : isM E C L R M Q) (hqa : Q 14 0 < 600) (d : Nat) (j f x y : Int32) : kM l yX6_note cX6_note 6 none 0 0 0 0 E A C L [.ref (L (30, 0, 0)), .int (nI d), .int j, .int f, .int x, .int y] (fun v C' L' => v = none ∧ L = L' ∧ kFm C C' ∧ isM E C' L R (w2 (w2 (w2 (w2 (w2 M 15 (Q 14 0) (nI d)) 16 (Q 14 0) j) 17 (Q 14 0) f) 18 (Q 14 0) x) 19 (Q 14 0) y) (w2 Q 14 0 (Q 14 0 + 1))) := by
  refine kM.of htr (by decide) (Nat.le_of_ble_eq_true rfl) (fun Γ hl hR hN hnm X hE => ?_)
  refine k_lo (lo' := [(0, .ref (L (30, 0, 0))), (1, .int (nI d)), (2, .int j), (3, .int f), (4, .int x), (5, .int y)]) ⟨rfl, rfl, rfl, rfl, rfl, rfl, trivial⟩ ?_
  refine k_aload_n X dX6_note_0 rfl rfl ?_
  refine k_get0 X h.1 (q := (RX6, TX6, 25)) rfl inlX6 15 (by decide) kb_70 (Or.inl rfl) rfl rfl dX6_note_1 ?_
  refine k_aload_n X dX6_note_4 rfl rfl ?_
  refine k_get0 X h.1 (q := (RX6, TX6, 25)) rfl inlX6 14 (by decide) kb_509 (Or.inl rfl) rfl rfl dX6_note_5 ?_
  refine k_iload_n X dX6_note_8 rfl rfl ?_
  refine k_mst X h kFm.rf 15 (i := Q 14 0) rfl (by decide) (show Q 14 0 < 600 by omega) dX6_note_9 (fun C1 h1 f1 => ?_)
  refine k_aload_n X dX6_note_10 rfl rfl ?_
  refine k_get0 X h1.1 (q := (RX6, TX6, 25)) rfl inlX6 16 (by decide) kb_71 (Or.inl rfl) rfl rfl dX6_note_11 ?_
  refine k_aload_n X dX6_note_14 rfl rfl ?_
  refine k_get0 X h1.1 (q := (RX6, TX6, 25)) rfl inlX6 14 (by decide) kb_509 (Or.inl rfl) rfl rfl dX6_note_15 ?_
  refine k_iload_n X dX6_note_18 rfl rfl ?_
  refine k_mst X h1 f1 16 (i := Q 14 0) rfl (by decide) (show Q 14 0 < 600 by omega) dX6_note_19 (fun C2 h2 f2 => ?_)
  refine k_aload_n X dX6_note_20 rfl rfl ?_
  refine k_get0 X h2.1 (q := (RX6, TX6, 25)) rfl inlX6 17 (by decide) kb_72 (Or.inl rfl) rfl rfl dX6_note_21 ?_
  refine k_aload_n X dX6_note_24 rfl rfl ?_
  refine k_get0 X h2.1 (q := (RX6, TX6, 25)) rfl inlX6 14 (by decide) kb_509 (Or.inl rfl) rfl rfl dX6_note_25 ?_
  refine k_iload_n X dX6_note_28 rfl rfl ?_
  refine k_mst X h2 f2 17 (i := Q 14 0) rfl (by decide) (show Q 14 0 < 600 by omega) dX6_note_29 (fun C3 h3 f3 => ?_)
  refine k_aload_n X dX6_note_30 rfl rfl ?_
  refine k_get0 X h3.1 (q := (RX6, TX6, 25)) rfl inlX6 18 (by decide) kb_73 (Or.inl rfl) rfl rfl dX6_note_31 ?_
  refine k_aload_n X dX6_note_34 rfl rfl ?_
  refine k_get0 X h3.1 (q := (RX6, TX6, 25)) rfl inlX6 14 (by decide) kb_509 (Or.inl rfl) rfl rfl dX6_note_35 ?_
  refine k_iload X dX6_note_38 rfl ?_
  refine k_mst X h3 f3 18 (i := Q 14 0) rfl (by decide) (show Q 14 0 < 600 by omega) dX6_note_40 (fun C4 h4 f4 => ?_)
  refine k_aload_n X dX6_note_41 rfl rfl ?_
  refine k_get0 X h4.1 (q := (RX6, TX6, 25)) rfl inlX6 19 (by decide) kb_74 (Or.inl rfl) rfl rfl dX6_note_42 ?_
  refine k_aload_n X dX6_note_45 rfl rfl ?_
  refine k_get0 X h4.1 (q := (RX6, TX6, 25)) rfl inlX6 14 (by decide) kb_509 (Or.inl rfl) rfl rfl dX6_note_46 ?_
  refine k_iload X dX6_note_49 rfl ?_
  refine k_mst X h4 f4 19 (i := Q 14 0) rfl (by decide) (show Q 14 0 < 600 by omega) dX6_note_51 (fun C5 h5 f5 => ?_)
  refine k_aload_n X dX6_note_52 rfl rfl ?_
  refine k_dup X dX6_note_53 rfl ?_
  refine k_get0 X h5.1 (q := (RX6, TX6, 25)) rfl inlX6 14 (by decide) kb_509 (Or.inl rfl) rfl rfl dX6_note_54 ?_
  refine k_iconst (v := (nI 1)) X dX6_note_57 (by decide) ?_
  refine k_iaddN X dX6_note_58 ?_
  refine k_put1 X h5.1 (fs9 := [.int R, .int (nI (Q 1 0)), .ref (L (32, 0, 0)), .ref (L (33, 0, 0)), .ref (L (34, 0, 0)), .ref (L (35, 0, 0)), .ref (L (36, 0, 0)), .ref (L (37, 0, 0)), .ref (L (38, 0, 0)), .ref (L (39, 0, 0)), .ref (L (40, 0, 0)), .ref (L (41, 0, 0)), .ref (L (42, 0, 0)), .ref (L (43, 0, 0)), .int (nI ((Q 14 0) + 1)), .ref (L (45, 0, 0)), .ref (L (46, 0, 0)), .ref (L (47, 0, 0)), .ref (L (48, 0, 0)), .ref (L (49, 0, 0)), .ref (L (50, 0, 0)), .int (nI (Q 21 0)), .ref (L (52, 0, 0)), .ref (L (53, 0, 0)), .int ((w2 (w2 (w2 (w2 (w2 M 15 (Q 14 0) (nI d)) 16 (Q 14 0) j) 17 (Q 14 0) f) 18 (Q 14 0) x) 19 (Q 14 0) y) 24 0)]) (q := (RX6, TX6, 25)) rfl inlX6 tyX6 tyX6_ok nmX6 14 (by decide) kb_509 (Or.inl rfl) (Or.inl rfl) rfl rfl rfl (Nat.le_of_ble_eq_true rfl) rfl dX6_note_59 ?_
  refine k_abs (fun C' => isM E C' L R (w2 (w2 (w2 (w2 (w2 M 15 (Q 14 0) (nI d)) 16 (Q 14 0) j) 17 (Q 14 0) f) 18 (Q 14 0) x) 19 (Q 14 0) y) (w2 Q 14 0 ((Q 14 0) + 1)) ∧ kFm C C') ⟨isM.obj (R' := R) (M' := (w2 (w2 (w2 (w2 (w2 M 15 (Q 14 0) (nI d)) 16 (Q 14 0) j) 17 (Q 14 0) f) 18 (Q 14 0) x) 19 (Q 14 0) y)) (Q' := (w2 Q 14 0 ((Q 14 0) + 1))) h5 (fun _ _ => rfl) (fun b h1 h2 h3 => w2_row b (by omega)), kFm.up f5 (by decide)⟩ (fun C6 g6 => ?_)
  obtain ⟨h6, f6⟩ := g6
  exact k_vret X hE dX6_note_62 (by first | omega | exact Nat.le_of_ble_eq_true rfl | (dsimp only; omega)) (by first | omega | exact Nat.le_of_ble_eq_true rfl | (dsimp only; omega)) ⟨rfl, rfl, f6, h6⟩

set_option maxHeartbeats 4000000 in
set_option maxRecDepth 100000 in
theorem m_change {l : Launch} (htr : l.stackTraces = false) {E : kE} {A : Nat → Prop} {C : kC} {L : kL} {R : Int32} {M : kM2} {Q : kQ2} (h : isM E C L R M Q) (hq : Q 1 0 ≤ 40) (hz : ∀ p, M 7 p = nI 0 ∨ M 7 p = nI 1) (ho : ∀ d, d < 4 → Q 10 d ≤ 512) (hqa : Q 14 0 < 600) (dv job f x : Int32) : kM l yX6_change cX6_change 7 (some .int) 5 113 0 0 E A C L [.ref (L (30, 0, 0)), .int dv, .int job, .int f, .int x] (fun v C' L' => ((∃ d f0, d < 4 ∧ dv = nI d ∧ f0 ≤ 1 ∧ f = nI f0 ∧ (kin f (nI 0) (nI 1) ∧ kin x (nI 0) (if f = nI 0 then nI 2 else nI 10000)) ∧ ((∃ n, n < Q 1 0 ∧ mNm M Q d job (nI n) ∧ M 7 (40 * d + n) = nI 1 ∧ v = some (.int (nI (kcn (mWt (w2 (w2 (w2 (w2 (w2 (w2 (w2 M 15 (Q 14 0) (nI d)) 16 (Q 14 0) (nI n)) 17 (Q 14 0) (nI f0)) 18 (Q 14 0) x) 19 (Q 14 0) (M 9 (2 * (40 * d + n) + f0))) 8 (2 * (40 * d + n) + f0) x) 9 (2 * (40 * d + n) + f0) (M 9 (2 * (40 * d + n) + f0) + nI 1)) d) (w2 Q 14 0 (Q 14 0 + 1) 14 0)))) ∧ isM E C' L (nI 0) (w2 (w2 (w2 (w2 (w2 (w2 (w2 M 15 (Q 14 0) (nI d)) 16 (Q 14 0) (nI n)) 17 (Q 14 0) (nI f0)) 18 (Q 14 0) x) 19 (Q 14 0) (M 9 (2 * (40 * d + n) + f0))) 8 (2 * (40 * d + n) + f0) x) 9 (2 * (40 * d + n) + f0) (M 9 (2 * (40 * d + n) + f0) + nI 1)) (w2 Q 14 0 (Q 14 0 + 1))) ∨ (∃ k, k < Q 10 d ∧ ¬ kix (nI (1000 + k)) (Q 1 0) ∧ mNm M Q d job (nI (1000 + k)) ∧ v = some (.int (nI (kcn (mWt (w2 (w2 (w2 (w2 (w2 (w2 (w2 M 15 (Q 14 0) (nI d)) 16 (Q 14 0) (nI (1000 + k))) 17 (Q 14 0) (nI f0)) 18 (Q 14 0) x) 19 (Q 14 0) (M 13 (2 * (600 * d + k) + f0))) 12 (2 * (600 * d + k) + f0) x) 13 (2 * (600 * d + k) + f0) (M 13 (2 * (600 * d + k) + f0) + nI 1)) d) (w2 Q 14 0 (Q 14 0 + 1) 14 0)))) ∧ isM E C' L (nI 0) (w2 (w2 (w2 (w2 (w2 (w2 (w2 M 15 (Q 14 0) (nI d)) 16 (Q 14 0) (nI (1000 + k))) 17 (Q 14 0) (nI f0)) 18 (Q 14 0) x) 19 (Q 14 0) (M 13 (2 * (600 * d + k) + f0))) 12 (2 * (600 * d + k) + f0) x) 13 (2 * (600 * d + k) + f0) (M 13 (2 * (600 * d + k) + f0) + nI 1)) (w2 Q 14 0 (Q 14 0 + 1))))) ∨ (¬ kix dv 4 ∧ v = some (.int (nI 0)) ∧ isM E C' L (nI 1) M Q) ∨ (kix dv 4 ∧ ¬ (kin f (nI 0) (nI 1) ∧ kin x (nI 0) (if f = nI 0 then nI 2 else nI 10000)) ∧ v = some (.int (nI 0)) ∧ isM E C' L (nI 2) M Q) ∨ (∃ d, d < 4 ∧ dv = nI d ∧ (kin f (nI 0) (nI 1) ∧ kin x (nI 0) (if f = nI 0 then nI 2 else nI 10000)) ∧ mHs M Q d job 0 ∧ v = some (.int (nI 0)) ∧ isM E C' L (nI 3) M Q)) ∧ L = L' ∧ kFm C C') := by
  refine kM.of htr (by decide) (Nat.le_of_ble_eq_true rfl) (fun Γ hl hR hN hnm X hE => ?_)
  refine k_lo (lo' := [(0, .ref (L (30, 0, 0))), (1, .int dv), (2, .int job), (3, .int f), (4, .int x)]) ⟨rfl, rfl, rfl, rfl, rfl, trivial⟩ ?_
  refine k_aload_n X dX6_change_0 rfl rfl ?_
  refine k_iload_n X dX6_change_1 rfl rfl ?_
  refine k_iload_n X dX6_change_2 rfl rfl ?_
  refine k_iload_n X dX6_change_3 rfl rfl ?_
  refine k_iload X dX6_change_4 rfl ?_
  refine k_callS (rest := [.int job, .int dv, .ref (L (30, 0, 0))]) X ks_X6_isValue kb_262 (m_isValue X.tr f x) rfl rfl (Nat.le_of_ble_eq_true rfl) ⟨by rw [hR]; exact Nat.le_of_ble_eq_true rfl, by rw [hR]; exact Nat.le_of_ble_eq_true rfl⟩ ⟨by rw [hR]; exact Nat.le_of_ble_eq_true rfl, by rw [hR]; exact Nat.le_of_ble_eq_true rfl⟩ dX6_change_6 (fun v6 C9 L9 h9 => ?_)
  obtain ⟨(⟨pf, rfl⟩ | ⟨pf, rfl⟩), rfl, rfl⟩ := h9
  ·
    refine k_callV (rest := []) X kv_X6_lacks kb_463 (m_lacks X.tr h hq hz ho dv job (nI 1)) h.1 rfl rfl rfl rfl rfl (Nat.le_of_ble_eq_true rfl) ⟨by rw [hR]; exact Nat.le_of_ble_eq_true rfl, by rw [hR]; exact Nat.le_of_ble_eq_true rfl⟩ ⟨by rw [hR]; exact Nat.le_of_ble_eq_true rfl, by rw [hR]; exact Nat.le_of_ble_eq_true rfl⟩ dX6_change_9 (fun v9 C9 L9 h9 => ?_)
    obtain ⟨(⟨d, hd, rfl, pw, ph, rfl, h2⟩ | ⟨pd, rfl, h2⟩ | ⟨pd, pw, rfl, h2⟩ | ⟨d, hd, rfl, pw, ph, rfl, h2⟩), rfl, g2⟩ := h9
    ·
      have f2 := kFm.tr kFm.rf g2
      obtain ⟨f0, hf0a, hf0, rfl⟩ := pf.1.ex (by decide) (by decide)
      refine k_if_eq (tgt := 17) X dX6_change_12 (by decide) (fun c12 => ?_) (fun c12 => absurd (show (nI 0) = 0 by decide) c12)
      refine k_aload_n X dX6_change_17 rfl rfl ?_
      refine k_iload_n X dX6_change_18 rfl rfl ?_
      refine k_iload_n X dX6_change_19 rfl rfl ?_
      refine k_callV (rest := []) X kv_X6_named kb_441 (m_named X.tr h2 hd (ho d hd) job) h2.1 rfl rfl rfl rfl rfl (Nat.le_of_ble_eq_true rfl) ⟨by rw [hR]; exact Nat.le_of_ble_eq_true rfl, by rw [hR]; exact Nat.le_of_ble_eq_true rfl⟩ ⟨by rw [hR]; exact Nat.le_of_ble_eq_true rfl, by rw [hR]; exact Nat.le_of_ble_eq_true rfl⟩ dX6_change_20 (fun v20 C9 L9 h9 => ?_)
      obtain ⟨⟨r, rfl, hr⟩, rfl, rfl⟩ := h9
      obtain ⟨r2, hr2, hcase⟩ := ph
      have er := mNm.un (ho d hd) hr2 hr
      subst er
      rcases hcase with ⟨n, hn, rfl, hm7⟩ | ⟨pnj, ⟨_, k, hk, rfl⟩ | ⟨hb0, _⟩⟩
      ·
        refine k_istore X dX6_change_23 (by rw [hN]; decide) ?_
        refine k_aload_n X dX6_change_25 rfl rfl ?_
        refine k_iload X dX6_change_26 rfl ?_
        refine k_callV (rest := []) X kv_X6_isJob kb_232 (m_isJob X.tr h2 hq (nI n)) h2.1 rfl rfl rfl rfl rfl (Nat.le_of_ble_eq_true rfl) ⟨by rw [hR]; exact Nat.le_of_ble_eq_true rfl, by rw [hR]; exact Nat.le_of_ble_eq_true rfl⟩ ⟨by rw [hR]; exact Nat.le_of_ble_eq_true rfl, by rw [hR]; exact Nat.le_of_ble_eq_true rfl⟩ dX6_change_28 (fun v28 C9 L9 h9 => ?_)
        obtain ⟨h9, rfl, rfl⟩ := h9
        obtain ⟨_, rfl⟩ := h9.resolve_right (fun z => z.1 (kix.of hn (by omega)))
        refine k_if_eq (tgt := 87) X dX6_change_31 (by decide) (fun c31 => absurd c31 (show ¬ ((nI 1) = 0) by decide)) (fun c31 => ?_)
        refine k_iconst (v := (nI 2)) X dX6_change_34 (by decide) ?_
        refine k_bipush (v := (nI 40)) X dX6_change_35 (by decide) ?_
        refine k_iload_n X dX6_change_37 rfl rfl ?_
        refine k_imulN X dX6_change_38 ?_
        refine k_iload X dX6_change_39 rfl ?_
        refine k_iaddN X dX6_change_41 ?_
        refine k_imulN X dX6_change_42 ?_
        refine k_iload_n X dX6_change_43 rfl rfl ?_
        refine k_iaddN X dX6_change_44 ?_
        refine k_istore X dX6_change_45 (by rw [hN]; decide) ?_
        refine k_aload_n X dX6_change_47 rfl rfl ?_
        refine k_iload_n X dX6_change_48 rfl rfl ?_
        refine k_iload X dX6_change_49 rfl ?_
        refine k_iload_n X dX6_change_51 rfl rfl ?_
        refine k_iload X dX6_change_52 rfl ?_
        refine k_aload_n X dX6_change_54 rfl rfl ?_
        refine k_get0 X h2.1 (q := (RX6, TX6, 25)) rfl inlX6 9 (by decide) kb_65 (Or.inl rfl) rfl rfl dX6_change_55 ?_
        refine k_iload X dX6_change_58 rfl ?_
        refine k_mld X h2 9 (i := (2 * ((40 * d) + n)) + f0) rfl (by decide) (show (2 * ((40 * d) + n)) + f0 < 320 by omega) dX6_change_60 ?_
        refine k_callV (rest := []) X kv_X6_note kb_505 (m_note X.tr h2 hqa d (nI n) (nI f0) x (M 9 ((2 * ((40 * d) + n)) + f0))) h2.1 rfl rfl rfl rfl rfl (Nat.le_of_ble_eq_true rfl) ⟨by rw [hR]; exact Nat.le_of_ble_eq_true rfl, by rw [hR]; exact Nat.le_of_ble_eq_true rfl⟩ ⟨by rw [hR]; exact Nat.le_of_ble_eq_true rfl, by rw [hR]; exact Nat.le_of_ble_eq_true rfl⟩ dX6_change_61 (fun v61 C9 L9 h9 => ?_)
        obtain ⟨rfl, rfl, g5, h5⟩ := h9
        have f5 := kFm.tr f2 g5
        refine k_aload_n X dX6_change_64 rfl rfl ?_
        refine k_get0 X h5.1 (q := (RX6, TX6, 25)) rfl inlX6 8 (by decide) kb_64 (Or.inl rfl) rfl rfl dX6_change_65 ?_
        refine k_iload X dX6_change_68 rfl ?_
        refine k_iload X dX6_change_70 rfl ?_
        refine k_mst X h5 f5 8 (i := (2 * ((40 * d) + n)) + f0) rfl (by decide) (show (2 * ((40 * d) + n)) + f0 < 320 by omega) dX6_change_72 (fun C6 h6 f6 => ?_)
        refine k_aload_n X dX6_change_73 rfl rfl ?_
        refine k_get0 X h6.1 (q := (RX6, TX6, 25)) rfl inlX6 9 (by decide) kb_65 (Or.inl rfl) rfl rfl dX6_change_74 ?_
        refine k_iload X dX6_change_77 rfl ?_
        refine k_dup2 X dX6_change_79 rfl rfl ?_
        refine k_mld X h6 9 (i := (2 * ((40 * d) + n)) + f0) rfl (by decide) (show (2 * ((40 * d) + n)) + f0 < 320 by omega) dX6_change_80 ?_
        refine k_rw (y := (M 9 ((2 * ((40 * d) + n)) + f0))) ((w2_a (by decide)).trans ((w2_a (by decide)).trans ((w2_a (by decide)).trans ((w2_a (by decide)).trans ((w2_a (by decide)).trans (w2_a (by decide))))))) ?_
        refine k_iconst (v := (nI 1)) X dX6_change_81 (by decide) ?_
        refine k_iadd X dX6_change_82 ?_
        refine k_mst X h6 f6 9 (i := (2 * ((40 * d) + n)) + f0) rfl (by decide) (show (2 * ((40 * d) + n)) + f0 < 320 by omega) dX6_change_83 (fun C7 h7 f7 => ?_)
        refine k_goto (tgt := 137) X dX6_change_84 (by decide) ?_
        refine k_aload_n X dX6_change_137 rfl rfl ?_
        refine k_iload_n X dX6_change_138 rfl rfl ?_
        refine k_callV (rest := []) X kv_X6_countWaiting kb_510 (m_countWaiting X.tr h7 (show w2 Q 14 0 (Q 14 0 + 1) 14 0 ≤ 600 by rw [w2_s]; omega) d) h7.1 rfl rfl rfl rfl rfl (Nat.le_of_ble_eq_true rfl) ⟨by rw [hR]; exact Nat.le_of_ble_eq_true rfl, by rw [hR]; exact Nat.le_of_ble_eq_true rfl⟩ ⟨by rw [hR]; exact Nat.le_of_ble_eq_true rfl, by rw [hR]; exact Nat.le_of_ble_eq_true rfl⟩ dX6_change_139 (fun v139 C9 L9 h9 => ?_)
        obtain ⟨rfl, rfl, rfl⟩ := h9
        exact k_iret X hE dX6_change_142 (by first | omega | exact Nat.le_of_ble_eq_true rfl | (dsimp only; omega)) (by first | omega | exact Nat.le_of_ble_eq_true rfl | (dsimp only; omega)) ⟨Or.inl (⟨d, f0, hd, rfl, hf0, rfl, pf, Or.inl ⟨n, hn, hr, hm7, rfl, h7⟩⟩), rfl, f7⟩
      ·
        refine k_istore X dX6_change_23 (by rw [hN]; decide) ?_
        refine k_aload_n X dX6_change_25 rfl rfl ?_
        refine k_iload X dX6_change_26 rfl ?_
        refine k_callV (rest := []) X kv_X6_isJob kb_232 (m_isJob X.tr h2 hq (nI (1000 + k))) h2.1 rfl rfl rfl rfl rfl (Nat.le_of_ble_eq_true rfl) ⟨by rw [hR]; exact Nat.le_of_ble_eq_true rfl, by rw [hR]; exact Nat.le_of_ble_eq_true rfl⟩ ⟨by rw [hR]; exact Nat.le_of_ble_eq_true rfl, by rw [hR]; exact Nat.le_of_ble_eq_true rfl⟩ dX6_change_28 (fun v28 C9 L9 h9 => ?_)
        obtain ⟨h9, rfl, rfl⟩ := h9
        obtain ⟨_, rfl⟩ := h9.resolve_left (fun z => pnj z.1)
        refine k_if_eq (tgt := 87) X dX6_change_31 (by decide) (fun c31 => ?_) (fun c31 => absurd (show (nI 0) = 0 by decide) c31)
        refine k_iconst (v := (nI 2)) X dX6_change_87 (by decide) ?_
        refine k_aload_n X dX6_change_88 rfl rfl ?_
        refine k_iload_n X dX6_change_89 rfl rfl ?_
        refine k_iload X dX6_change_90 rfl ?_
        refine k_callV (rest := [.int (nI 2)]) X kv_X6_ownPlace kb_445 (m_ownPlace X.tr h2 hd (ho d hd) (nI (1000 + k))) h2.1 rfl rfl rfl rfl rfl (Nat.le_of_ble_eq_true rfl) ⟨by rw [hR]; exact Nat.le_of_ble_eq_true rfl, by rw [hR]; exact Nat.le_of_ble_eq_true rfl⟩ ⟨by rw [hR]; exact Nat.le_of_ble_eq_true rfl, by rw [hR]; exact Nat.le_of_ble_eq_true rfl⟩ dX6_change_92 (fun v92 C9 L9 h9 => ?_)
        obtain ⟨⟨_, rfl, h9⟩, rfl, rfl⟩ := h9
        obtain ⟨k2, hk2, hx2, rfl⟩ := h9.resolve_right (fun z => z.1 k hk rfl)
        have ho1 := ho d hd
        have ek := kown_inj hx2 (by omega) (by omega)
        subst ek
        refine k_imulN X dX6_change_95 ?_
        refine k_iload_n X dX6_change_96 rfl rfl ?_
        refine k_iaddN X dX6_change_97 ?_
        refine k_istore X dX6_change_98 (by rw [hN]; decide) ?_
        refine k_aload_n X dX6_change_100 rfl rfl ?_
        refine k_iload_n X dX6_change_101 rfl rfl ?_
        refine k_iload X dX6_change_102 rfl ?_
        refine k_iload_n X dX6_change_104 rfl rfl ?_
        refine k_iload X dX6_change_105 rfl ?_
        refine k_aload_n X dX6_change_107 rfl rfl ?_
        refine k_get0 X h2.1 (q := (RX6, TX6, 25)) rfl inlX6 13 (by decide) kb_69 (Or.inl rfl) rfl rfl dX6_change_108 ?_
        refine k_iload X dX6_change_111 rfl ?_
        refine k_mld X h2 13 (i := (2 * (600 * d + k)) + f0) rfl (by decide) (show (2 * (600 * d + k)) + f0 < 4800 by omega) dX6_change_113 ?_
        refine k_callV (rest := []) X kv_X6_note kb_505 (m_note X.tr h2 hqa d (nI (1000 + k)) (nI f0) x (M 13 ((2 * (600 * d + k)) + f0))) h2.1 rfl rfl rfl rfl rfl (Nat.le_of_ble_eq_true rfl) ⟨by rw [hR]; exact Nat.le_of_ble_eq_true rfl, by rw [hR]; exact Nat.le_of_ble_eq_true rfl⟩ ⟨by rw [hR]; exact Nat.le_of_ble_eq_true rfl, by rw [hR]; exact Nat.le_of_ble_eq_true rfl⟩ dX6_change_114 (fun v114 C9 L9 h9 => ?_)
        obtain ⟨rfl, rfl, g11, h11⟩ := h9
        have f11 := kFm.tr f2 g11
        refine k_aload_n X dX6_change_117 rfl rfl ?_
        refine k_get0 X h11.1 (q := (RX6, TX6, 25)) rfl inlX6 12 (by decide) kb_68 (Or.inl rfl) rfl rfl dX6_change_118 ?_
        refine k_iload X dX6_change_121 rfl ?_
        refine k_iload X dX6_change_123 rfl ?_
        refine k_mst X h11 f11 12 (i := (2 * (600 * d + k)) + f0) rfl (by decide) (show (2 * (600 * d + k)) + f0 < 4800 by omega) dX6_change_125 (fun C12 h12 f12 => ?_)
        refine k_aload_n X dX6_change_126 rfl rfl ?_
        refine k_get0 X h12.1 (q := (RX6, TX6, 25)) rfl inlX6 13 (by decide) kb_69 (Or.inl rfl) rfl rfl dX6_change_127 ?_
        refine k_iload X dX6_change_130 rfl ?_
        refine k_dup2 X dX6_change_132 rfl rfl ?_
        refine k_mld X h12 13 (i := (2 * (600 * d + k)) + f0) rfl (by decide) (show (2 * (600 * d + k)) + f0 < 4800 by omega) dX6_change_133 ?_
        refine k_rw (y := (M 13 ((2 * (600 * d + k)) + f0))) ((w2_a (by decide)).trans ((w2_a (by decide)).trans ((w2_a (by decide)).trans ((w2_a (by decide)).trans ((w2_a (by decide)).trans (w2_a (by decide))))))) ?_
        refine k_iconst (v := (nI 1)) X dX6_change_134 (by decide) ?_
        refine k_iadd X dX6_change_135 ?_
        refine k_mst X h12 f12 13 (i := (2 * (600 * d + k)) + f0) rfl (by decide) (show (2 * (600 * d + k)) + f0 < 4800 by omega) dX6_change_136 (fun C13 h13 f13 => ?_)
        refine k_aload_n X dX6_change_137 rfl rfl ?_
        refine k_iload_n X dX6_change_138 rfl rfl ?_
        refine k_callV (rest := []) X kv_X6_countWaiting kb_510 (m_countWaiting X.tr h13 (show w2 Q 14 0 (Q 14 0 + 1) 14 0 ≤ 600 by rw [w2_s]; omega) d) h13.1 rfl rfl rfl rfl rfl (Nat.le_of_ble_eq_true rfl) ⟨by rw [hR]; exact Nat.le_of_ble_eq_true rfl, by rw [hR]; exact Nat.le_of_ble_eq_true rfl⟩ ⟨by rw [hR]; exact Nat.le_of_ble_eq_true rfl, by rw [hR]; exact Nat.le_of_ble_eq_true rfl⟩ dX6_change_139 (fun v139 C9 L9 h9 => ?_)
        obtain ⟨rfl, rfl, rfl⟩ := h9
        exact k_iret X hE dX6_change_142 (by first | omega | exact Nat.le_of_ble_eq_true rfl | (dsimp only; omega)) (by first | omega | exact Nat.le_of_ble_eq_true rfl | (dsimp only; omega)) ⟨Or.inl (⟨d, f0, hd, rfl, hf0, rfl, pf, Or.inr ⟨k, hk, pnj, hr, rfl, h13⟩⟩), rfl, f13⟩
      · exact absurd hb0 (by decide)
    ·
      have f2 := kFm.tr kFm.rf g2
      refine k_if_eq (tgt := 17) X dX6_change_12 (by decide) (fun c12 => absurd c12 (show ¬ ((nI 1) = 0) by decide)) (fun c12 => ?_)
      refine k_iconst (v := (nI 0)) X dX6_change_15 (by decide) ?_
      exact k_iret X hE dX6_change_16 (by first | omega | exact Nat.le_of_ble_eq_true rfl | (dsimp only; omega)) (by first | omega | exact Nat.le_of_ble_eq_true rfl | (dsimp only; omega)) ⟨Or.inr (Or.inl (⟨pd, rfl, h2⟩)), rfl, f2⟩
    ·
      have f2 := kFm.tr kFm.rf g2
      refine k_if_eq (tgt := 17) X dX6_change_12 (by decide) (fun c12 => absurd c12 (show ¬ ((nI 1) = 0) by decide)) (fun c12 => ?_)
      refine k_iconst (v := (nI 0)) X dX6_change_15 (by decide) ?_
      exact k_iret X hE dX6_change_16 (by first | omega | exact Nat.le_of_ble_eq_true rfl | (dsimp only; omega)) (by first | omega | exact Nat.le_of_ble_eq_true rfl | (dsimp only; omega)) ⟨Or.inr (Or.inr (Or.inl (⟨pd, by first | exact pf | exact absurd pw (by decide), rfl, h2⟩))), rfl, f2⟩
    ·
      have f2 := kFm.tr kFm.rf g2
      refine k_if_eq (tgt := 17) X dX6_change_12 (by decide) (fun c12 => absurd c12 (show ¬ ((nI 1) = 0) by decide)) (fun c12 => ?_)
      refine k_iconst (v := (nI 0)) X dX6_change_15 (by decide) ?_
      exact k_iret X hE dX6_change_16 (by first | omega | exact Nat.le_of_ble_eq_true rfl | (dsimp only; omega)) (by first | omega | exact Nat.le_of_ble_eq_true rfl | (dsimp only; omega)) ⟨Or.inr (Or.inr (Or.inr (⟨d, hd, rfl, pf, ph, rfl, h2⟩))), rfl, f2⟩
  ·
    refine k_callV (rest := []) X kv_X6_lacks kb_463 (m_lacks X.tr h hq hz ho dv job (nI 0)) h.1 rfl rfl rfl rfl rfl (Nat.le_of_ble_eq_true rfl) ⟨by rw [hR]; exact Nat.le_of_ble_eq_true rfl, by rw [hR]; exact Nat.le_of_ble_eq_true rfl⟩ ⟨by rw [hR]; exact Nat.le_of_ble_eq_true rfl, by rw [hR]; exact Nat.le_of_ble_eq_true rfl⟩ dX6_change_9 (fun v9 C9 L9 h9 => ?_)
    obtain ⟨(⟨d, hd, rfl, pw, ph, rfl, h15⟩ | ⟨pd, rfl, h15⟩ | ⟨pd, pw, rfl, h15⟩ | ⟨d, hd, rfl, pw, ph, rfl, h15⟩), rfl, g15⟩ := h9
    ·
      have f15 := kFm.tr kFm.rf g15
      exact absurd (show nI 0 = 0 by decide) pw
    ·
      have f15 := kFm.tr kFm.rf g15
      refine k_if_eq (tgt := 17) X dX6_change_12 (by decide) (fun c12 => absurd c12 (show ¬ ((nI 1) = 0) by decide)) (fun c12 => ?_)
      refine k_iconst (v := (nI 0)) X dX6_change_15 (by decide) ?_
      exact k_iret X hE dX6_change_16 (by first | omega | exact Nat.le_of_ble_eq_true rfl | (dsimp only; omega)) (by first | omega | exact Nat.le_of_ble_eq_true rfl | (dsimp only; omega)) ⟨Or.inr (Or.inl (⟨pd, rfl, h15⟩)), rfl, f15⟩
    ·
      have f15 := kFm.tr kFm.rf g15
      refine k_if_eq (tgt := 17) X dX6_change_12 (by decide) (fun c12 => absurd c12 (show ¬ ((nI 1) = 0) by decide)) (fun c12 => ?_)
      refine k_iconst (v := (nI 0)) X dX6_change_15 (by decide) ?_
      exact k_iret X hE dX6_change_16 (by first | omega | exact Nat.le_of_ble_eq_true rfl | (dsimp only; omega)) (by first | omega | exact Nat.le_of_ble_eq_true rfl | (dsimp only; omega)) ⟨Or.inr (Or.inr (Or.inl (⟨pd, by first | exact pf | exact absurd pw (by decide), rfl, h15⟩))), rfl, f15⟩
    ·
      have f15 := kFm.tr kFm.rf g15
      exact absurd (show nI 0 = 0 by decide) pw

set_option maxHeartbeats 4000000 in
set_option maxRecDepth 100000 in
theorem m_make {l : Launch} (htr : l.stackTraces = false) {E : kE} {A : Nat → Prop} {C : kC} {L : kL} {R : Int32} {M : kM2} {Q : kQ2} (h : isM E C L R M Q) (ho : ∀ d, d < 4 → Q 10 d < 512) (hqa : Q 14 0 < 600) (dv x : Int32) : kM l yX6_make cX6_make 4 (some .int) 2 42 0 0 E A C L [.ref (L (30, 0, 0)), .int dv, .int x] (fun v C' L' => ((∃ d, d < 4 ∧ dv = nI d ∧ kin x (nI 0) (nI 9) ∧ v = some (.int (nI (1000 + Q 10 d))) ∧ isM E C' L (nI 0) (w2 (w2 (w2 (w2 (w2 (w2 M 11 (600 * d + Q 10 d) (-1)) 15 (Q 14 0) (nI d)) 16 (Q 14 0) (nI (1000 + Q 10 d))) 17 (Q 14 0) (-1)) 18 (Q 14 0) x) 19 (Q 14 0) (nI 0)) (w2 (w2 Q 10 d (Q 10 d + 1)) 14 0 (Q 14 0 + 1))) ∨ (¬ kix dv 4 ∧ v = some (.int (nI 0)) ∧ isM E C' L (nI 1) M Q) ∨ ((kix dv 4 ∧ ¬ kin x (nI 0) (nI 9)) ∧ v = some (.int (nI 0)) ∧ isM E C' L (nI 2) M Q)) ∧ L = L' ∧ kFm C C') := by
  refine kM.of htr (by decide) (Nat.le_of_ble_eq_true rfl) (fun Γ hl hR hN hnm X hE => ?_)
  refine k_lo (lo' := [(0, .ref (L (30, 0, 0))), (1, .int dv), (2, .int x)]) ⟨rfl, rfl, rfl, trivial⟩ ?_
  refine k_aload_n X dX6_make_0 rfl rfl ?_
  refine k_iload_n X dX6_make_1 rfl rfl ?_
  refine k_callS (rest := [.ref (L (30, 0, 0))]) X ks_X6_isDevice kb_177 (m_isDevice X.tr dv) rfl rfl (Nat.le_of_ble_eq_true rfl) ⟨by rw [hR]; exact Nat.le_of_ble_eq_true rfl, by rw [hR]; exact Nat.le_of_ble_eq_true rfl⟩ ⟨by rw [hR]; exact Nat.le_of_ble_eq_true rfl, by rw [hR]; exact Nat.le_of_ble_eq_true rfl⟩ dX6_make_2 (fun v2 C9 L9 h9 => ?_)
  obtain ⟨(⟨pd, rfl⟩ | ⟨pd, rfl⟩), rfl, rfl⟩ := h9
  ·
    obtain ⟨d, hd, rfl⟩ := pd.ex (by decide)
    have ho1 := ho d hd
    refine k_if_ne (tgt := 12) X dX6_make_5 (by decide) (fun c5 => ?_) (fun c5 => absurd c5 (show ¬ (nI 1) = 0 by decide))
    refine k_iload_n X dX6_make_12 rfl rfl ?_
    refine k_iconst (v := (nI 0)) X dX6_make_13 (by decide) ?_
    refine k_bipush (v := (nI 9)) X dX6_make_14 (by decide) ?_
    refine k_callS (rest := [.ref (L (30, 0, 0))]) X ks_X6_in kb_180 (m_in X.tr x (nI 0) (nI 9)) rfl rfl (Nat.le_of_ble_eq_true rfl) ⟨by rw [hR]; exact Nat.le_of_ble_eq_true rfl, by rw [hR]; exact Nat.le_of_ble_eq_true rfl⟩ ⟨by rw [hR]; exact Nat.le_of_ble_eq_true rfl, by rw [hR]; exact Nat.le_of_ble_eq_true rfl⟩ dX6_make_16 (fun v16 C9 L9 h9 => ?_)
    obtain ⟨(⟨pr, rfl⟩ | ⟨pr, rfl⟩), rfl, rfl⟩ := h9
    ·
      refine k_if_eq (tgt := 26) X dX6_make_19 (by decide) (fun c19 => absurd c19 (show ¬ ((nI 1) = 0) by decide)) (fun c19 => ?_)
      refine k_iconst (v := (nI 0)) X dX6_make_22 (by decide) ?_
      refine k_goto (tgt := 27) X dX6_make_23 (by decide) ?_
      refine k_callV (rest := []) X kv_X6_refused kb_183 (m_refused X.tr h (nI 0) (nI 0) (by decide)) h.1 rfl rfl rfl rfl rfl (Nat.le_of_ble_eq_true rfl) ⟨by rw [hR]; exact Nat.le_of_ble_eq_true rfl, by rw [hR]; exact Nat.le_of_ble_eq_true rfl⟩ ⟨by rw [hR]; exact Nat.le_of_ble_eq_true rfl, by rw [hR]; exact Nat.le_of_ble_eq_true rfl⟩ dX6_make_27 (fun v27 C9 L9 h9 => ?_)
      obtain ⟨rfl, rfl, g3, h3⟩ := h9
      have f3 := kFm.tr kFm.rf g3
      refine k_if_eq (tgt := 35) X dX6_make_30 (by decide) (fun c30 => ?_) (fun c30 => absurd (show (nI 0) = 0 by decide) c30)
      refine k_sipush (v := (nI 1000)) X dX6_make_35 (by decide) ?_
      refine k_aload_n X dX6_make_38 rfl rfl ?_
      refine k_get0 X h3.1 (q := (RX6, TX6, 25)) rfl inlX6 10 (by decide) kb_66 (Or.inl rfl) rfl rfl dX6_make_39 ?_
      refine k_iload_n X dX6_make_42 rfl rfl ?_
      refine k_mldQ X h3 10 (i := d) rfl (by decide) (show d < 4 by omega) dX6_make_43 ?_
      refine k_iaddN X dX6_make_44 ?_
      refine k_istore_n X dX6_make_45 rfl (by rw [hN]; decide) ?_
      refine k_aload_n X dX6_make_46 rfl rfl ?_
      refine k_get0 X h3.1 (q := (RX6, TX6, 25)) rfl inlX6 11 (by decide) kb_67 (Or.inl rfl) rfl rfl dX6_make_47 ?_
      refine k_sipush (v := (nI 600)) X dX6_make_50 (by decide) ?_
      refine k_iload_n X dX6_make_53 rfl rfl ?_
      refine k_imulN X dX6_make_54 ?_
      refine k_aload_n X dX6_make_55 rfl rfl ?_
      refine k_get0 X h3.1 (q := (RX6, TX6, 25)) rfl inlX6 10 (by decide) kb_66 (Or.inl rfl) rfl rfl dX6_make_56 ?_
      refine k_iload_n X dX6_make_59 rfl rfl ?_
      refine k_mldQ X h3 10 (i := d) rfl (by decide) (show d < 4 by omega) dX6_make_60 ?_
      refine k_iaddN X dX6_make_61 ?_
      refine k_iconst (v := (-1)) X dX6_make_62 (by decide) ?_
      refine k_mst X h3 f3 11 (i := (600 * d) + (Q 10 d)) rfl (by decide) (show (600 * d) + (Q 10 d) < 2400 by omega) dX6_make_63 (fun C4 h4 f4 => ?_)
      refine k_aload_n X dX6_make_64 rfl rfl ?_
      refine k_get0 X h4.1 (q := (RX6, TX6, 25)) rfl inlX6 10 (by decide) kb_66 (Or.inl rfl) rfl rfl dX6_make_65 ?_
      refine k_iload_n X dX6_make_68 rfl rfl ?_
      refine k_dup2 X dX6_make_69 rfl rfl ?_
      refine k_mldQ X h4 10 (i := d) rfl (by decide) (show d < 4 by omega) dX6_make_70 ?_
      refine k_iconst (v := (nI 1)) X dX6_make_71 (by decide) ?_
      refine k_iaddN X dX6_make_72 ?_
      refine k_mstQ X h4 f4 10 (i := d) rfl (by decide) (show d < 4 by omega) dX6_make_73 (fun C5 h5 f5 => ?_)
      refine k_aload_n X dX6_make_74 rfl rfl ?_
      refine k_iload_n X dX6_make_75 rfl rfl ?_
      refine k_iload_n X dX6_make_76 rfl rfl ?_
      refine k_iconst (v := (-1)) X dX6_make_77 (by decide) ?_
      refine k_iload_n X dX6_make_78 rfl rfl ?_
      refine k_iconst (v := (nI 0)) X dX6_make_79 (by decide) ?_
      have e14 : w2 Q 10 d (Q 10 d + 1) 14 0 = Q 14 0 := w2_a (by decide)
      have hn9 := m_note (l := Γ.2.1) (A := A) X.tr h5 (by rw [e14]; exact hqa) d (nI (1000 + (Q 10 d))) (-1) x (nI 0)
      rw [e14] at hn9
      refine k_callV (rest := []) X kv_X6_note kb_505 hn9 h5.1 rfl rfl rfl rfl rfl (Nat.le_of_ble_eq_true rfl) ⟨by rw [hR]; exact Nat.le_of_ble_eq_true rfl, by rw [hR]; exact Nat.le_of_ble_eq_true rfl⟩ ⟨by rw [hR]; exact Nat.le_of_ble_eq_true rfl, by rw [hR]; exact Nat.le_of_ble_eq_true rfl⟩ dX6_make_80 (fun v80 C9 L9 h9 => ?_)
      obtain ⟨rfl, rfl, g6, h6⟩ := h9
      have f6 := kFm.tr f5 g6
      refine k_iload_n X dX6_make_83 rfl rfl ?_
      exact k_iret X hE dX6_make_84 (by first | omega | exact Nat.le_of_ble_eq_true rfl | (dsimp only; omega)) (by first | omega | exact Nat.le_of_ble_eq_true rfl | (dsimp only; omega)) ⟨Or.inl (⟨d, hd, rfl, pr, rfl, h6⟩), rfl, f6⟩
    ·
      refine k_if_eq (tgt := 26) X dX6_make_19 (by decide) (fun c19 => ?_) (fun c19 => absurd (show (nI 0) = 0 by decide) c19)
      refine k_iconst (v := (nI 2)) X dX6_make_26 (by decide) ?_
      refine k_callV (rest := []) X kv_X6_refused kb_183 (m_refused X.tr h (nI 2) (nI 1) (by decide)) h.1 rfl rfl rfl rfl rfl (Nat.le_of_ble_eq_true rfl) ⟨by rw [hR]; exact Nat.le_of_ble_eq_true rfl, by rw [hR]; exact Nat.le_of_ble_eq_true rfl⟩ ⟨by rw [hR]; exact Nat.le_of_ble_eq_true rfl, by rw [hR]; exact Nat.le_of_ble_eq_true rfl⟩ dX6_make_27 (fun v27 C9 L9 h9 => ?_)
      obtain ⟨rfl, rfl, g7, h7⟩ := h9
      have f7 := kFm.tr kFm.rf g7
      refine k_if_eq (tgt := 35) X dX6_make_30 (by decide) (fun c30 => absurd c30 (show ¬ ((nI 1) = 0) by decide)) (fun c30 => ?_)
      refine k_iconst (v := (nI 0)) X dX6_make_33 (by decide) ?_
      exact k_iret X hE dX6_make_34 (by first | omega | exact Nat.le_of_ble_eq_true rfl | (dsimp only; omega)) (by first | omega | exact Nat.le_of_ble_eq_true rfl | (dsimp only; omega)) ⟨Or.inr (Or.inr (⟨⟨pd, pr⟩, rfl, h7⟩)), rfl, f7⟩
  ·
    refine k_if_ne (tgt := 12) X dX6_make_5 (by decide) (fun c5 => absurd c5 (show ¬ (¬ (nI 0) = 0) by decide)) (fun c5 => ?_)
    refine k_iconst (v := (nI 1)) X dX6_make_8 (by decide) ?_
    refine k_goto (tgt := 27) X dX6_make_9 (by decide) ?_
    refine k_callV (rest := []) X kv_X6_refused kb_183 (m_refused X.tr h (nI 1) (nI 1) (by decide)) h.1 rfl rfl rfl rfl rfl (Nat.le_of_ble_eq_true rfl) ⟨by rw [hR]; exact Nat.le_of_ble_eq_true rfl, by rw [hR]; exact Nat.le_of_ble_eq_true rfl⟩ ⟨by rw [hR]; exact Nat.le_of_ble_eq_true rfl, by rw [hR]; exact Nat.le_of_ble_eq_true rfl⟩ dX6_make_27 (fun v27 C9 L9 h9 => ?_)
    obtain ⟨rfl, rfl, g8, h8⟩ := h9
    have f8 := kFm.tr kFm.rf g8
    refine k_if_eq (tgt := 35) X dX6_make_30 (by decide) (fun c30 => absurd c30 (show ¬ ((nI 1) = 0) by decide)) (fun c30 => ?_)
    refine k_iconst (v := (nI 0)) X dX6_make_33 (by decide) ?_
    exact k_iret X hE dX6_make_34 (by first | omega | exact Nat.le_of_ble_eq_true rfl | (dsimp only; omega)) (by first | omega | exact Nat.le_of_ble_eq_true rfl | (dsimp only; omega)) ⟨Or.inr (Or.inl (⟨pd, rfl, h8⟩)), rfl, f8⟩

set_option maxHeartbeats 4000000 in
set_option maxRecDepth 100000 in
theorem m_numberOf {l : Launch} (htr : l.stackTraces = false) {E : kE} {A : Nat → Prop} {C : kC} {L : kL} {R : Int32} {M : kM2} {Q : kQ2} (h : isM E C L R M Q) (ho : ∀ d, d < 4 → Q 10 d ≤ 512) (dv own : Int32) : kM l yX6_numberOf cX6_numberOf 3 (some .int) 2 44 0 0 E A C L [.ref (L (30, 0, 0)), .int dv, .int own] (fun v C' L' => ((∃ d, d < 4 ∧ dv = nI d ∧ ∃ k, k < Q 10 d ∧ own = nI (1000 + k) ∧ v = some (.int (M 11 (600 * d + k))) ∧ isM E C' L (nI 0) M Q) ∨ (¬ kix dv 4 ∧ v = some (.int (nI 0)) ∧ isM E C' L (nI 1) M Q) ∨ (∃ d, d < 4 ∧ dv = nI d ∧ (∀ k, k < Q 10 d → own ≠ nI (1000 + k)) ∧ v = some (.int (nI 0)) ∧ isM E C' L (nI 2) M Q)) ∧ L = L' ∧ kFm C C') := by
  refine kM.of htr (by decide) (Nat.le_of_ble_eq_true rfl) (fun Γ hl hR hN hnm X hE => ?_)
  refine k_lo (lo' := [(0, .ref (L (30, 0, 0))), (1, .int dv), (2, .int own)]) ⟨rfl, rfl, rfl, trivial⟩ ?_
  refine k_aload_n X dX6_numberOf_0 rfl rfl ?_
  refine k_iload_n X dX6_numberOf_1 rfl rfl ?_
  refine k_callS (rest := [.ref (L (30, 0, 0))]) X ks_X6_isDevice kb_177 (m_isDevice X.tr dv) rfl rfl (Nat.le_of_ble_eq_true rfl) ⟨by rw [hR]; exact Nat.le_of_ble_eq_true rfl, by rw [hR]; exact Nat.le_of_ble_eq_true rfl⟩ ⟨by rw [hR]; exact Nat.le_of_ble_eq_true rfl, by rw [hR]; exact Nat.le_of_ble_eq_true rfl⟩ dX6_numberOf_2 (fun v2 C9 L9 h9 => ?_)
  obtain ⟨(⟨pd, rfl⟩ | ⟨pd, rfl⟩), rfl, rfl⟩ := h9
  ·
    obtain ⟨d, hd, rfl⟩ := pd.ex (by decide)
    have ho1 := ho d hd
    refine k_if_ne (tgt := 12) X dX6_numberOf_5 (by decide) (fun c5 => ?_) (fun c5 => absurd c5 (show ¬ (nI 1) = 0 by decide))
    refine k_aload_n X dX6_numberOf_12 rfl rfl ?_
    refine k_iload_n X dX6_numberOf_13 rfl rfl ?_
    refine k_iload_n X dX6_numberOf_14 rfl rfl ?_
    refine k_callV (rest := [.ref (L (30, 0, 0))]) X kv_X6_ownPlace kb_445 (m_ownPlace X.tr h hd ho1 own) h.1 rfl rfl rfl rfl rfl (Nat.le_of_ble_eq_true rfl) ⟨by rw [hR]; exact Nat.le_of_ble_eq_true rfl, by rw [hR]; exact Nat.le_of_ble_eq_true rfl⟩ ⟨by rw [hR]; exact Nat.le_of_ble_eq_true rfl, by rw [hR]; exact Nat.le_of_ble_eq_true rfl⟩ dX6_numberOf_15 (fun v15 C9 L9 h9 => ?_)
    obtain ⟨⟨_, rfl, (⟨k, hk, hxk, rfl⟩ | ⟨hno, rfl⟩)⟩, rfl, rfl⟩ := h9
    ·
      refine k_iconst (v := (-1)) X dX6_numberOf_18 (by decide) ?_
      refine k_icmp_ne (tgt := 26) X dX6_numberOf_19 (by decide) (fun c19 => ?_) (fun c19 => absurd c19 (nI_n1 (by omega)))
      refine k_iconst (v := (nI 0)) X dX6_numberOf_26 (by decide) ?_
      refine k_callV (rest := []) X kv_X6_refused kb_183 (m_refused X.tr h (nI 0) (nI 0) (by decide)) h.1 rfl rfl rfl rfl rfl (Nat.le_of_ble_eq_true rfl) ⟨by rw [hR]; exact Nat.le_of_ble_eq_true rfl, by rw [hR]; exact Nat.le_of_ble_eq_true rfl⟩ ⟨by rw [hR]; exact Nat.le_of_ble_eq_true rfl, by rw [hR]; exact Nat.le_of_ble_eq_true rfl⟩ dX6_numberOf_27 (fun v27 C9 L9 h9 => ?_)
      obtain ⟨rfl, rfl, g3, h3⟩ := h9
      have f3 := kFm.tr kFm.rf g3
      refine k_if_eq (tgt := 35) X dX6_numberOf_30 (by decide) (fun c30 => ?_) (fun c30 => absurd (show (nI 0) = 0 by decide) c30)
      refine k_aload_n X dX6_numberOf_35 rfl rfl ?_
      refine k_get0 X h3.1 (q := (RX6, TX6, 25)) rfl inlX6 11 (by decide) kb_67 (Or.inl rfl) rfl rfl dX6_numberOf_36 ?_
      refine k_aload_n X dX6_numberOf_39 rfl rfl ?_
      refine k_iload_n X dX6_numberOf_40 rfl rfl ?_
      refine k_iload_n X dX6_numberOf_41 rfl rfl ?_
      refine k_callV (rest := [.ref (L (41, 0, 0))]) X kv_X6_ownPlace kb_445 (m_ownPlace X.tr h3 hd ho1 own) h3.1 rfl rfl rfl rfl rfl (Nat.le_of_ble_eq_true rfl) ⟨by rw [hR]; exact Nat.le_of_ble_eq_true rfl, by rw [hR]; exact Nat.le_of_ble_eq_true rfl⟩ ⟨by rw [hR]; exact Nat.le_of_ble_eq_true rfl, by rw [hR]; exact Nat.le_of_ble_eq_true rfl⟩ dX6_numberOf_42 (fun v42 C9 L9 h9 => ?_)
      obtain ⟨⟨_, rfl, h9⟩, rfl, rfl⟩ := h9
      obtain ⟨k2, hk2, hx2, rfl⟩ := h9.resolve_right (fun z => z.1 k hk hxk)
      have ek := kown_inj (hxk.symm.trans hx2) (by omega) (by omega)
      subst ek
      refine k_mld X h3 11 (i := 600 * d + k) rfl (by decide) (show 600 * d + k < 2400 by omega) dX6_numberOf_45 ?_
      exact k_iret X hE dX6_numberOf_46 (by first | omega | exact Nat.le_of_ble_eq_true rfl | (dsimp only; omega)) (by first | omega | exact Nat.le_of_ble_eq_true rfl | (dsimp only; omega)) ⟨Or.inl (⟨d, hd, rfl, k, hk, hxk, rfl, h3⟩), rfl, f3⟩
    ·
      refine k_iconst (v := (-1)) X dX6_numberOf_18 (by decide) ?_
      refine k_icmp_ne (tgt := 26) X dX6_numberOf_19 (by decide) (fun c19 => absurd c19 (fun z => z rfl)) (fun c19 => ?_)
      refine k_iconst (v := (nI 2)) X dX6_numberOf_22 (by decide) ?_
      refine k_goto (tgt := 27) X dX6_numberOf_23 (by decide) ?_
      refine k_callV (rest := []) X kv_X6_refused kb_183 (m_refused X.tr h (nI 2) (nI 1) (by decide)) h.1 rfl rfl rfl rfl rfl (Nat.le_of_ble_eq_true rfl) ⟨by rw [hR]; exact Nat.le_of_ble_eq_true rfl, by rw [hR]; exact Nat.le_of_ble_eq_true rfl⟩ ⟨by rw [hR]; exact Nat.le_of_ble_eq_true rfl, by rw [hR]; exact Nat.le_of_ble_eq_true rfl⟩ dX6_numberOf_27 (fun v27 C9 L9 h9 => ?_)
      obtain ⟨rfl, rfl, g5, h5⟩ := h9
      have f5 := kFm.tr kFm.rf g5
      refine k_if_eq (tgt := 35) X dX6_numberOf_30 (by decide) (fun c30 => absurd c30 (show ¬ ((nI 1) = 0) by decide)) (fun c30 => ?_)
      refine k_iconst (v := (nI 0)) X dX6_numberOf_33 (by decide) ?_
      exact k_iret X hE dX6_numberOf_34 (by first | omega | exact Nat.le_of_ble_eq_true rfl | (dsimp only; omega)) (by first | omega | exact Nat.le_of_ble_eq_true rfl | (dsimp only; omega)) ⟨Or.inr (Or.inr (⟨d, hd, rfl, hno, rfl, h5⟩)), rfl, f5⟩
  ·
    refine k_if_ne (tgt := 12) X dX6_numberOf_5 (by decide) (fun c5 => absurd c5 (show ¬ (¬ (nI 0) = 0) by decide)) (fun c5 => ?_)
    refine k_iconst (v := (nI 1)) X dX6_numberOf_8 (by decide) ?_
    refine k_goto (tgt := 27) X dX6_numberOf_9 (by decide) ?_
    refine k_callV (rest := []) X kv_X6_refused kb_183 (m_refused X.tr h (nI 1) (nI 1) (by decide)) h.1 rfl rfl rfl rfl rfl (Nat.le_of_ble_eq_true rfl) ⟨by rw [hR]; exact Nat.le_of_ble_eq_true rfl, by rw [hR]; exact Nat.le_of_ble_eq_true rfl⟩ ⟨by rw [hR]; exact Nat.le_of_ble_eq_true rfl, by rw [hR]; exact Nat.le_of_ble_eq_true rfl⟩ dX6_numberOf_27 (fun v27 C9 L9 h9 => ?_)
    obtain ⟨rfl, rfl, g6, h6⟩ := h9
    have f6 := kFm.tr kFm.rf g6
    refine k_if_eq (tgt := 35) X dX6_numberOf_30 (by decide) (fun c30 => absurd c30 (show ¬ ((nI 1) = 0) by decide)) (fun c30 => ?_)
    refine k_iconst (v := (nI 0)) X dX6_numberOf_33 (by decide) ?_
    exact k_iret X hE dX6_numberOf_34 (by first | omega | exact Nat.le_of_ble_eq_true rfl | (dsimp only; omega)) (by first | omega | exact Nat.le_of_ble_eq_true rfl | (dsimp only; omega)) ⟨Or.inr (Or.inl (⟨pd, rfl, h6⟩)), rfl, f6⟩
