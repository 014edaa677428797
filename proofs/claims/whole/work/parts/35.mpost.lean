/-- an act is refused -/
def mRef (M : kM2) (Q : kQ2) (g : Nat) (r : Int32) : kM2 := w2 (w2 M 20 g (nI 1)) 23 (Q 21 0) r
def mRefQ (Q : kQ2) (g : Nat) : kQ2 := w2 (w2 Q 22 (Q 21 0) g) 21 0 (Q 21 0 + 1)
def mLay (M : kM2) (i f : Nat) (x : Int32) : kM2 := w2 (w2 M 4 (2 * i + f) x) 5 (2 * i + f) (M 5 (2 * i + f) + nI 1)
/-- an act of d is sent; b: 1 if it is done -/
def mPost (M : kM2) (Q : kQ2) (d g b : Nat) (M' : kM2) (Q' : kQ2) : Prop :=
  (∃ k, k < Q 10 d ∧ M 16 g = nI (1000 + k) ∧ M 17 g = -1 ∧ ((Q 1 0 = 40 ∧ b = 0 ∧ M' = mRef M Q g (nI 3) ∧ Q' = mRefQ Q g) ∨ (Q 1 0 < 40 ∧ b = 1 ∧ M' = mAdopt (w2 M 20 g (nI 1)) Q d g k ∧ Q' = w2 Q 1 0 (Q 1 0 + 1)))) ∨
  ∃ f0 r, f0 ≤ 1 ∧ M 17 g = nI f0 ∧ mAg M Q d g f0 r ∧ ((r ≠ -1 ∧ b = 0 ∧ M' = mRef M Q g r ∧ Q' = mRefQ Q g) ∨ (r = -1 ∧ b = 1 ∧ ∃ i, i < Q 1 0 ∧ mNm M Q d (M 16 g) (nI i) ∧ M' = mLay (w2 M 20 g (nI 1)) i f0 (M 18 g) ∧ Q' = Q))
theorem mNm.cg {M M' : kM2} {Q Q' : kQ2} {d : Nat} {x r : Int32} (hM : ∀ p, M' 11 p = M 11 p) (hQ : Q' 10 d = Q 10 d) (h : mNm M Q d x r) : mNm M' Q' d x r := by
  unfold mNm at h ⊢
  simp only [hM, hQ]
  exact h

set_option maxHeartbeats 4000000 in
set_option maxRecDepth 100000 in
theorem m_post {l : Launch} (htr : l.stackTraces = false) {E : kE} {A : Nat → Prop} {C : kC} {L : kL} {R : Int32} {M : kM2} {Q : kQ2} (h : isM E C L R M Q) (hq : Q 1 0 ≤ 40) (hq21 : Q 21 0 < 600) {d g : Nat} (hd : d < 4) (ho : Q 10 d ≤ 512) (hg : g < 600) (h15 : M 15 g = nI d) (hw : (M 17 g = -1 ∧ ∃ k, k < Q 10 d ∧ M 16 g = nI (1000 + k)) ∨ ∃ f0, f0 ≤ 1 ∧ M 17 g = nI f0)  : kM l yX6_post cX6_post 4 (some .boolean) 4 92 0 0 E A C L [.ref (L (30, 0, 0)), .int (nI g)] (fun v C' L' => (∃ b, v = some (.int (nI b)) ∧ ∃ M' Q', mPost M Q d g b M' Q' ∧ kFm C C' ∧ isM E C' L R M' Q') ∧ L = L') := by
  refine kM.of htr (by decide) (Nat.le_of_ble_eq_true rfl) (fun Γ hl hR hN hnm X hE => ?_)
  refine k_lo (lo' := [(0, .ref (L (30, 0, 0))), (1, .int (nI g))]) ⟨rfl, rfl, trivial⟩ ?_
  refine k_aload_n X dX6_post_0 rfl rfl ?_
  refine k_get0 X h.1 (q := (RX6, TX6, 25)) rfl inlX6 17 (by decide) kb_72 (Or.inl rfl) rfl rfl dX6_post_1 ?_
  refine k_iload_n X dX6_post_4 rfl rfl ?_
  refine k_mld X h 17 (i := g) rfl (by decide) (show g < 600 by omega) dX6_post_5 ?_
  rcases hw with ⟨h17, k, hk, h16⟩ | ⟨f0, hf0, h17⟩
  ·
    refine k_rw (y := (-1)) h17 ?_
    refine k_iconst (v := (-1)) X dX6_post_6 (by decide) ?_
    refine k_icmp_ne (tgt := 14) X dX6_post_7 (by decide) (fun c7 => absurd c7 (fun z => z rfl)) (fun c7 => ?_)
    refine k_iconst (v := (nI 1)) X dX6_post_10 (by decide) ?_
    refine k_goto (tgt := 15) X dX6_post_11 (by decide) ?_
    refine k_istore_n X dX6_post_15 rfl (by rw [hN]; decide) ?_
    refine k_iload_n X dX6_post_16 rfl rfl ?_
    refine k_if_eq (tgt := 37) X dX6_post_17 (by decide) (fun c17 => absurd c17 (show ¬ ((nI 1) = 0) by decide)) (fun c17 => ?_)
    refine k_aload_n X dX6_post_20 rfl rfl ?_
    refine k_get0 X h.1 (q := (RX6, TX6, 25)) rfl inlX6 1 (by decide) kb_176 (Or.inl rfl) rfl rfl dX6_post_21 ?_
    refine k_bipush (v := (nI 40)) X dX6_post_24 (by decide) ?_
    refine k_icmp_ne (tgt := 33) X dX6_post_26 (by decide) (fun c26 => ?_) (fun c26 => ?_)
    ·
      refine k_iconst (v := (-1)) X dX6_post_33 (by decide) ?_
      refine k_goto (tgt := 42) X dX6_post_34 (by decide) ?_
      refine k_istore_n X dX6_post_42 rfl (by rw [hN]; decide) ?_
      refine k_aload_n X dX6_post_43 rfl rfl ?_
      refine k_get0 X h.1 (q := (RX6, TX6, 25)) rfl inlX6 20 (by decide) kb_75 (Or.inl rfl) rfl rfl dX6_post_44 ?_
      refine k_iload_n X dX6_post_47 rfl rfl ?_
      refine k_iconst (v := (nI 1)) X dX6_post_48 (by decide) ?_
      refine k_mst X h kFm.rf 20 (i := g) rfl (by decide) (show g < 600 by omega) dX6_post_49 (fun C1 h1 f1 => ?_)
      refine k_iload_n X dX6_post_50 rfl rfl ?_
      refine k_iconst (v := (-1)) X dX6_post_51 (by decide) ?_
      refine k_icmp_eq (tgt := 88) X dX6_post_52 (by decide) (fun c52 => ?_) (fun c52 => absurd rfl c52)
      refine k_iload_n X dX6_post_88 rfl rfl ?_
      refine k_if_eq (tgt := 100) X dX6_post_89 (by decide) (fun c89 => absurd c89 (show ¬ ((nI 1) = 0) by decide)) (fun c89 => ?_)
      refine k_aload_n X dX6_post_92 rfl rfl ?_
      refine k_iload_n X dX6_post_93 rfl rfl ?_
      have a15 : w2 M 20 g (nI 1) 15 g = nI d := (w2_a (by decide)).trans h15
      have a16 : w2 M 20 g (nI 1) 16 g = nI (1000 + k) := (w2_a (by decide)).trans h16
      have h40 : Q 1 0 < 40 := Nat.lt_of_le_of_ne hq (fun e => c26 (by rw [e]))
      refine k_callV (rest := []) X kv_X6_adopt kb_610 (m_adopt X.tr h1 h40 hd ho hg a15 hk a16) h1.1 rfl rfl rfl rfl rfl (Nat.le_of_ble_eq_true rfl) ⟨by rw [hR]; exact Nat.le_of_ble_eq_true rfl, by rw [hR]; exact Nat.le_of_ble_eq_true rfl⟩ ⟨by rw [hR]; exact Nat.le_of_ble_eq_true rfl, by rw [hR]; exact Nat.le_of_ble_eq_true rfl⟩ dX6_post_94 (fun v94 C9 L9 h9 => ?_)
      obtain ⟨rfl, rfl, g2, h2⟩ := h9
      have f2 := kFm.tr f1 g2
      refine k_goto (tgt := 133) X dX6_post_97 (by decide) ?_
      refine k_iload_n X dX6_post_133 rfl rfl ?_
      refine k_iconst (v := (-1)) X dX6_post_134 (by decide) ?_
      refine k_icmp_ne (tgt := 142) X dX6_post_135 (by decide) (fun c135 => absurd c135 (fun z => z rfl)) (fun c135 => ?_)
      refine k_iconst (v := (nI 1)) X dX6_post_138 (by decide) ?_
      refine k_goto (tgt := 143) X dX6_post_139 (by decide) ?_
      exact k_zret X hE kz1 dX6_post_143 (by first | omega | exact Nat.le_of_ble_eq_true rfl | (dsimp only; omega)) (by first | omega | exact Nat.le_of_ble_eq_true rfl | (dsimp only; omega)) ⟨⟨1, rfl, _, _, Or.inl ⟨k, hk, h16, h17, Or.inr ⟨h40, rfl, rfl, rfl⟩⟩, f2, h2⟩, rfl⟩
    ·
      refine k_iconst (v := (nI 3)) X dX6_post_29 (by decide) ?_
      refine k_goto (tgt := 42) X dX6_post_30 (by decide) ?_
      refine k_istore_n X dX6_post_42 rfl (by rw [hN]; decide) ?_
      refine k_aload_n X dX6_post_43 rfl rfl ?_
      refine k_get0 X h.1 (q := (RX6, TX6, 25)) rfl inlX6 20 (by decide) kb_75 (Or.inl rfl) rfl rfl dX6_post_44 ?_
      refine k_iload_n X dX6_post_47 rfl rfl ?_
      refine k_iconst (v := (nI 1)) X dX6_post_48 (by decide) ?_
      refine k_mst X h kFm.rf 20 (i := g) rfl (by decide) (show g < 600 by omega) dX6_post_49 (fun C3 h3 f3 => ?_)
      refine k_iload_n X dX6_post_50 rfl rfl ?_
      refine k_iconst (v := (-1)) X dX6_post_51 (by decide) ?_
      refine k_icmp_eq (tgt := 88) X dX6_post_52 (by decide) (fun c52 => absurd c52 (show ¬ nI 3 = -1 by decide)) (fun c52 => ?_)
      refine k_aload_n X dX6_post_55 rfl rfl ?_
      refine k_get0 X h3.1 (q := (RX6, TX6, 25)) rfl inlX6 22 (by decide) kb_76 (Or.inl rfl) rfl rfl dX6_post_56 ?_
      refine k_aload_n X dX6_post_59 rfl rfl ?_
      refine k_get0 X h3.1 (q := (RX6, TX6, 25)) rfl inlX6 21 (by decide) kb_605 (Or.inl rfl) rfl rfl dX6_post_60 ?_
      refine k_iload_n X dX6_post_63 rfl rfl ?_
      refine k_mstQ X h3 f3 22 (i := Q 21 0) rfl (by decide) (show Q 21 0 < 600 by omega) dX6_post_64 (fun C4 h4 f4 => ?_)
      refine k_aload_n X dX6_post_65 rfl rfl ?_
      refine k_get0 X h4.1 (q := (RX6, TX6, 25)) rfl inlX6 23 (by decide) kb_77 (Or.inl rfl) rfl rfl dX6_post_66 ?_
      refine k_aload_n X dX6_post_69 rfl rfl ?_
      refine k_get0 X h4.1 (q := (RX6, TX6, 25)) rfl inlX6 21 (by decide) kb_605 (Or.inl rfl) rfl rfl dX6_post_70 ?_
      refine k_rw (y := nI (Q 21 0)) (congrArg nI (w2_a (by decide))) ?_
      refine k_iload_n X dX6_post_73 rfl rfl ?_
      refine k_mst X h4 f4 23 (i := Q 21 0) rfl (by decide) (show Q 21 0 < 600 by omega) dX6_post_74 (fun C5 h5 f5 => ?_)
      refine k_aload_n X dX6_post_75 rfl rfl ?_
      refine k_dup X dX6_post_76 rfl ?_
      refine k_get0 X h5.1 (q := (RX6, TX6, 25)) rfl inlX6 21 (by decide) kb_605 (Or.inl rfl) rfl rfl dX6_post_77 ?_
      refine k_rw (y := nI (Q 21 0)) (congrArg nI (w2_a (by decide))) ?_
      refine k_iconst (v := (nI 1)) X dX6_post_80 (by decide) ?_
      refine k_iaddN X dX6_post_81 ?_
      refine k_put1 X h5.1 (fs9 := [.int R, .int (nI ((w2 Q 22 (Q 21 0) g) 1 0)), .ref (L (32, 0, 0)), .ref (L (33, 0, 0)), .ref (L (34, 0, 0)), .ref (L (35, 0, 0)), .ref (L (36, 0, 0)), .ref (L (37, 0, 0)), .ref (L (38, 0, 0)), .ref (L (39, 0, 0)), .ref (L (40, 0, 0)), .ref (L (41, 0, 0)), .ref (L (42, 0, 0)), .ref (L (43, 0, 0)), .int (nI ((w2 Q 22 (Q 21 0) g) 14 0)), .ref (L (45, 0, 0)), .ref (L (46, 0, 0)), .ref (L (47, 0, 0)), .ref (L (48, 0, 0)), .ref (L (49, 0, 0)), .ref (L (50, 0, 0)), .int (nI ((Q 21 0) + 1)), .ref (L (52, 0, 0)), .ref (L (53, 0, 0)), .int ((w2 (w2 M 20 g (nI 1)) 23 (Q 21 0) (nI 3)) 24 0)]) (q := (RX6, TX6, 25)) rfl inlX6 tyX6 tyX6_ok nmX6 21 (by decide) kb_605 (Or.inl rfl) (Or.inl rfl) rfl rfl rfl (Nat.le_of_ble_eq_true rfl) rfl dX6_post_82 ?_
      refine k_abs (fun C' => isM E C' L R (w2 (w2 M 20 g (nI 1)) 23 (Q 21 0) (nI 3)) (w2 (w2 Q 22 (Q 21 0) g) 21 0 ((Q 21 0) + 1)) ∧ kFm C C') ⟨isM.obj (R' := R) (M' := (w2 (w2 M 20 g (nI 1)) 23 (Q 21 0) (nI 3))) (Q' := (w2 (w2 Q 22 (Q 21 0) g) 21 0 ((Q 21 0) + 1))) h5 (fun _ _ => rfl) (fun b h1 h2 h3 => w2_row b (by omega)), kFm.up f5 (by decide)⟩ (fun C6 g6 => ?_)
      obtain ⟨h6, f6⟩ := g6
      refine k_goto (tgt := 133) X dX6_post_85 (by decide) ?_
      refine k_iload_n X dX6_post_133 rfl rfl ?_
      refine k_iconst (v := (-1)) X dX6_post_134 (by decide) ?_
      refine k_icmp_ne (tgt := 142) X dX6_post_135 (by decide) (fun c135 => ?_) (fun c135 => absurd c135 (show ¬ nI 3 = -1 by decide))
      refine k_iconst (v := (nI 0)) X dX6_post_142 (by decide) ?_
      exact k_zret X hE kz0 dX6_post_143 (by first | omega | exact Nat.le_of_ble_eq_true rfl | (dsimp only; omega)) (by first | omega | exact Nat.le_of_ble_eq_true rfl | (dsimp only; omega)) ⟨⟨0, rfl, _, _, Or.inl ⟨k, hk, h16, h17, Or.inl ⟨(nI_eq (by omega) (by decide)).mp c26, rfl, rfl, rfl⟩⟩, f6, h6⟩, rfl⟩
  ·
    refine k_rw (y := nI f0) h17 ?_
    refine k_iconst (v := (-1)) X dX6_post_6 (by decide) ?_
    refine k_icmp_ne (tgt := 14) X dX6_post_7 (by decide) (fun c7 => ?_) (fun c7 => absurd c7 (nI_n1 (by omega)))
    refine k_iconst (v := (nI 0)) X dX6_post_14 (by decide) ?_
    refine k_istore_n X dX6_post_15 rfl (by rw [hN]; decide) ?_
    refine k_iload_n X dX6_post_16 rfl rfl ?_
    refine k_if_eq (tgt := 37) X dX6_post_17 (by decide) (fun c17 => ?_) (fun c17 => absurd (show (nI 0) = 0 by decide) c17)
    refine k_aload_n X dX6_post_37 rfl rfl ?_
    refine k_iload_n X dX6_post_38 rfl rfl ?_
    refine k_callV (rest := []) X kv_X6_against kb_606 (m_against X.tr h hq hd ho hg h15 hf0 h17) h.1 rfl rfl rfl rfl rfl (Nat.le_of_ble_eq_true rfl) ⟨by rw [hR]; exact Nat.le_of_ble_eq_true rfl, by rw [hR]; exact Nat.le_of_ble_eq_true rfl⟩ ⟨by rw [hR]; exact Nat.le_of_ble_eq_true rfl, by rw [hR]; exact Nat.le_of_ble_eq_true rfl⟩ dX6_post_39 (fun v39 C9 L9 h9 => ?_)
    obtain ⟨⟨r, rfl, hr⟩, rfl, rfl⟩ := h9
    refine k_istore_n X dX6_post_42 rfl (by rw [hN]; decide) ?_
    refine k_aload_n X dX6_post_43 rfl rfl ?_
    refine k_get0 X h.1 (q := (RX6, TX6, 25)) rfl inlX6 20 (by decide) kb_75 (Or.inl rfl) rfl rfl dX6_post_44 ?_
    refine k_iload_n X dX6_post_47 rfl rfl ?_
    refine k_iconst (v := (nI 1)) X dX6_post_48 (by decide) ?_
    refine k_mst X h kFm.rf 20 (i := g) rfl (by decide) (show g < 600 by omega) dX6_post_49 (fun C8 h8 f8 => ?_)
    refine k_iload_n X dX6_post_50 rfl rfl ?_
    refine k_iconst (v := (-1)) X dX6_post_51 (by decide) ?_
    refine k_icmp_eq (tgt := 88) X dX6_post_52 (by decide) (fun c52 => ?_) (fun c52 => ?_)
    ·
      refine k_iload_n X dX6_post_88 rfl rfl ?_
      refine k_if_eq (tgt := 100) X dX6_post_89 (by decide) (fun c89 => ?_) (fun c89 => absurd (show (nI 0) = 0 by decide) c89)
      refine k_aload_n X dX6_post_100 rfl rfl ?_
      refine k_aload_n X dX6_post_101 rfl rfl ?_
      refine k_aload_n X dX6_post_102 rfl rfl ?_
      refine k_get0 X h8.1 (q := (RX6, TX6, 25)) rfl inlX6 15 (by decide) kb_70 (Or.inl rfl) rfl rfl dX6_post_103 ?_
      refine k_iload_n X dX6_post_106 rfl rfl ?_
      refine k_mld X h8 15 (i := g) rfl (by decide) (show g < 600 by omega) dX6_post_107 ?_
      refine k_rw (y := (M 15 g)) (w2_a (by decide)) ?_
      refine k_rw (y := nI d) h15 ?_
      refine k_aload_n X dX6_post_108 rfl rfl ?_
      refine k_get0 X h8.1 (q := (RX6, TX6, 25)) rfl inlX6 16 (by decide) kb_71 (Or.inl rfl) rfl rfl dX6_post_109 ?_
      refine k_iload_n X dX6_post_112 rfl rfl ?_
      refine k_mld X h8 16 (i := g) rfl (by decide) (show g < 600 by omega) dX6_post_113 ?_
      refine k_rw (y := (M 16 g)) (w2_a (by decide)) ?_
      subst c52
      have hr0 := hr
      obtain ⟨_, hx, hcase⟩ := hr
      obtain ⟨i, hi, rfl, _⟩ := hcase.resolve_left (fun z => absurd z.2 (by decide))
      refine k_callV (rest := [.ref (L (30, 0, 0))]) X kv_X6_named kb_441 (m_named X.tr h8 hd ho (M 16 g)) h8.1 rfl rfl rfl rfl rfl (Nat.le_of_ble_eq_true rfl) ⟨by rw [hR]; exact Nat.le_of_ble_eq_true rfl, by rw [hR]; exact Nat.le_of_ble_eq_true rfl⟩ ⟨by rw [hR]; exact Nat.le_of_ble_eq_true rfl, by rw [hR]; exact Nat.le_of_ble_eq_true rfl⟩ dX6_post_114 (fun v114 C9 L9 h9 => ?_)
      obtain ⟨⟨x2, rfl, hx2⟩, rfl, rfl⟩ := h9
      have e2 := mNm.un ho hx (hx2.cg (M' := M) (Q' := Q) (fun p => (w2_a (by decide)).symm) rfl)
      subst e2
      refine k_aload_n X dX6_post_117 rfl rfl ?_
      refine k_get0 X h8.1 (q := (RX6, TX6, 25)) rfl inlX6 17 (by decide) kb_72 (Or.inl rfl) rfl rfl dX6_post_118 ?_
      refine k_iload_n X dX6_post_121 rfl rfl ?_
      refine k_mld X h8 17 (i := g) rfl (by decide) (show g < 600 by omega) dX6_post_122 ?_
      refine k_rw (y := (M 17 g)) (w2_a (by decide)) ?_
      refine k_rw (y := nI f0) h17 ?_
      refine k_aload_n X dX6_post_123 rfl rfl ?_
      refine k_get0 X h8.1 (q := (RX6, TX6, 25)) rfl inlX6 18 (by decide) kb_73 (Or.inl rfl) rfl rfl dX6_post_124 ?_
      refine k_iload_n X dX6_post_127 rfl rfl ?_
      refine k_mld X h8 18 (i := g) rfl (by decide) (show g < 600 by omega) dX6_post_128 ?_
      refine k_rw (y := (M 18 g)) (w2_a (by decide)) ?_
      refine k_callV (rest := []) X kv_X6_lay kb_268 (m_lay X.tr h8 (i := i) (f := f0) (by omega) (by omega) (M 18 g)) h8.1 rfl rfl rfl rfl rfl (Nat.le_of_ble_eq_true rfl) ⟨by rw [hR]; exact Nat.le_of_ble_eq_true rfl, by rw [hR]; exact Nat.le_of_ble_eq_true rfl⟩ ⟨by rw [hR]; exact Nat.le_of_ble_eq_true rfl, by rw [hR]; exact Nat.le_of_ble_eq_true rfl⟩ dX6_post_129 (fun v129 C9 L9 h9 => ?_)
      obtain ⟨rfl, rfl, g10, h10⟩ := h9
      have f10 := kFm.tr f8 g10
      refine k_pop X dX6_post_132 rfl ?_
      refine k_iload_n X dX6_post_133 rfl rfl ?_
      refine k_iconst (v := (-1)) X dX6_post_134 (by decide) ?_
      refine k_icmp_ne (tgt := 142) X dX6_post_135 (by decide) (fun c135 => absurd c135 (fun z => z rfl)) (fun c135 => ?_)
      refine k_iconst (v := (nI 1)) X dX6_post_138 (by decide) ?_
      refine k_goto (tgt := 143) X dX6_post_139 (by decide) ?_
      exact k_zret X hE kz1 dX6_post_143 (by first | omega | exact Nat.le_of_ble_eq_true rfl | (dsimp only; omega)) (by first | omega | exact Nat.le_of_ble_eq_true rfl | (dsimp only; omega)) ⟨⟨1, rfl, _, _, Or.inr ⟨f0, -1, hf0, h17, hr0, Or.inr ⟨rfl, rfl, i, hi, hx, rfl, rfl⟩⟩, f10, h10⟩, rfl⟩
    ·
      refine k_aload_n X dX6_post_55 rfl rfl ?_
      refine k_get0 X h8.1 (q := (RX6, TX6, 25)) rfl inlX6 22 (by decide) kb_76 (Or.inl rfl) rfl rfl dX6_post_56 ?_
      refine k_aload_n X dX6_post_59 rfl rfl ?_
      refine k_get0 X h8.1 (q := (RX6, TX6, 25)) rfl inlX6 21 (by decide) kb_605 (Or.inl rfl) rfl rfl dX6_post_60 ?_
      refine k_iload_n X dX6_post_63 rfl rfl ?_
      refine k_mstQ X h8 f8 22 (i := Q 21 0) rfl (by decide) (show Q 21 0 < 600 by omega) dX6_post_64 (fun C11 h11 f11 => ?_)
      refine k_aload_n X dX6_post_65 rfl rfl ?_
      refine k_get0 X h11.1 (q := (RX6, TX6, 25)) rfl inlX6 23 (by decide) kb_77 (Or.inl rfl) rfl rfl dX6_post_66 ?_
      refine k_aload_n X dX6_post_69 rfl rfl ?_
      refine k_get0 X h11.1 (q := (RX6, TX6, 25)) rfl inlX6 21 (by decide) kb_605 (Or.inl rfl) rfl rfl dX6_post_70 ?_
      refine k_rw (y := nI (Q 21 0)) (congrArg nI (w2_a (by decide))) ?_
      refine k_iload_n X dX6_post_73 rfl rfl ?_
      refine k_mst X h11 f11 23 (i := Q 21 0) rfl (by decide) (show Q 21 0 < 600 by omega) dX6_post_74 (fun C12 h12 f12 => ?_)
      refine k_aload_n X dX6_post_75 rfl rfl ?_
      refine k_dup X dX6_post_76 rfl ?_
      refine k_get0 X h12.1 (q := (RX6, TX6, 25)) rfl inlX6 21 (by decide) kb_605 (Or.inl rfl) rfl rfl dX6_post_77 ?_
      refine k_rw (y := nI (Q 21 0)) (congrArg nI (w2_a (by decide))) ?_
      refine k_iconst (v := (nI 1)) X dX6_post_80 (by decide) ?_
      refine k_iaddN X dX6_post_81 ?_
      refine k_put1 X h12.1 (fs9 := [.int R, .int (nI ((w2 Q 22 (Q 21 0) g) 1 0)), .ref (L (32, 0, 0)), .ref (L (33, 0, 0)), .ref (L (34, 0, 0)), .ref (L (35, 0, 0)), .ref (L (36, 0, 0)), .ref (L (37, 0, 0)), .ref (L (38, 0, 0)), .ref (L (39, 0, 0)), .ref (L (40, 0, 0)), .ref (L (41, 0, 0)), .ref (L (42, 0, 0)), .ref (L (43, 0, 0)), .int (nI ((w2 Q 22 (Q 21 0) g) 14 0)), .ref (L (45, 0, 0)), .ref (L (46, 0, 0)), .ref (L (47, 0, 0)), .ref (L (48, 0, 0)), .ref (L (49, 0, 0)), .ref (L (50, 0, 0)), .int (nI ((Q 21 0) + 1)), .ref (L (52, 0, 0)), .ref (L (53, 0, 0)), .int ((w2 (w2 M 20 g (nI 1)) 23 (Q 21 0) r) 24 0)]) (q := (RX6, TX6, 25)) rfl inlX6 tyX6 tyX6_ok nmX6 21 (by decide) kb_605 (Or.inl rfl) (Or.inl rfl) rfl rfl rfl (Nat.le_of_ble_eq_true rfl) rfl dX6_post_82 ?_
      refine k_abs (fun C' => isM E C' L R (w2 (w2 M 20 g (nI 1)) 23 (Q 21 0) r) (w2 (w2 Q 22 (Q 21 0) g) 21 0 ((Q 21 0) + 1)) ∧ kFm C C') ⟨isM.obj (R' := R) (M' := (w2 (w2 M 20 g (nI 1)) 23 (Q 21 0) r)) (Q' := (w2 (w2 Q 22 (Q 21 0) g) 21 0 ((Q 21 0) + 1))) h12 (fun _ _ => rfl) (fun b h1 h2 h3 => w2_row b (by omega)), kFm.up f12 (by decide)⟩ (fun C13 g13 => ?_)
      obtain ⟨h13, f13⟩ := g13
      refine k_goto (tgt := 133) X dX6_post_85 (by decide) ?_
      refine k_iload_n X dX6_post_133 rfl rfl ?_
      refine k_iconst (v := (-1)) X dX6_post_134 (by decide) ?_
      refine k_icmp_ne (tgt := 142) X dX6_post_135 (by decide) (fun c135 => ?_) (fun c135 => absurd c135 c52)
      refine k_iconst (v := (nI 0)) X dX6_post_142 (by decide) ?_
      exact k_zret X hE kz0 dX6_post_143 (by first | omega | exact Nat.le_of_ble_eq_true rfl | (dsimp only; omega)) (by first | omega | exact Nat.le_of_ble_eq_true rfl | (dsimp only; omega)) ⟨⟨0, rfl, _, _, Or.inr ⟨f0, r, hf0, h17, hr, Or.inl ⟨c52, rfl, rfl, rfl⟩⟩, f13, h13⟩, rfl⟩

def mRf (M : kM2) (Q : kQ2) (d r : Nat) : Nat := if M 15 (Q 22 r) = nI d then 1 else 0
/-- where the refusal at a place is -/
def mRa (M : kM2) (Q : kQ2) (d : Nat) (p v : Int32) : Prop := (∃ r, r < Q 21 0 ∧ mRf M Q d r = 1 ∧ nI (kcn (mRf M Q d) r) = p ∧ v = nI r) ∨ ((∀ r, r < Q 21 0 → mRf M Q d r = 1 → ¬ nI (kcn (mRf M Q d) r) = p) ∧ v = (-1) - nI (kcn (mRf M Q d) (Q 21 0)))

set_option maxHeartbeats 4000000 in
set_option maxRecDepth 100000 in
theorem m_refusalAt {l : Launch} (htr : l.stackTraces = false) {E : kE} {A : Nat → Prop} {C : kC} {L : kL} {R : Int32} {M : kM2} {Q : kQ2} (h : isM E C L R M Q) (hq21 : Q 21 0 ≤ 600) (h22 : ∀ r, r < Q 21 0 → Q 22 r < 600) (d : Nat) (p : Int32) : kM l yX6_refusalAt cX6_refusalAt 5 (some .int) 0 0 0 0 E A C L [.ref (L (30, 0, 0)), .int (nI d), .int p] (fun v C' L' => (∃ r, v = some (.int r) ∧ mRa M Q d p r) ∧ L = L' ∧ C = C') := by
  refine kM.of htr (by decide) (Nat.le_of_ble_eq_true rfl) (fun Γ hl hR hN hnm X hE => ?_)
  refine k_lo (lo' := [(0, .ref (L (30, 0, 0))), (1, .int (nI d)), (2, .int p)]) ⟨rfl, rfl, rfl, trivial⟩ ?_
  have loop : ∀ (m k : Nat), k + m = Q 21 0 → (∀ r, r < k → mRf M Q d r = 1 → ¬ nI (kcn (mRf M Q d) r) = p) → kW Γ E A C L 0 0 5 [(0, .ref (L (30, 0, 0))), (1, .int (nI d)), (2, .int p), (3, .int (nI (kcn (mRf M Q d) k))), (4, .int (nI k))] [] := by
    intro m
    induction m with
    | zero =>
      intro k hk hno
      refine k_iload X dX6_refusalAt_5 rfl ?_
      refine k_aload_n X dX6_refusalAt_7 rfl rfl ?_
      refine k_get0 X h.1 (q := (RX6, TX6, 25)) rfl inlX6 21 (by decide) kb_605 (Or.inl rfl) rfl rfl dX6_refusalAt_8 ?_
      refine k_icmp_ge (tgt := 47) X dX6_refusalAt_11 (by decide) (fun c11 => ?_) (fun c11 => absurd (nI_le (Nat.le_of_eq (by omega)) (by omega)) c11)
      refine k_iconst (v := (-1)) X dX6_refusalAt_47 (by decide) ?_
      refine k_iload_n X dX6_refusalAt_48 rfl rfl ?_
      refine k_isub X dX6_refusalAt_49 ?_
      exact k_iret X hE dX6_refusalAt_50 (by first | omega | exact Nat.le_of_ble_eq_true rfl | (dsimp only; omega)) (by first | omega | exact Nat.le_of_ble_eq_true rfl | (dsimp only; omega)) ⟨⟨_, rfl, Or.inr ⟨fun r hr => hno r (by omega), by rw [show k = Q 21 0 by omega]⟩⟩, rfl, rfl⟩
    | succ m ih =>
      intro k hk hno
      have hk0 : k < Q 21 0 := by omega
      refine k_iload X dX6_refusalAt_5 rfl ?_
      refine k_aload_n X dX6_refusalAt_7 rfl rfl ?_
      refine k_get0 X h.1 (q := (RX6, TX6, 25)) rfl inlX6 21 (by decide) kb_605 (Or.inl rfl) rfl rfl dX6_refusalAt_8 ?_
      refine k_icmp_ge (tgt := 47) X dX6_refusalAt_11 (by decide) (fun c11 => absurd c11 (nI_ge hk0 (by omega))) (fun c11 => ?_)
      refine k_aload_n X dX6_refusalAt_14 rfl rfl ?_
      refine k_get0 X h.1 (q := (RX6, TX6, 25)) rfl inlX6 15 (by decide) kb_70 (Or.inl rfl) rfl rfl dX6_refusalAt_15 ?_
      refine k_aload_n X dX6_refusalAt_18 rfl rfl ?_
      refine k_get0 X h.1 (q := (RX6, TX6, 25)) rfl inlX6 22 (by decide) kb_76 (Or.inl rfl) rfl rfl dX6_refusalAt_19 ?_
      refine k_iload X dX6_refusalAt_22 rfl ?_
      refine k_mldQ X h 22 (i := k) rfl (by decide) (show k < 600 by omega) dX6_refusalAt_24 ?_
      have h22k := h22 k hk0
      refine k_mld X h 15 (i := Q 22 k) rfl (by decide) (show Q 22 k < 600 by omega) dX6_refusalAt_25 ?_
      refine k_iload_n X dX6_refusalAt_26 rfl rfl ?_
      refine k_icmp_ne (tgt := 41) X dX6_refusalAt_27 (by decide) (fun c27 => ?_) (fun c27 => ?_)
      ·
        refine k_iinc (v := (nI (k + 1))) X dX6_refusalAt_41 rfl (by rw [show Int32.ofInt 1 = nI 1 from by decide, nI_add]) (by rw [hN]; decide) ?_
        refine k_goto (tgt := 5) X dX6_refusalAt_44 (by decide) ?_
        exact k_lo (lo' := [(0, .ref (L (30, 0, 0))), (1, .int (nI d)), (2, .int p), (3, .int (nI (kcn (mRf M Q d) (k + 1)))), (4, .int (nI (k + 1)))]) ⟨rfl, rfl, rfl, kcn_v (y := 0) (if_neg c27), rfl, trivial⟩ (ih (k + 1) (by omega) (fun r hr h1 => by rcases (show r < k ∨ r = k by omega) with z | rfl; { exact hno r z h1 }; { exact absurd (h1.symm.trans (if_neg c27)) (by decide) }))
      ·
        refine k_iload_n X dX6_refusalAt_30 rfl rfl ?_
        refine k_iload_n X dX6_refusalAt_31 rfl rfl ?_
        refine k_icmp_ne (tgt := 38) X dX6_refusalAt_32 (by decide) (fun c32 => ?_) (fun c32 => ?_)
        ·
          refine k_iinc (v := (nI (kcn (mRf M Q d) k + 1))) X dX6_refusalAt_38 rfl (by rw [show Int32.ofInt 1 = nI 1 from by decide, nI_add]) (by rw [hN]; decide) ?_
          refine k_iinc (v := (nI (k + 1))) X dX6_refusalAt_41 rfl (by rw [show Int32.ofInt 1 = nI 1 from by decide, nI_add]) (by rw [hN]; decide) ?_
          refine k_goto (tgt := 5) X dX6_refusalAt_44 (by decide) ?_
          exact k_lo (lo' := [(0, .ref (L (30, 0, 0))), (1, .int (nI d)), (2, .int p), (3, .int (nI (kcn (mRf M Q d) (k + 1)))), (4, .int (nI (k + 1)))]) ⟨rfl, rfl, rfl, kcn_v (if_pos c27), rfl, trivial⟩ (ih (k + 1) (by omega) (fun r hr h1 => by rcases (show r < k ∨ r = k by omega) with z | rfl; { exact hno r z h1 }; { exact c32 }))
        ·
          refine k_iload X dX6_refusalAt_35 rfl ?_
          exact k_iret X hE dX6_refusalAt_37 (by first | omega | exact Nat.le_of_ble_eq_true rfl | (dsimp only; omega)) (by first | omega | exact Nat.le_of_ble_eq_true rfl | (dsimp only; omega)) ⟨⟨_, rfl, Or.inl ⟨k, hk0, if_pos c27, c32, rfl⟩⟩, rfl, rfl⟩
  refine k_iconst (v := (nI 0)) X dX6_refusalAt_0 (by decide) ?_
  refine k_istore_n X dX6_refusalAt_1 rfl (by rw [hN]; decide) ?_
  refine k_iconst (v := (nI 0)) X dX6_refusalAt_2 (by decide) ?_
  refine k_istore X dX6_refusalAt_3 (by rw [hN]; decide) ?_
  exact k_lo (lo' := [(0, .ref (L (30, 0, 0))), (1, .int (nI d)), (2, .int p), (3, .int (nI (kcn (mRf M Q d) 0))), (4, .int (nI 0))]) ⟨rfl, rfl, rfl, rfl, rfl, trivial⟩ (loop (Q 21 0) 0 (by omega) (fun r hr => absurd hr (Nat.not_lt_zero r)))

theorem mRf_le {M : kM2} {Q : kQ2} {d n : Nat} : mRf M Q d n ≤ 1 := by
  unfold mRf
  by_cases h : M 15 (Q 22 n) = nI d
  · rw [if_pos h]
    exact Nat.le_refl 1
  · rw [if_neg h]
    exact Nat.zero_le 1

set_option maxHeartbeats 4000000 in
set_option maxRecDepth 100000 in
theorem m_pile {l : Launch} (htr : l.stackTraces = false) {E : kE} {A : Nat → Prop} {C : kC} {L : kL} {R : Int32} {M : kM2} {Q : kQ2} (h : isM E C L R M Q) (hq21 : Q 21 0 ≤ 600) (h22 : ∀ r, r < Q 21 0 → Q 22 r < 600) (dv : Int32) : kM l yX6_pile cX6_pile 2 (some .int) 3 63 0 0 E A C L [.ref (L (30, 0, 0)), .int dv] (fun v C' L' => ((∃ d, d < 4 ∧ dv = nI d ∧ v = some (.int (nI (kcn (mRf M Q d) (Q 21 0)))) ∧ isM E C' L (nI 0) M Q) ∨ (¬ kix dv 4 ∧ v = some (.int (nI 0)) ∧ isM E C' L (nI 1) M Q)) ∧ L = L' ∧ kFm C C') := by
  refine kM.of htr (by decide) (Nat.le_of_ble_eq_true rfl) (fun Γ hl hR hN hnm X hE => ?_)
  refine k_lo (lo' := [(0, .ref (L (30, 0, 0))), (1, .int dv)]) ⟨rfl, rfl, trivial⟩ ?_
  refine k_aload_n X dX6_pile_0 rfl rfl ?_
  refine k_iload_n X dX6_pile_1 rfl rfl ?_
  refine k_callV (rest := []) X kv_X6_noDevice kb_390 (m_noDevice X.tr h dv) h.1 rfl rfl rfl rfl rfl (Nat.le_of_ble_eq_true rfl) ⟨by rw [hR]; exact Nat.le_of_ble_eq_true rfl, by rw [hR]; exact Nat.le_of_ble_eq_true rfl⟩ ⟨by rw [hR]; exact Nat.le_of_ble_eq_true rfl, by rw [hR]; exact Nat.le_of_ble_eq_true rfl⟩ dX6_pile_2 (fun v2 C9 L9 h9 => ?_)
  obtain ⟨(⟨pd, rfl, h1⟩ | ⟨pd, rfl, h1⟩), rfl, g1⟩ := h9
  ·
    have f1 := kFm.tr kFm.rf g1
    obtain ⟨d, hd, rfl⟩ := pd.ex (by decide)
    refine k_if_eq (tgt := 12) X dX6_pile_5 (by decide) (fun c5 => ?_) (fun c5 => absurd (show (nI 0) = 0 by decide) c5)
    refine k_iconst (v := (-1)) X dX6_pile_12 (by decide) ?_
    refine k_aload_n X dX6_pile_13 rfl rfl ?_
    refine k_iload_n X dX6_pile_14 rfl rfl ?_
    refine k_iconst (v := (-1)) X dX6_pile_15 (by decide) ?_
    refine k_callV (rest := [.int (-1)]) X kv_X6_refusalAt kb_637 (m_refusalAt X.tr h1 hq21 h22 d (-1)) h1.1 rfl rfl rfl rfl rfl (Nat.le_of_ble_eq_true rfl) ⟨by rw [hR]; exact Nat.le_of_ble_eq_true rfl, by rw [hR]; exact Nat.le_of_ble_eq_true rfl⟩ ⟨by rw [hR]; exact Nat.le_of_ble_eq_true rfl, by rw [hR]; exact Nat.le_of_ble_eq_true rfl⟩ dX6_pile_16 (fun v16 C9 L9 h9 => ?_)
    obtain ⟨⟨r9, rfl, hra⟩, rfl, rfl⟩ := h9
    have hcl := kcn_le (f := mRf M Q d) (fun n => mRf_le)
    obtain ⟨_, rfl⟩ := hra.resolve_left (fun z => by obtain ⟨r, h1, _, h2, _⟩ := z; exact nI_n1 (Nat.lt_of_le_of_lt (hcl r) (by omega)) h2)
    refine k_isub X dX6_pile_19 ?_
    refine k_rw (y := nI (kcn (mRf M Q d) (Q 21 0))) kneg1 ?_
    exact k_iret X hE dX6_pile_20 (by first | omega | exact Nat.le_of_ble_eq_true rfl | (dsimp only; omega)) (by first | omega | exact Nat.le_of_ble_eq_true rfl | (dsimp only; omega)) ⟨Or.inl (⟨d, hd, rfl, rfl, h1⟩), rfl, f1⟩
  ·
    have f1 := kFm.tr kFm.rf g1
    refine k_if_eq (tgt := 12) X dX6_pile_5 (by decide) (fun c5 => absurd c5 (show ¬ ((nI 1) = 0) by decide)) (fun c5 => ?_)
    refine k_iconst (v := (nI 0)) X dX6_pile_8 (by decide) ?_
    refine k_goto (tgt := 20) X dX6_pile_9 (by decide) ?_
    exact k_iret X hE dX6_pile_20 (by first | omega | exact Nat.le_of_ble_eq_true rfl | (dsimp only; omega)) (by first | omega | exact Nat.le_of_ble_eq_true rfl | (dsimp only; omega)) ⟨Or.inr (⟨pd, rfl, h1⟩), rfl, f1⟩

set_option maxHeartbeats 4000000 in
set_option maxRecDepth 100000 in
theorem m_noRefusal {l : Launch} (htr : l.stackTraces = false) {E : kE} {A : Nat → Prop} {C : kC} {L : kL} {R : Int32} {M : kM2} {Q : kQ2} (h : isM E C L R M Q) (hq21 : Q 21 0 ≤ 600) (h22 : ∀ r, r < Q 21 0 → Q 22 r < 600) (dv pl : Int32) : kM l yX6_noRefusal cX6_noRefusal 3 (some .boolean) 2 42 0 0 E A C L [.ref (L (30, 0, 0)), .int dv, .int pl] (fun v C' L' => ((∃ d, d < 4 ∧ dv = nI d ∧ ∃ r, r < Q 21 0 ∧ mRf M Q d r = 1 ∧ nI (kcn (mRf M Q d) r) = pl ∧ v = some (.int (nI 0)) ∧ isM E C' L (nI 0) M Q) ∨ (¬ kix dv 4 ∧ v = some (.int (nI 1)) ∧ isM E C' L (nI 1) M Q) ∨ (∃ d, d < 4 ∧ dv = nI d ∧ (pl < 0 ∨ ∀ r, r < Q 21 0 → mRf M Q d r = 1 → ¬ nI (kcn (mRf M Q d) r) = pl) ∧ v = some (.int (nI 1)) ∧ isM E C' L (nI 1) M Q)) ∧ L = L' ∧ kFm C C') := by
  refine kM.of htr (by decide) (Nat.le_of_ble_eq_true rfl) (fun Γ hl hR hN hnm X hE => ?_)
  refine k_lo (lo' := [(0, .ref (L (30, 0, 0))), (1, .int dv), (2, .int pl)]) ⟨rfl, rfl, rfl, trivial⟩ ?_
  refine k_aload_n X dX6_noRefusal_0 rfl rfl ?_
  refine k_iload_n X dX6_noRefusal_1 rfl rfl ?_
  refine k_callS (rest := [.ref (L (30, 0, 0))]) X ks_X6_isDevice kb_177 (m_isDevice X.tr dv) rfl rfl (Nat.le_of_ble_eq_true rfl) ⟨by rw [hR]; exact Nat.le_of_ble_eq_true rfl, by rw [hR]; exact Nat.le_of_ble_eq_true rfl⟩ ⟨by rw [hR]; exact Nat.le_of_ble_eq_true rfl, by rw [hR]; exact Nat.le_of_ble_eq_true rfl⟩ dX6_noRefusal_2 (fun v2 C9 L9 h9 => ?_)
  obtain ⟨(⟨pd, rfl⟩ | ⟨pd, rfl⟩), rfl, rfl⟩ := h9
  ·
    obtain ⟨d, hd, rfl⟩ := pd.ex (by decide)
    refine k_if_eq (tgt := 25) X dX6_noRefusal_5 (by decide) (fun c5 => absurd c5 (show ¬ ((nI 1) = 0) by decide)) (fun c5 => ?_)
    refine k_iload_n X dX6_noRefusal_8 rfl rfl ?_
    refine k_if_lt (tgt := 25) X dX6_noRefusal_9 (by decide) (fun c9 => ?_) (fun c9 => ?_)
    ·
      refine k_iconst (v := (nI 1)) X dX6_noRefusal_25 (by decide) ?_
      refine k_callV (rest := []) X kv_X6_refused kb_183 (m_refused X.tr h (nI 1) (nI 1) (by decide)) h.1 rfl rfl rfl rfl rfl (Nat.le_of_ble_eq_true rfl) ⟨by rw [hR]; exact Nat.le_of_ble_eq_true rfl, by rw [hR]; exact Nat.le_of_ble_eq_true rfl⟩ ⟨by rw [hR]; exact Nat.le_of_ble_eq_true rfl, by rw [hR]; exact Nat.le_of_ble_eq_true rfl⟩ dX6_noRefusal_26 (fun v26 C9 L9 h9 => ?_)
      obtain ⟨rfl, rfl, g2, h2⟩ := h9
      have f2 := kFm.tr kFm.rf g2
      exact k_zret X hE kz1 dX6_noRefusal_29 (by first | omega | exact Nat.le_of_ble_eq_true rfl | (dsimp only; omega)) (by first | omega | exact Nat.le_of_ble_eq_true rfl | (dsimp only; omega)) ⟨Or.inr (Or.inr (⟨d, hd, rfl, Or.inl c9, rfl, h2⟩)), rfl, f2⟩
    ·
      refine k_aload_n X dX6_noRefusal_12 rfl rfl ?_
      refine k_iload_n X dX6_noRefusal_13 rfl rfl ?_
      refine k_iload_n X dX6_noRefusal_14 rfl rfl ?_
      refine k_callV (rest := [.ref (L (30, 0, 0))]) X kv_X6_refusalAt kb_637 (m_refusalAt X.tr h hq21 h22 d pl) h.1 rfl rfl rfl rfl rfl (Nat.le_of_ble_eq_true rfl) ⟨by rw [hR]; exact Nat.le_of_ble_eq_true rfl, by rw [hR]; exact Nat.le_of_ble_eq_true rfl⟩ ⟨by rw [hR]; exact Nat.le_of_ble_eq_true rfl, by rw [hR]; exact Nat.le_of_ble_eq_true rfl⟩ dX6_noRefusal_15 (fun v15 C9 L9 h9 => ?_)
      obtain ⟨⟨r9, rfl, hra⟩, rfl, rfl⟩ := h9
      rcases hra with ⟨r, hr1, hr2, hr3, rfl⟩ | ⟨hno, rfl⟩
      ·
        refine k_if_lt (tgt := 25) X dX6_noRefusal_18 (by decide) (fun c18 => absurd c18 (nI_pos (by omega))) (fun c18 => ?_)
        refine k_iconst (v := (nI 0)) X dX6_noRefusal_21 (by decide) ?_
        refine k_goto (tgt := 26) X dX6_noRefusal_22 (by decide) ?_
        refine k_callV (rest := []) X kv_X6_refused kb_183 (m_refused X.tr h (nI 0) (nI 0) (by decide)) h.1 rfl rfl rfl rfl rfl (Nat.le_of_ble_eq_true rfl) ⟨by rw [hR]; exact Nat.le_of_ble_eq_true rfl, by rw [hR]; exact Nat.le_of_ble_eq_true rfl⟩ ⟨by rw [hR]; exact Nat.le_of_ble_eq_true rfl, by rw [hR]; exact Nat.le_of_ble_eq_true rfl⟩ dX6_noRefusal_26 (fun v26 C9 L9 h9 => ?_)
        obtain ⟨rfl, rfl, g4, h4⟩ := h9
        have f4 := kFm.tr kFm.rf g4
        exact k_zret X hE kz0 dX6_noRefusal_29 (by first | omega | exact Nat.le_of_ble_eq_true rfl | (dsimp only; omega)) (by first | omega | exact Nat.le_of_ble_eq_true rfl | (dsimp only; omega)) ⟨Or.inl (⟨d, hd, rfl, r, hr1, hr2, hr3, rfl, h4⟩), rfl, f4⟩
      ·
        refine k_if_lt (tgt := 25) X dX6_noRefusal_18 (by decide) (fun c18 => ?_) (fun c18 => absurd (kneg0 _ (Nat.lt_of_le_of_lt (kcn_le (fun n => mRf_le) (Q 21 0)) (by omega))) c18)
        refine k_iconst (v := (nI 1)) X dX6_noRefusal_25 (by decide) ?_
        refine k_callV (rest := []) X kv_X6_refused kb_183 (m_refused X.tr h (nI 1) (nI 1) (by decide)) h.1 rfl rfl rfl rfl rfl (Nat.le_of_ble_eq_true rfl) ⟨by rw [hR]; exact Nat.le_of_ble_eq_true rfl, by rw [hR]; exact Nat.le_of_ble_eq_true rfl⟩ ⟨by rw [hR]; exact Nat.le_of_ble_eq_true rfl, by rw [hR]; exact Nat.le_of_ble_eq_true rfl⟩ dX6_noRefusal_26 (fun v26 C9 L9 h9 => ?_)
        obtain ⟨rfl, rfl, g5, h5⟩ := h9
        have f5 := kFm.tr kFm.rf g5
        exact k_zret X hE kz1 dX6_noRefusal_29 (by first | omega | exact Nat.le_of_ble_eq_true rfl | (dsimp only; omega)) (by first | omega | exact Nat.le_of_ble_eq_true rfl | (dsimp only; omega)) ⟨Or.inr (Or.inr (⟨d, hd, rfl, Or.inr hno, rfl, h5⟩)), rfl, f5⟩
  ·
    refine k_if_eq (tgt := 25) X dX6_noRefusal_5 (by decide) (fun c5 => ?_) (fun c5 => absurd (show (nI 0) = 0 by decide) c5)
    refine k_iconst (v := (nI 1)) X dX6_noRefusal_25 (by decide) ?_
    refine k_callV (rest := []) X kv_X6_refused kb_183 (m_refused X.tr h (nI 1) (nI 1) (by decide)) h.1 rfl rfl rfl rfl rfl (Nat.le_of_ble_eq_true rfl) ⟨by rw [hR]; exact Nat.le_of_ble_eq_true rfl, by rw [hR]; exact Nat.le_of_ble_eq_true rfl⟩ ⟨by rw [hR]; exact Nat.le_of_ble_eq_true rfl, by rw [hR]; exact Nat.le_of_ble_eq_true rfl⟩ dX6_noRefusal_26 (fun v26 C9 L9 h9 => ?_)
    obtain ⟨rfl, rfl, g6, h6⟩ := h9
    have f6 := kFm.tr kFm.rf g6
    exact k_zret X hE kz1 dX6_noRefusal_29 (by first | omega | exact Nat.le_of_ble_eq_true rfl | (dsimp only; omega)) (by first | omega | exact Nat.le_of_ble_eq_true rfl | (dsimp only; omega)) ⟨Or.inr (Or.inl (⟨pd, rfl, h6⟩)), rfl, f6⟩

set_option maxHeartbeats 4000000 in
set_option maxRecDepth 100000 in
theorem m_reason {l : Launch} (htr : l.stackTraces = false) {E : kE} {A : Nat → Prop} {C : kC} {L : kL} {R : Int32} {M : kM2} {Q : kQ2} (h : isM E C L R M Q) (hq21 : Q 21 0 ≤ 600) (h22 : ∀ r, r < Q 21 0 → Q 22 r < 600) (dv pl : Int32) : kM l yX6_reason cX6_reason 3 (some .int) 3 64 0 0 E A C L [.ref (L (30, 0, 0)), .int dv, .int pl] (fun v C' L' => ((∃ d, d < 4 ∧ dv = nI d ∧ ∃ r, r < Q 21 0 ∧ mRf M Q d r = 1 ∧ nI (kcn (mRf M Q d) r) = pl ∧ v = some (.int (M 23 r)) ∧ isM E C' L (nI 0) M Q) ∨ (¬ kix dv 4 ∧ v = some (.int (nI 0)) ∧ isM E C' L (nI 1) M Q) ∨ (∃ d, d < 4 ∧ dv = nI d ∧ (pl < 0 ∨ ∀ r, r < Q 21 0 → mRf M Q d r = 1 → ¬ nI (kcn (mRf M Q d) r) = pl) ∧ v = some (.int (nI 0)) ∧ isM E C' L (nI 1) M Q)) ∧ L = L' ∧ kFm C C') := by
  refine kM.of htr (by decide) (Nat.le_of_ble_eq_true rfl) (fun Γ hl hR hN hnm X hE => ?_)
  refine k_lo (lo' := [(0, .ref (L (30, 0, 0))), (1, .int dv), (2, .int pl)]) ⟨rfl, rfl, rfl, trivial⟩ ?_
  refine k_aload_n X dX6_reason_0 rfl rfl ?_
  refine k_iload_n X dX6_reason_1 rfl rfl ?_
  refine k_iload_n X dX6_reason_2 rfl rfl ?_
  refine k_callV (rest := []) X kv_X6_noRefusal kb_658 (m_noRefusal X.tr h hq21 h22 dv pl) h.1 rfl rfl rfl rfl rfl (Nat.le_of_ble_eq_true rfl) ⟨by rw [hR]; exact Nat.le_of_ble_eq_true rfl, by rw [hR]; exact Nat.le_of_ble_eq_true rfl⟩ ⟨by rw [hR]; exact Nat.le_of_ble_eq_true rfl, by rw [hR]; exact Nat.le_of_ble_eq_true rfl⟩ dX6_reason_3 (fun v3 C9 L9 h9 => ?_)
  obtain ⟨(⟨d, hd, rfl, r, hr1, hr2, hr3, rfl, h1⟩ | ⟨pd, rfl, h1⟩ | ⟨d, hd, rfl, pno, rfl, h1⟩), rfl, g1⟩ := h9
  ·
    have f1 := kFm.tr kFm.rf g1
    refine k_if_eq (tgt := 13) X dX6_reason_6 (by decide) (fun c6 => ?_) (fun c6 => absurd (show (nI 0) = 0 by decide) c6)
    refine k_aload_n X dX6_reason_13 rfl rfl ?_
    refine k_get0 X h1.1 (q := (RX6, TX6, 25)) rfl inlX6 23 (by decide) kb_77 (Or.inl rfl) rfl rfl dX6_reason_14 ?_
    refine k_aload_n X dX6_reason_17 rfl rfl ?_
    refine k_iload_n X dX6_reason_18 rfl rfl ?_
    refine k_iload_n X dX6_reason_19 rfl rfl ?_
    refine k_callV (rest := [.ref (L (53, 0, 0))]) X kv_X6_refusalAt kb_637 (m_refusalAt X.tr h1 hq21 h22 d pl) h1.1 rfl rfl rfl rfl rfl (Nat.le_of_ble_eq_true rfl) ⟨by rw [hR]; exact Nat.le_of_ble_eq_true rfl, by rw [hR]; exact Nat.le_of_ble_eq_true rfl⟩ ⟨by rw [hR]; exact Nat.le_of_ble_eq_true rfl, by rw [hR]; exact Nat.le_of_ble_eq_true rfl⟩ dX6_reason_20 (fun v20 C9 L9 h9 => ?_)
    obtain ⟨⟨r9, rfl, hra⟩, rfl, rfl⟩ := h9
    obtain ⟨r2, hs1, hs2, hs3, rfl⟩ := hra.resolve_right (fun z => z.1 r hr1 hr2 hr3)
    have h22k := h22 r2 hs1
    refine k_mld X h1 23 (i := r2) rfl (by decide) (show r2 < 600 by omega) dX6_reason_23 ?_
    exact k_iret X hE dX6_reason_24 (by first | omega | exact Nat.le_of_ble_eq_true rfl | (dsimp only; omega)) (by first | omega | exact Nat.le_of_ble_eq_true rfl | (dsimp only; omega)) ⟨Or.inl (⟨d, hd, rfl, r2, hs1, hs2, hs3, rfl, h1⟩), rfl, f1⟩
  ·
    have f1 := kFm.tr kFm.rf g1
    refine k_if_eq (tgt := 13) X dX6_reason_6 (by decide) (fun c6 => absurd c6 (show ¬ ((nI 1) = 0) by decide)) (fun c6 => ?_)
    refine k_iconst (v := (nI 0)) X dX6_reason_9 (by decide) ?_
    refine k_goto (tgt := 24) X dX6_reason_10 (by decide) ?_
    exact k_iret X hE dX6_reason_24 (by first | omega | exact Nat.le_of_ble_eq_true rfl | (dsimp only; omega)) (by first | omega | exact Nat.le_of_ble_eq_true rfl | (dsimp only; omega)) ⟨Or.inr (Or.inl (⟨pd, rfl, h1⟩)), rfl, f1⟩
  ·
    have f1 := kFm.tr kFm.rf g1
    refine k_if_eq (tgt := 13) X dX6_reason_6 (by decide) (fun c6 => absurd c6 (show ¬ ((nI 1) = 0) by decide)) (fun c6 => ?_)
    refine k_iconst (v := (nI 0)) X dX6_reason_9 (by decide) ?_
    refine k_goto (tgt := 24) X dX6_reason_10 (by decide) ?_
    exact k_iret X hE dX6_reason_24 (by first | omega | exact Nat.le_of_ble_eq_true rfl | (dsimp only; omega)) (by first | omega | exact Nat.le_of_ble_eq_true rfl | (dsimp only; omega)) ⟨Or.inr (Or.inr (⟨d, hd, rfl, pno, rfl, h1⟩)), rfl, f1⟩

set_option maxHeartbeats 4000000 in
set_option maxRecDepth 100000 in
theorem m_refusedValue {l : Launch} (htr : l.stackTraces = false) {E : kE} {A : Nat → Prop} {C : kC} {L : kL} {R : Int32} {M : kM2} {Q : kQ2} (h : isM E C L R M Q) (hq21 : Q 21 0 ≤ 600) (h22 : ∀ r, r < Q 21 0 → Q 22 r < 600) (dv pl : Int32) : kM l yX6_refusedValue cX6_refusedValue 3 (some .int) 3 64 0 0 E A C L [.ref (L (30, 0, 0)), .int dv, .int pl] (fun v C' L' => ((∃ d, d < 4 ∧ dv = nI d ∧ ∃ r, r < Q 21 0 ∧ mRf M Q d r = 1 ∧ nI (kcn (mRf M Q d) r) = pl ∧ v = some (.int (M 18 (Q 22 r))) ∧ isM E C' L (nI 0) M Q) ∨ (¬ kix dv 4 ∧ v = some (.int (nI 0)) ∧ isM E C' L (nI 1) M Q) ∨ (∃ d, d < 4 ∧ dv = nI d ∧ (pl < 0 ∨ ∀ r, r < Q 21 0 → mRf M Q d r = 1 → ¬ nI (kcn (mRf M Q d) r) = pl) ∧ v = some (.int (nI 0)) ∧ isM E C' L (nI 1) M Q)) ∧ L = L' ∧ kFm C C') := by
  refine kM.of htr (by decide) (Nat.le_of_ble_eq_true rfl) (fun Γ hl hR hN hnm X hE => ?_)
  refine k_lo (lo' := [(0, .ref (L (30, 0, 0))), (1, .int dv), (2, .int pl)]) ⟨rfl, rfl, rfl, trivial⟩ ?_
  refine k_aload_n X dX6_refusedValue_0 rfl rfl ?_
  refine k_iload_n X dX6_refusedValue_1 rfl rfl ?_
  refine k_iload_n X dX6_refusedValue_2 rfl rfl ?_
  refine k_callV (rest := []) X kv_X6_noRefusal kb_658 (m_noRefusal X.tr h hq21 h22 dv pl) h.1 rfl rfl rfl rfl rfl (Nat.le_of_ble_eq_true rfl) ⟨by rw [hR]; exact Nat.le_of_ble_eq_true rfl, by rw [hR]; exact Nat.le_of_ble_eq_true rfl⟩ ⟨by rw [hR]; exact Nat.le_of_ble_eq_true rfl, by rw [hR]; exact Nat.le_of_ble_eq_true rfl⟩ dX6_refusedValue_3 (fun v3 C9 L9 h9 => ?_)
  obtain ⟨(⟨d, hd, rfl, r, hr1, hr2, hr3, rfl, h1⟩ | ⟨pd, rfl, h1⟩ | ⟨d, hd, rfl, pno, rfl, h1⟩), rfl, g1⟩ := h9
  ·
    have f1 := kFm.tr kFm.rf g1
    refine k_if_eq (tgt := 13) X dX6_refusedValue_6 (by decide) (fun c6 => ?_) (fun c6 => absurd (show (nI 0) = 0 by decide) c6)
    refine k_aload_n X dX6_refusedValue_13 rfl rfl ?_
    refine k_get0 X h1.1 (q := (RX6, TX6, 25)) rfl inlX6 18 (by decide) kb_73 (Or.inl rfl) rfl rfl dX6_refusedValue_14 ?_
    refine k_aload_n X dX6_refusedValue_17 rfl rfl ?_
    refine k_get0 X h1.1 (q := (RX6, TX6, 25)) rfl inlX6 22 (by decide) kb_76 (Or.inl rfl) rfl rfl dX6_refusedValue_18 ?_
    refine k_aload_n X dX6_refusedValue_21 rfl rfl ?_
    refine k_iload_n X dX6_refusedValue_22 rfl rfl ?_
    refine k_iload_n X dX6_refusedValue_23 rfl rfl ?_
    refine k_callV (rest := [.ref (L (52, 0, 0)), .ref (L (48, 0, 0))]) X kv_X6_refusalAt kb_637 (m_refusalAt X.tr h1 hq21 h22 d pl) h1.1 rfl rfl rfl rfl rfl (Nat.le_of_ble_eq_true rfl) ⟨by rw [hR]; exact Nat.le_of_ble_eq_true rfl, by rw [hR]; exact Nat.le_of_ble_eq_true rfl⟩ ⟨by rw [hR]; exact Nat.le_of_ble_eq_true rfl, by rw [hR]; exact Nat.le_of_ble_eq_true rfl⟩ dX6_refusedValue_24 (fun v24 C9 L9 h9 => ?_)
    obtain ⟨⟨r9, rfl, hra⟩, rfl, rfl⟩ := h9
    obtain ⟨r2, hs1, hs2, hs3, rfl⟩ := hra.resolve_right (fun z => z.1 r hr1 hr2 hr3)
    have h22k := h22 r2 hs1
    refine k_mldQ X h1 22 (i := r2) rfl (by decide) (show r2 < 600 by omega) dX6_refusedValue_27 ?_
    refine k_mld X h1 18 (i := Q 22 r2) rfl (by decide) (show Q 22 r2 < 600 by omega) dX6_refusedValue_28 ?_
    exact k_iret X hE dX6_refusedValue_29 (by first | omega | exact Nat.le_of_ble_eq_true rfl | (dsimp only; omega)) (by first | omega | exact Nat.le_of_ble_eq_true rfl | (dsimp only; omega)) ⟨Or.inl (⟨d, hd, rfl, r2, hs1, hs2, hs3, rfl, h1⟩), rfl, f1⟩
  ·
    have f1 := kFm.tr kFm.rf g1
    refine k_if_eq (tgt := 13) X dX6_refusedValue_6 (by decide) (fun c6 => absurd c6 (show ¬ ((nI 1) = 0) by decide)) (fun c6 => ?_)
    refine k_iconst (v := (nI 0)) X dX6_refusedValue_9 (by decide) ?_
    refine k_goto (tgt := 29) X dX6_refusedValue_10 (by decide) ?_
    exact k_iret X hE dX6_refusedValue_29 (by first | omega | exact Nat.le_of_ble_eq_true rfl | (dsimp only; omega)) (by first | omega | exact Nat.le_of_ble_eq_true rfl | (dsimp only; omega)) ⟨Or.inr (Or.inl (⟨pd, rfl, h1⟩)), rfl, f1⟩
  ·
    have f1 := kFm.tr kFm.rf g1
    refine k_if_eq (tgt := 13) X dX6_refusedValue_6 (by decide) (fun c6 => absurd c6 (show ¬ ((nI 1) = 0) by decide)) (fun c6 => ?_)
    refine k_iconst (v := (nI 0)) X dX6_refusedValue_9 (by decide) ?_
    refine k_goto (tgt := 29) X dX6_refusedValue_10 (by decide) ?_
    exact k_iret X hE dX6_refusedValue_29 (by first | omega | exact Nat.le_of_ble_eq_true rfl | (dsimp only; omega)) (by first | omega | exact Nat.le_of_ble_eq_true rfl | (dsimp only; omega)) ⟨Or.inr (Or.inr (⟨d, hd, rfl, pno, rfl, h1⟩)), rfl, f1⟩
