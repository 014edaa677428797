theorem kSim.rm {S : kI4} {N : kN3} {M : kM2} {Q : kQ2} (h : kSim S N M Q) {d : Nat} (hd : d < 4) : (M 6 d).toNatClampNeg ≤ 40 ∧ M 6 d = nI (M 6 d).toNatClampNeg := by
  obtain ⟨h1, h2⟩ := h.2.1 d hd
  obtain ⟨n, _, hn, e⟩ := h2.ex (by decide) (by decide)
  rw [h1, e, nI_clamp (by omega)]
  exact ⟨hn, rfl⟩
theorem kSim.h22 {S : kI4} {N : kN3} {M : kM2} {Q : kQ2} (h : kSim S N M Q) : ∀ r, r < Q 21 0 → Q 22 r < 600 := fun r hr => by
  have := (h.2.2.2.2.2.1.2.2 r hr).1
  have := h.q14
  omega
theorem kSim.hc {S : kI4} {N : kN3} {M : kM2} {Q : kQ2} (h : kSim S N M Q) {d : Nat} (hd : d < 4) : S 6 d 0 0 + S 7 d 0 0 = nI (kcn (mHd M d) 40 + kcn (mUn M d) (Q 10 d)) := by
  rw [(h.2.2.1 d hd).1, (h.2.2.2.1 d hd).2.2.1, (h.2.2.2.1 d hd).1, nI_add]
  rfl
def kOn (o : Option kT) : Int32 := match o with
  | none => nI 0
  | some _ => nI 1
theorem kSim.hsv {S : kI4} {N : kN3} {M : kM2} {Q : kQ2} (h : kSim S N M Q) {d b : Nat} (hd : d < 4) {x : Int32} {o : Option kT} (hf : kHf S N d x o) (hh : mHs M Q d x b) : kOn o = nI b := by
  rcases h.hs hd hf hh with ⟨rfl, e⟩ | ⟨⟨t, rfl⟩, e⟩
  · exact e.symm
  · exact e.symm
theorem kin1h {mo : Nat} (h1 : 1 ≤ mo) (h2 : mo ≤ 100) : kin (nI mo) (nI 1) (nI 100) := ⟨fun w => absurd ((nI_ltI (by omega) (by decide)).mp w) (by omega), nI_le h2 (by decide)⟩
theorem ksend_m0 (N : kN3) (p1 p2 : Int32) : ∃ m0, m0 ≤ 100 ∧ (∀ d mo, d < 4 → p1 = nI d → mo ≤ 100 → p2 = nI mo → min mo (N 3 d 0 - N 4 d 0) = m0) ∧ ((¬ ∃ d mo, d < 4 ∧ p1 = nI d ∧ 1 ≤ mo ∧ mo ≤ 100 ∧ p2 = nI mo) → m0 = 0) := by
  by_cases h : ∃ d mo, d < 4 ∧ p1 = nI d ∧ mo ≤ 100 ∧ p2 = nI mo
  · obtain ⟨d, mo, h1, h2, h3, h4⟩ := h
    refine ⟨min mo (N 3 d 0 - N 4 d 0), by omega, fun d2 mo2 g1 g2 g3 g4 => ?_, fun hn => ?_⟩
    · have e1 := nI_d (g2.symm.trans h2) g1 h1
      have e2 := nI_inj (g4.symm.trans h4) (by omega) (by omega)
      rw [e1, e2]
    · by_cases z : 1 ≤ mo
      · exact absurd ⟨d, mo, h1, h2, z, h3, h4⟩ hn
      · omega
  · exact ⟨0, by decide, fun d mo g1 g2 g3 g4 => absurd ⟨d, mo, g1, g2, g3, g4⟩ h, fun _ => rfl⟩
theorem lw_tailHolds {Γ : kG} {E : kE} {A : Nat → Prop} {b n : Nat} {xs : Nat → Int32} (K : kLc Γ E A b n xs) {C : kC} {L : kL} {M : kM2} {Q : kQ2} {i cells slots : Nat} {mv : Int32} {f9 : Nat → Int64} (hM : isM E C L (nI 0) M Q) (hF : kOt E C f9) (hv : (mv = 0 → f9 0 = 0) ∧ (¬ mv = 0 → f9 0 = 1)) (hc : cells ≤ 601024) (hs : slots ≤ 7293034)
    (k : kW Γ E A C L cells slots 1509 (kLo b L i) []) : kW Γ E A C L cells slots 834 [(0, .ref b), (1, .ref (L (1, 0, 0))), (2, .ref (L (30, 0, 0))), (3, .ref (L (54, 0, 0))), (4, .int (nI (5 * i))), (5, .int (nI 0)), (6, .int mv)] [] := by
  obtain ⟨X, hN, hR, rd, ln, rt⟩ := K
  have z0 : (nI 0).toNatClampNeg = 0 := by decide
  have fin : kW Γ E A C L cells slots 869 [(0, .ref b), (1, .ref (L (1, 0, 0))), (2, .ref (L (30, 0, 0))), (3, .ref (L (54, 0, 0))), (4, .int (nI (5 * i))), (5, .int (nI 0)), (6, .int mv)] [] := by
    refine k_goto (tgt := 1509) X dL_law_869 (by decide) ?_
    exact k_lo (lo' := kLo b L i) ⟨rfl, rfl, rfl, rfl, rfl, trivial⟩ k
  refine k_aload_n X dL_law_834 rfl rfl ?_
  refine k_callV (rest := []) X kv_X6_thrown kb_192 (m_thrown X.tr hM) hM.1 rfl rfl rfl rfl rfl (Nat.le_of_ble_eq_true rfl) ⟨by rw [hR]; exact Nat.le_of_ble_eq_true rfl, by rw [hR]; exact Nat.le_of_ble_eq_true rfl⟩ ⟨by rw [hR]; exact hc, by rw [hR]; exact hs⟩ dL_law_835 (fun v C9 L9 h9 => ?_)
  obtain ⟨rfl, rfl, rfl⟩ := h9
  refine k_iload X dL_law_838 rfl ?_
  refine k_icmp_eq (tgt := 845) X dL_law_840 (by decide) (fun c6 => ?_) (fun c6 => absurd rfl c6)
  refine k_iload X dL_law_845 rfl ?_
  refine k_if_ne (tgt := 869) X dL_law_847 (by decide) (fun c13 => absurd rfl c13) (fun c13 => ?_)
  refine k_aload_n X dL_law_850 rfl rfl ?_
  refine k_iconst (v := nI 0) X dL_law_851 (by decide) ?_
  refine k_lald (t := (54, 0, 0)) X hF rfl (vp_in_nI (by decide) (by decide)) dL_law_852 ?_
  refine k_iload X dL_law_853 rfl ?_
  refine k_if_eq (tgt := 862) X dL_law_855 (by decide) (fun c => ?_) (fun c => ?_)
  · refine k_lconst (v := 0) X dL_law_862 (by decide) ?_
    refine k_lcmp X dL_law_863 ?_
    refine k_if_eq (tgt := 869) X dL_law_864 (by decide) (fun c23 => ?_) (fun c23 => absurd (lgc0 (by rw [z0]; exact hv.1 c)) c23)
    exact fin
  · refine k_lconst (v := 1) X dL_law_858 (by decide) ?_
    refine k_goto (tgt := 863) X dL_law_859 (by decide) ?_
    refine k_lcmp X dL_law_863 ?_
    refine k_if_eq (tgt := 869) X dL_law_864 (by decide) (fun c23 => ?_) (fun c23 => absurd (lgc0 (by rw [z0]; exact hv.2 c)) c23)
    exact fin

set_option maxHeartbeats 4000000 in
set_option maxRecDepth 100000 in
theorem lw_add {Γ : kG} {E : kE} {A : Nat → Prop} {b n : Nat} {xs : Nat → Int32} (K : kLc Γ E A b n xs) {C : kC} {L : kL} {S : kI4} {N : kN3} {M : kM2} {Q : kQ2} (W : kLw E C L S N M Q) {i cells slots : Nat} (hi : 5 * i + 5 ≤ n) (hi5 : i < 512) (hq : Q 14 0 ≤ i) (hc : cells + 1000 ≤ 601024) (hs9 : slots + 100000 ≤ 7293034) (k : ∀ (C' : kC) (L' : kL) (S' : kI4) (N' : kN3) (M' : kM2) (Q' : kQ2) (cells' slots' : Nat), kLw E C' L' S' N' M' Q' → Q' 14 0 ≤ i + 1 → cells' + 6 * kSn N ≤ cells + 130 + 6 * kSn N' → slots' + 900 * kSn N ≤ slots + 4000 + 900 * kSn N' → kW Γ E A C' L' cells' slots' 1509 (kLo b L' i) []) : kW Γ E A C L cells slots 140 (kLo b L i) [] := by
  have K2 := K
  obtain ⟨X, hN, hR, rd, ln, rt⟩ := K
  obtain ⟨hX, ⟨R, hM⟩, ⟨f8, hF⟩, hs, hz⟩ := W
  have h1 : Q 1 0 = N 1 0 0 := hs.1.1
  have hn40 : N 1 0 0 ≤ 40 := hs.1.2.1
  have kj : ∀ x, kix x (Q 1 0) ↔ kix x (N 1 0 0) := fun x => by rw [h1]
  obtain ⟨p1, ep1⟩ : ∃ p, xs (5 * i + 1) = p := ⟨_, rfl⟩
  obtain ⟨p2, ep2⟩ : ∃ p, xs (5 * i + 2) = p := ⟨_, rfl⟩
  refine k_aload_n X dL_law_140 rfl rfl ?_
  refine k_aload_n X dL_law_141 rfl rfl ?_
  refine k_iload X dL_law_142 rfl ?_
  refine k_iconst (v := nI 1) X dL_law_144 (by decide) ?_
  refine k_iaddN X dL_law_145 ?_
  refine rd _ _ _ _ _ _ _ _ (show 5 * i + 1 < n by omega) dL_law_146 ?_
  refine k_rw (y := p1) ep1 ?_
  refine k_aload_n X dL_law_147 rfl rfl ?_
  refine k_iload X dL_law_148 rfl ?_
  refine k_iconst (v := nI 2) X dL_law_150 (by decide) ?_
  refine k_iaddN X dL_law_151 ?_
  refine rd _ _ _ _ _ _ _ _ (show 5 * i + 2 < n by omega) dL_law_152 ?_
  refine k_rw (y := p2) ep2 ?_
  refine k_aload_n X dL_law_153 rfl rfl ?_
  refine k_callSH (rest := []) X ksh_add kb_78 (h_add X.tr hX hs.ok hF p1 p2) rfl rfl (Nat.le_of_ble_eq_true rfl) ⟨by rw [hR]; exact Nat.le_of_ble_eq_true rfl, by rw [hR]; exact Nat.le_of_ble_eq_true rfl⟩ ⟨by rw [hR]; exact (show cells + 6 ≤ 601024 by omega), by rw [hR]; exact (show slots + 110 ≤ 7293034 by omega)⟩ dL_law_154 (fun v C9 L9 h9 => ?_)
  rcases h9 with ⟨rv, C1, f9, hp, rfl, rfl, hf9⟩ | ⟨rfl, z, rfl, rfl⟩ | ⟨rfl, z, rfl, rfl⟩
  ·
    obtain ⟨⟨a1, a2, ⟨⟩, hX1⟩, hFr, hL1⟩ := hp
    have hX2 := hX1.k54 (e := some (.inl (E.2.1 2, 1, .inr (.inl f9))))
    have hM2 := (hFr.m hM).k54 (e := some (.inl (E.2.1 2, 1, .inr (.inl f9))))
    have hF2 : kOt E (kup C1 (54, 0, 0) (some (.inl (E.2.1 2, 1, .inr (.inl f9))))) f9 := kup_s
    refine k_istore X dL_law_157 (by rw [hN]; decide) ?_
    refine k_lo (lo' := [(0, .ref b), (1, .ref (L9 (1, 0, 0))), (2, .ref (L9 (30, 0, 0))), (3, .ref (L9 (54, 0, 0))), (4, .int (nI (5 * i))), (5, .int (nI 0))]) ⟨rfl, kLR (hL1 (1, 0, 0) (by decide)), kLR (hFr (30, 0, 0) (show 30 ≤ 30 by decide)).2, kLR (hFr (54, 0, 0) (show 30 ≤ 54 by decide)).2, rfl, rfl, trivial⟩ ?_
    refine k_aload_n X dL_law_159 rfl rfl ?_
    refine k_aload_n X dL_law_160 rfl rfl ?_
    refine k_iload X dL_law_161 rfl ?_
    refine k_iconst (v := nI 1) X dL_law_163 (by decide) ?_
    refine k_iaddN X dL_law_164 ?_
    refine rd _ _ _ _ _ _ _ _ (show 5 * i + 1 < n by omega) dL_law_165 ?_
    refine k_rw (y := p1) ep1 ?_
    refine k_aload_n X dL_law_166 rfl rfl ?_
    refine k_iload X dL_law_167 rfl ?_
    refine k_iconst (v := nI 2) X dL_law_169 (by decide) ?_
    refine k_iaddN X dL_law_170 ?_
    refine rd _ _ _ _ _ _ _ _ (show 5 * i + 2 < n by omega) dL_law_171 ?_
    refine k_rw (y := p2) ep2 ?_
    refine k_callV (rest := []) X kv_X6_add kb_172 (m_add X.tr hM2 hs.q1 p1 p2) hM2.1 rfl rfl rfl rfl rfl (Nat.le_of_ble_eq_true rfl) ⟨by rw [hR]; exact Nat.le_of_ble_eq_true rfl, by rw [hR]; exact Nat.le_of_ble_eq_true rfl⟩ ⟨by rw [hR]; exact (show cells + 6 + 0 ≤ 601024 by omega), by rw [hR]; exact (show slots + 110 + 0 ≤ 7293034 by omega)⟩ dL_law_172 (fun v C8 L8 g9 => ?_)
    obtain ⟨hcs, rfl, hFm⟩ := g9
    rcases hcs with ⟨⟨b1, b2⟩, b3, rfl, hM3⟩ | ⟨y, rfl, hM3⟩ | ⟨⟨b1, b2⟩, b3, rfl, hM3⟩
    ·
      refine k_istore X dL_law_175 (by rw [hN]; decide) ?_
      have esn : kSn (nAddJ N) = kSn N := kSn.cg fun e => w3_n (by omega)
      refine k_lo (lo' := [(0, .ref b), (1, .ref (L9 (1, 0, 0))), (2, .ref (L9 (30, 0, 0))), (3, .ref (L9 (54, 0, 0))), (4, .int (nI (5 * i))), (5, .int (nI 0)), (6, .int _)]) ⟨rfl, rfl, rfl, rfl, rfl, rfl, rfl, trivial⟩ ?_
      exact lw_tailOk K2 hM3 (hF2.fm hFm) (hf9.trans (congrArg Int32.toInt64 (by rw [h1]))) (by omega) (by omega) dL_law_177 dL_law_178 dL_law_181 dL_law_183 dL_law_188 dL_law_190 dL_law_193 dL_law_194 dL_law_195 dL_law_196 dL_law_198 dL_law_199 dL_law_200 dL_law_205 (by decide) (k _ _ (sAddJ S (N 1 0 0) p1 p2) (nAddJ N) (w2 (w2 M 2 (Q 1 0) p1) 3 (Q 1 0) p2) (w2 Q 1 0 (Q 1 0 + 1)) _ _ ⟨hX2.fm hFm, ⟨_, hM3⟩, ⟨_, hF2.fm hFm⟩, hs.add a2, hz.of ((w2_f (a := 3) (b := 7) (by decide)).trans (w2_f (a := 2) (b := 7) (by decide)))⟩ (by rw [w2_f (a := 1) (b := 14) (by decide)]; omega) (by rw [esn]; omega) (by rw [esn]; omega))
    ·
      exact absurd a1 (fun w => y ⟨kin4.mp w.1, w.2⟩)
    ·
      exact absurd a2 (fun w : N 1 0 0 < 40 => by omega)
  ·
    have hX2 := hX
    have hM2 := hM
    have hF2 := hF
    refine k_istore X dL_law_157 (by rw [hN]; decide) ?_
    refine k_lo (lo' := [(0, .ref b), (1, .ref (L (1, 0, 0))), (2, .ref (L (30, 0, 0))), (3, .ref (L (54, 0, 0))), (4, .int (nI (5 * i))), (5, .int (nI 1))]) ⟨rfl, rfl, rfl, rfl, rfl, rfl, trivial⟩ ?_
    refine k_aload_n X dL_law_159 rfl rfl ?_
    refine k_aload_n X dL_law_160 rfl rfl ?_
    refine k_iload X dL_law_161 rfl ?_
    refine k_iconst (v := nI 1) X dL_law_163 (by decide) ?_
    refine k_iaddN X dL_law_164 ?_
    refine rd _ _ _ _ _ _ _ _ (show 5 * i + 1 < n by omega) dL_law_165 ?_
    refine k_rw (y := p1) ep1 ?_
    refine k_aload_n X dL_law_166 rfl rfl ?_
    refine k_iload X dL_law_167 rfl ?_
    refine k_iconst (v := nI 2) X dL_law_169 (by decide) ?_
    refine k_iaddN X dL_law_170 ?_
    refine rd _ _ _ _ _ _ _ _ (show 5 * i + 2 < n by omega) dL_law_171 ?_
    refine k_rw (y := p2) ep2 ?_
    refine k_callV (rest := []) X kv_X6_add kb_172 (m_add X.tr hM2 hs.q1 p1 p2) hM2.1 rfl rfl rfl rfl rfl (Nat.le_of_ble_eq_true rfl) ⟨by rw [hR]; exact Nat.le_of_ble_eq_true rfl, by rw [hR]; exact Nat.le_of_ble_eq_true rfl⟩ ⟨by rw [hR]; exact (show cells + 6 + 0 ≤ 601024 by omega), by rw [hR]; exact (show slots + 110 + 0 ≤ 7293034 by omega)⟩ dL_law_172 (fun v C8 L8 g9 => ?_)
    obtain ⟨hcs, rfl, hFm⟩ := g9
    rcases hcs with ⟨⟨b1, b2⟩, b3, rfl, hM3⟩ | ⟨y, rfl, hM3⟩ | ⟨⟨b1, b2⟩, b3, rfl, hM3⟩
    ·
      exact absurd (And.intro (kin4.mpr b1) b2) z
    ·
      refine k_istore X dL_law_175 (by rw [hN]; decide) ?_
      refine k_lo (lo' := [(0, .ref b), (1, .ref (L (1, 0, 0))), (2, .ref (L (30, 0, 0))), (3, .ref (L (54, 0, 0))), (4, .int (nI (5 * i))), (5, .int (nI 1)), (6, .int (nI 0))]) ⟨rfl, rfl, rfl, rfl, rfl, rfl, rfl, trivial⟩ ?_
      exact lw_tailEx K2 (j := 1) (w := 15) (by decide) hM3 (by omega) (by omega) dL_law_177 dL_law_178 dL_law_181 dL_law_183 dL_law_188 dL_law_190 dL_law_205 (by decide) (k _ _ S N M Q _ _ ⟨hX2.fm hFm, ⟨_, hM3⟩, ⟨_, hF2.fm hFm⟩, hs, hz⟩ (by omega) (by omega) (by omega))
    ·
      exact absurd (And.intro (kin4.mpr b1) b2) z
  ·
    have hX2 := hX
    have hM2 := hM
    have hF2 := hF
    refine k_istore X dL_law_157 (by rw [hN]; decide) ?_
    refine k_lo (lo' := [(0, .ref b), (1, .ref (L (1, 0, 0))), (2, .ref (L (30, 0, 0))), (3, .ref (L (54, 0, 0))), (4, .int (nI (5 * i))), (5, .int (nI 2))]) ⟨rfl, rfl, rfl, rfl, rfl, rfl, trivial⟩ ?_
    refine k_aload_n X dL_law_159 rfl rfl ?_
    refine k_aload_n X dL_law_160 rfl rfl ?_
    refine k_iload X dL_law_161 rfl ?_
    refine k_iconst (v := nI 1) X dL_law_163 (by decide) ?_
    refine k_iaddN X dL_law_164 ?_
    refine rd _ _ _ _ _ _ _ _ (show 5 * i + 1 < n by omega) dL_law_165 ?_
    refine k_rw (y := p1) ep1 ?_
    refine k_aload_n X dL_law_166 rfl rfl ?_
    refine k_iload X dL_law_167 rfl ?_
    refine k_iconst (v := nI 2) X dL_law_169 (by decide) ?_
    refine k_iaddN X dL_law_170 ?_
    refine rd _ _ _ _ _ _ _ _ (show 5 * i + 2 < n by omega) dL_law_171 ?_
    refine k_rw (y := p2) ep2 ?_
    refine k_callV (rest := []) X kv_X6_add kb_172 (m_add X.tr hM2 hs.q1 p1 p2) hM2.1 rfl rfl rfl rfl rfl (Nat.le_of_ble_eq_true rfl) ⟨by rw [hR]; exact Nat.le_of_ble_eq_true rfl, by rw [hR]; exact Nat.le_of_ble_eq_true rfl⟩ ⟨by rw [hR]; exact (show cells + 6 + 0 ≤ 601024 by omega), by rw [hR]; exact (show slots + 110 + 0 ≤ 7293034 by omega)⟩ dL_law_172 (fun v C8 L8 g9 => ?_)
    obtain ⟨hcs, rfl, hFm⟩ := g9
    rcases hcs with ⟨⟨b1, b2⟩, b3, rfl, hM3⟩ | ⟨y, rfl, hM3⟩ | ⟨⟨b1, b2⟩, b3, rfl, hM3⟩
    ·
      exact absurd (show N 1 0 0 < 40 by omega) (fun w : N 1 0 0 < 40 => by have := z.2.2; omega)
    ·
      exact absurd (And.intro z.1 z.2.1) (fun w => y ⟨kin4.mp w.1, w.2⟩)
    ·
      refine k_istore X dL_law_175 (by rw [hN]; decide) ?_
      refine k_lo (lo' := [(0, .ref b), (1, .ref (L (1, 0, 0))), (2, .ref (L (30, 0, 0))), (3, .ref (L (54, 0, 0))), (4, .int (nI (5 * i))), (5, .int (nI 2)), (6, .int (nI 0))]) ⟨rfl, rfl, rfl, rfl, rfl, rfl, rfl, trivial⟩ ?_
      exact lw_tailEx K2 (j := 2) (w := 15) (by decide) hM3 (by omega) (by omega) dL_law_177 dL_law_178 dL_law_181 dL_law_183 dL_law_188 dL_law_190 dL_law_205 (by decide) (k _ _ S N M Q _ _ ⟨hX2.fm hFm, ⟨_, hM3⟩, ⟨_, hF2.fm hFm⟩, hs, hz⟩ (by omega) (by omega) (by omega))

set_option maxHeartbeats 4000000 in
set_option maxRecDepth 100000 in
theorem lw_give {Γ : kG} {E : kE} {A : Nat → Prop} {b n : Nat} {xs : Nat → Int32} (K : kLc Γ E A b n xs) {C : kC} {L : kL} {S : kI4} {N : kN3} {M : kM2} {Q : kQ2} (W : kLw E C L S N M Q) {i cells slots : Nat} (hi : 5 * i + 5 ≤ n) (hi5 : i < 512) (hq : Q 14 0 ≤ i) (hc : cells + 1000 ≤ 601024) (hs9 : slots + 100000 ≤ 7293034) (k : ∀ (C' : kC) (L' : kL) (S' : kI4) (N' : kN3) (M' : kM2) (Q' : kQ2) (cells' slots' : Nat), kLw E C' L' S' N' M' Q' → Q' 14 0 ≤ i + 1 → cells' + 6 * kSn N ≤ cells + 130 + 6 * kSn N' → slots' + 900 * kSn N ≤ slots + 4000 + 900 * kSn N' → kW Γ E A C' L' cells' slots' 1509 (kLo b L' i) []) : kW Γ E A C L cells slots 208 (kLo b L i) [] := by
  have K2 := K
  obtain ⟨X, hN, hR, rd, ln, rt⟩ := K
  obtain ⟨hX, ⟨R, hM⟩, ⟨f8, hF⟩, hs, hz⟩ := W
  have h1 : Q 1 0 = N 1 0 0 := hs.1.1
  have hn40 : N 1 0 0 ≤ 40 := hs.1.2.1
  have kj : ∀ x, kix x (Q 1 0) ↔ kix x (N 1 0 0) := fun x => by rw [h1]
  obtain ⟨p1, ep1⟩ : ∃ p, xs (5 * i + 1) = p := ⟨_, rfl⟩
  obtain ⟨p2, ep2⟩ : ∃ p, xs (5 * i + 2) = p := ⟨_, rfl⟩
  refine k_aload_n X dL_law_208 rfl rfl ?_
  refine k_aload_n X dL_law_209 rfl rfl ?_
  refine k_iload X dL_law_210 rfl ?_
  refine k_iconst (v := nI 1) X dL_law_212 (by decide) ?_
  refine k_iaddN X dL_law_213 ?_
  refine rd _ _ _ _ _ _ _ _ (show 5 * i + 1 < n by omega) dL_law_214 ?_
  refine k_rw (y := p1) ep1 ?_
  refine k_aload_n X dL_law_215 rfl rfl ?_
  refine k_iload X dL_law_216 rfl ?_
  refine k_iconst (v := nI 2) X dL_law_218 (by decide) ?_
  refine k_iaddN X dL_law_219 ?_
  refine rd _ _ _ _ _ _ _ _ (show 5 * i + 2 < n by omega) dL_law_220 ?_
  refine k_rw (y := p2) ep2 ?_
  refine k_aload_n X dL_law_221 rfl rfl ?_
  refine k_callSH (rest := []) X ksh_give kb_196 (h_give X.tr hX hs.ok hF p1 p2) rfl rfl (Nat.le_of_ble_eq_true rfl) ⟨by rw [hR]; exact Nat.le_of_ble_eq_true rfl, by rw [hR]; exact Nat.le_of_ble_eq_true rfl⟩ ⟨by rw [hR]; exact (show cells + 2 ≤ 601024 by omega), by rw [hR]; exact (show slots + 12 ≤ 7293034 by omega)⟩ dL_law_222 (fun v C9 L9 h9 => ?_)
  rcases h9 with ⟨rv, C1, f9, hp, rfl, rfl, hf9⟩ | ⟨rfl, z, rfl, rfl⟩ | ⟨rfl, z, rfl, rfl⟩
  ·
    obtain ⟨⟨j, a1, rfl, a2, ⟨⟩, hX1⟩, rfl, hFr⟩ := hp
    have hX2 := hX1.k54 (e := some (.inl (E.2.1 2, 1, .inr (.inl f9))))
    have hM2 := (hFr.m hM).k54 (e := some (.inl (E.2.1 2, 1, .inr (.inl f9))))
    have hF2 : kOt E (kup C1 (54, 0, 0) (some (.inl (E.2.1 2, 1, .inr (.inl f9))))) f9 := kup_s
    refine k_istore X dL_law_225 (by rw [hN]; decide) ?_
    refine k_lo (lo' := [(0, .ref b), (1, .ref (L (1, 0, 0))), (2, .ref (L (30, 0, 0))), (3, .ref (L (54, 0, 0))), (4, .int (nI (5 * i))), (5, .int (nI 0))]) ⟨rfl, rfl, rfl, rfl, rfl, rfl, trivial⟩ ?_
    refine k_aload_n X dL_law_227 rfl rfl ?_
    refine k_aload_n X dL_law_228 rfl rfl ?_
    refine k_iload X dL_law_229 rfl ?_
    refine k_iconst (v := nI 1) X dL_law_231 (by decide) ?_
    refine k_iaddN X dL_law_232 ?_
    refine rd _ _ _ _ _ _ _ _ (show 5 * i + 1 < n by omega) dL_law_233 ?_
    refine k_rw (y := (nI j)) ep1 ?_
    refine k_aload_n X dL_law_234 rfl rfl ?_
    refine k_iload X dL_law_235 rfl ?_
    refine k_iconst (v := nI 2) X dL_law_237 (by decide) ?_
    refine k_iaddN X dL_law_238 ?_
    refine rd _ _ _ _ _ _ _ _ (show 5 * i + 2 < n by omega) dL_law_239 ?_
    refine k_rw (y := p2) ep2 ?_
    refine k_callV (rest := []) X kv_X6_give kb_228 (m_give X.tr hM2 hs.q1 (nI j) p2) hM2.1 rfl rfl rfl rfl rfl (Nat.le_of_ble_eq_true rfl) ⟨by rw [hR]; exact Nat.le_of_ble_eq_true rfl, by rw [hR]; exact Nat.le_of_ble_eq_true rfl⟩ ⟨by rw [hR]; exact (show cells + 2 + 0 ≤ 601024 by omega), by rw [hR]; exact (show slots + 12 + 0 ≤ 7293034 by omega)⟩ dL_law_240 (fun v C8 L8 g9 => ?_)
    obtain ⟨hcs, rfl, hFm⟩ := g9
    rcases hcs with ⟨j2, b1, e2, b2, rfl, hM3⟩ | ⟨y, rfl, hM3⟩ | ⟨⟨b1, b2⟩, rfl, hM3⟩
    ·
      refine k_istore X dL_law_243 (by rw [hN]; decide) ?_
      have ej := nI_inj e2 (by omega) (by omega)
      subst ej
      refine k_lo (lo' := [(0, .ref b), (1, .ref (L (1, 0, 0))), (2, .ref (L (30, 0, 0))), (3, .ref (L (54, 0, 0))), (4, .int (nI (5 * i))), (5, .int (nI 0)), (6, .int _)]) ⟨rfl, rfl, rfl, rfl, rfl, rfl, rfl, trivial⟩ ?_
      exact lw_tailOk K2 hM3 (hF2.fm hFm) (hf9.trans (congrArg Int32.toInt64 (hs.1.2.2.1 j a1).1.symm)) (by omega) (by omega) dL_law_245 dL_law_246 dL_law_249 dL_law_251 dL_law_256 dL_law_258 dL_law_261 dL_law_262 dL_law_263 dL_law_264 dL_law_266 dL_law_267 dL_law_268 dL_law_273 (by decide) (k _ _ (w4 S 2 j 0 0 p2) N (w2 M 2 j p2) Q _ _ ⟨hX2.fm hFm, ⟨_, hM3⟩, ⟨_, hF2.fm hFm⟩, hs.give a1, hz.of (w2_f (a := 2) (b := 7) (by decide))⟩ (by omega) (by omega) (by omega))
    ·
      exact absurd (kix.of a1 (by omega)) (fun w => y ((kj _).mpr w))
    ·
      exact absurd a2 (fun w => b2 (kin4.mp w))
  ·
    have hX2 := hX
    have hM2 := hM
    have hF2 := hF
    refine k_istore X dL_law_225 (by rw [hN]; decide) ?_
    refine k_lo (lo' := [(0, .ref b), (1, .ref (L (1, 0, 0))), (2, .ref (L (30, 0, 0))), (3, .ref (L (54, 0, 0))), (4, .int (nI (5 * i))), (5, .int (nI 1))]) ⟨rfl, rfl, rfl, rfl, rfl, rfl, trivial⟩ ?_
    refine k_aload_n X dL_law_227 rfl rfl ?_
    refine k_aload_n X dL_law_228 rfl rfl ?_
    refine k_iload X dL_law_229 rfl ?_
    refine k_iconst (v := nI 1) X dL_law_231 (by decide) ?_
    refine k_iaddN X dL_law_232 ?_
    refine rd _ _ _ _ _ _ _ _ (show 5 * i + 1 < n by omega) dL_law_233 ?_
    refine k_rw (y := p1) ep1 ?_
    refine k_aload_n X dL_law_234 rfl rfl ?_
    refine k_iload X dL_law_235 rfl ?_
    refine k_iconst (v := nI 2) X dL_law_237 (by decide) ?_
    refine k_iaddN X dL_law_238 ?_
    refine rd _ _ _ _ _ _ _ _ (show 5 * i + 2 < n by omega) dL_law_239 ?_
    refine k_rw (y := p2) ep2 ?_
    refine k_callV (rest := []) X kv_X6_give kb_228 (m_give X.tr hM2 hs.q1 p1 p2) hM2.1 rfl rfl rfl rfl rfl (Nat.le_of_ble_eq_true rfl) ⟨by rw [hR]; exact Nat.le_of_ble_eq_true rfl, by rw [hR]; exact Nat.le_of_ble_eq_true rfl⟩ ⟨by rw [hR]; exact (show cells + 2 + 0 ≤ 601024 by omega), by rw [hR]; exact (show slots + 12 + 0 ≤ 7293034 by omega)⟩ dL_law_240 (fun v C8 L8 g9 => ?_)
    obtain ⟨hcs, rfl, hFm⟩ := g9
    rcases hcs with ⟨j2, b1, e2, b2, rfl, hM3⟩ | ⟨y, rfl, hM3⟩ | ⟨⟨b1, b2⟩, rfl, hM3⟩
    ·
      exact absurd (by rw [e2]; exact kix.of (by omega) (by omega)) z
    ·
      refine k_istore X dL_law_243 (by rw [hN]; decide) ?_
      refine k_lo (lo' := [(0, .ref b), (1, .ref (L (1, 0, 0))), (2, .ref (L (30, 0, 0))), (3, .ref (L (54, 0, 0))), (4, .int (nI (5 * i))), (5, .int (nI 1)), (6, .int (nI 0))]) ⟨rfl, rfl, rfl, rfl, rfl, rfl, rfl, trivial⟩ ?_
      exact lw_tailEx K2 (j := 1) (w := 15) (by decide) hM3 (by omega) (by omega) dL_law_245 dL_law_246 dL_law_249 dL_law_251 dL_law_256 dL_law_258 dL_law_273 (by decide) (k _ _ S N M Q _ _ ⟨hX2.fm hFm, ⟨_, hM3⟩, ⟨_, hF2.fm hFm⟩, hs, hz⟩ (by omega) (by omega) (by omega))
    ·
      exact absurd ((kj _).mp b1) z
  ·
    have hX2 := hX
    have hM2 := hM
    have hF2 := hF
    refine k_istore X dL_law_225 (by rw [hN]; decide) ?_
    refine k_lo (lo' := [(0, .ref b), (1, .ref (L (1, 0, 0))), (2, .ref (L (30, 0, 0))), (3, .ref (L (54, 0, 0))), (4, .int (nI (5 * i))), (5, .int (nI 2))]) ⟨rfl, rfl, rfl, rfl, rfl, rfl, trivial⟩ ?_
    refine k_aload_n X dL_law_227 rfl rfl ?_
    refine k_aload_n X dL_law_228 rfl rfl ?_
    refine k_iload X dL_law_229 rfl ?_
    refine k_iconst (v := nI 1) X dL_law_231 (by decide) ?_
    refine k_iaddN X dL_law_232 ?_
    refine rd _ _ _ _ _ _ _ _ (show 5 * i + 1 < n by omega) dL_law_233 ?_
    refine k_rw (y := p1) ep1 ?_
    refine k_aload_n X dL_law_234 rfl rfl ?_
    refine k_iload X dL_law_235 rfl ?_
    refine k_iconst (v := nI 2) X dL_law_237 (by decide) ?_
    refine k_iaddN X dL_law_238 ?_
    refine rd _ _ _ _ _ _ _ _ (show 5 * i + 2 < n by omega) dL_law_239 ?_
    refine k_rw (y := p2) ep2 ?_
    refine k_callV (rest := []) X kv_X6_give kb_228 (m_give X.tr hM2 hs.q1 p1 p2) hM2.1 rfl rfl rfl rfl rfl (Nat.le_of_ble_eq_true rfl) ⟨by rw [hR]; exact Nat.le_of_ble_eq_true rfl, by rw [hR]; exact Nat.le_of_ble_eq_true rfl⟩ ⟨by rw [hR]; exact (show cells + 2 + 0 ≤ 601024 by omega), by rw [hR]; exact (show slots + 12 + 0 ≤ 7293034 by omega)⟩ dL_law_240 (fun v C8 L8 g9 => ?_)
    obtain ⟨hcs, rfl, hFm⟩ := g9
    rcases hcs with ⟨j2, b1, e2, b2, rfl, hM3⟩ | ⟨y, rfl, hM3⟩ | ⟨⟨b1, b2⟩, rfl, hM3⟩
    ·
      exact absurd (kin4.mpr b2) z.2
    ·
      exact absurd z.1 (fun w => y ((kj _).mpr w))
    ·
      refine k_istore X dL_law_243 (by rw [hN]; decide) ?_
      refine k_lo (lo' := [(0, .ref b), (1, .ref (L (1, 0, 0))), (2, .ref (L (30, 0, 0))), (3, .ref (L (54, 0, 0))), (4, .int (nI (5 * i))), (5, .int (nI 2)), (6, .int (nI 0))]) ⟨rfl, rfl, rfl, rfl, rfl, rfl, rfl, trivial⟩ ?_
      exact lw_tailEx K2 (j := 2) (w := 15) (by decide) hM3 (by omega) (by omega) dL_law_245 dL_law_246 dL_law_249 dL_law_251 dL_law_256 dL_law_258 dL_law_273 (by decide) (k _ _ S N M Q _ _ ⟨hX2.fm hFm, ⟨_, hM3⟩, ⟨_, hF2.fm hFm⟩, hs, hz⟩ (by omega) (by omega) (by omega))

set_option maxHeartbeats 4000000 in
set_option maxRecDepth 100000 in
theorem lw_set {Γ : kG} {E : kE} {A : Nat → Prop} {b n : Nat} {xs : Nat → Int32} (K : kLc Γ E A b n xs) {C : kC} {L : kL} {S : kI4} {N : kN3} {M : kM2} {Q : kQ2} (W : kLw E C L S N M Q) {i cells slots : Nat} (hi : 5 * i + 5 ≤ n) (hi5 : i < 512) (hq : Q 14 0 ≤ i) (hc : cells + 1000 ≤ 601024) (hs9 : slots + 100000 ≤ 7293034) (k : ∀ (C' : kC) (L' : kL) (S' : kI4) (N' : kN3) (M' : kM2) (Q' : kQ2) (cells' slots' : Nat), kLw E C' L' S' N' M' Q' → Q' 14 0 ≤ i + 1 → cells' + 6 * kSn N ≤ cells + 130 + 6 * kSn N' → slots' + 900 * kSn N ≤ slots + 4000 + 900 * kSn N' → kW Γ E A C' L' cells' slots' 1509 (kLo b L' i) []) : kW Γ E A C L cells slots 276 (kLo b L i) [] := by
  have K2 := K
  obtain ⟨X, hN, hR, rd, ln, rt⟩ := K
  obtain ⟨hX, ⟨R, hM⟩, ⟨f8, hF⟩, hs, hz⟩ := W
  have h1 : Q 1 0 = N 1 0 0 := hs.1.1
  have hn40 : N 1 0 0 ≤ 40 := hs.1.2.1
  have kj : ∀ x, kix x (Q 1 0) ↔ kix x (N 1 0 0) := fun x => by rw [h1]
  obtain ⟨p1, ep1⟩ : ∃ p, xs (5 * i + 1) = p := ⟨_, rfl⟩
  obtain ⟨p2, ep2⟩ : ∃ p, xs (5 * i + 2) = p := ⟨_, rfl⟩
  obtain ⟨p3, ep3⟩ : ∃ p, xs (5 * i + 3) = p := ⟨_, rfl⟩
  refine k_aload_n X dL_law_276 rfl rfl ?_
  refine k_aload_n X dL_law_277 rfl rfl ?_
  refine k_iload X dL_law_278 rfl ?_
  refine k_iconst (v := nI 1) X dL_law_280 (by decide) ?_
  refine k_iaddN X dL_law_281 ?_
  refine rd _ _ _ _ _ _ _ _ (show 5 * i + 1 < n by omega) dL_law_282 ?_
  refine k_rw (y := p1) ep1 ?_
  refine k_aload_n X dL_law_283 rfl rfl ?_
  refine k_iload X dL_law_284 rfl ?_
  refine k_iconst (v := nI 2) X dL_law_286 (by decide) ?_
  refine k_iaddN X dL_law_287 ?_
  refine rd _ _ _ _ _ _ _ _ (show 5 * i + 2 < n by omega) dL_law_288 ?_
  refine k_rw (y := p2) ep2 ?_
  refine k_aload_n X dL_law_289 rfl rfl ?_
  refine k_iload X dL_law_290 rfl ?_
  refine k_iconst (v := nI 3) X dL_law_292 (by decide) ?_
  refine k_iaddN X dL_law_293 ?_
  refine rd _ _ _ _ _ _ _ _ (show 5 * i + 3 < n by omega) dL_law_294 ?_
  refine k_rw (y := p3) ep3 ?_
  refine k_aload_n X dL_law_295 rfl rfl ?_
  refine k_callSH (rest := []) X ksh_set kb_236 (h_set X.tr hX hs.ok hF p1 p2 p3) rfl rfl (Nat.le_of_ble_eq_true rfl) ⟨by rw [hR]; exact Nat.le_of_ble_eq_true rfl, by rw [hR]; exact Nat.le_of_ble_eq_true rfl⟩ ⟨by rw [hR]; exact (show cells + 3 ≤ 601024 by omega), by rw [hR]; exact (show slots + 18 ≤ 7293034 by omega)⟩ dL_law_296 (fun v C9 L9 h9 => ?_)
  rcases h9 with ⟨rv, C1, f9, hp, rfl, rfl, hf9⟩ | ⟨rfl, z, rfl, rfl⟩ | ⟨rfl, z, rfl, rfl⟩
  ·
    obtain ⟨⟨j, a1, rfl, a2, ⟨⟩, hX1⟩, rfl, hFr⟩ := hp
    have hX2 := hX1.k54 (e := some (.inl (E.2.1 2, 1, .inr (.inl f9))))
    have hM2 := (hFr.m hM).k54 (e := some (.inl (E.2.1 2, 1, .inr (.inl f9))))
    have hF2 : kOt E (kup C1 (54, 0, 0) (some (.inl (E.2.1 2, 1, .inr (.inl f9))))) f9 := kup_s
    refine k_istore X dL_law_299 (by rw [hN]; decide) ?_
    refine k_lo (lo' := [(0, .ref b), (1, .ref (L (1, 0, 0))), (2, .ref (L (30, 0, 0))), (3, .ref (L (54, 0, 0))), (4, .int (nI (5 * i))), (5, .int (nI 0))]) ⟨rfl, rfl, rfl, rfl, rfl, rfl, trivial⟩ ?_
    refine k_aload_n X dL_law_301 rfl rfl ?_
    refine k_aload_n X dL_law_302 rfl rfl ?_
    refine k_iload X dL_law_303 rfl ?_
    refine k_iconst (v := nI 1) X dL_law_305 (by decide) ?_
    refine k_iaddN X dL_law_306 ?_
    refine rd _ _ _ _ _ _ _ _ (show 5 * i + 1 < n by omega) dL_law_307 ?_
    refine k_rw (y := (nI j)) ep1 ?_
    refine k_aload_n X dL_law_308 rfl rfl ?_
    refine k_iload X dL_law_309 rfl ?_
    refine k_iconst (v := nI 2) X dL_law_311 (by decide) ?_
    refine k_iaddN X dL_law_312 ?_
    refine rd _ _ _ _ _ _ _ _ (show 5 * i + 2 < n by omega) dL_law_313 ?_
    refine k_rw (y := p2) ep2 ?_
    refine k_aload_n X dL_law_314 rfl rfl ?_
    refine k_iload X dL_law_315 rfl ?_
    refine k_iconst (v := nI 3) X dL_law_317 (by decide) ?_
    refine k_iaddN X dL_law_318 ?_
    refine rd _ _ _ _ _ _ _ _ (show 5 * i + 3 < n by omega) dL_law_319 ?_
    refine k_rw (y := p3) ep3 ?_
    refine k_callV (rest := []) X kv_X6_set kb_258 (m_set X.tr hM2 hs.q1 (nI j) p2 p3) hM2.1 rfl rfl rfl rfl rfl (Nat.le_of_ble_eq_true rfl) ⟨by rw [hR]; exact Nat.le_of_ble_eq_true rfl, by rw [hR]; exact Nat.le_of_ble_eq_true rfl⟩ ⟨by rw [hR]; exact (show cells + 3 + 0 ≤ 601024 by omega), by rw [hR]; exact (show slots + 18 + 0 ≤ 7293034 by omega)⟩ dL_law_320 (fun v C8 L8 g9 => ?_)
    obtain ⟨hcs, rfl, hFm⟩ := g9
    rcases hcs with ⟨j2, f0, b1, e2, hf0, rfl, b2, rfl, hM3⟩ | ⟨y, rfl, hM3⟩ | ⟨⟨b1, b2⟩, rfl, hM3⟩
    ·
      refine k_istore X dL_law_323 (by rw [hN]; decide) ?_
      have ej := nI_inj e2 (by omega) (by omega)
      subst ej
      refine k_lo (lo' := [(0, .ref b), (1, .ref (L (1, 0, 0))), (2, .ref (L (30, 0, 0))), (3, .ref (L (54, 0, 0))), (4, .int (nI (5 * i))), (5, .int (nI 0)), (6, .int _)]) ⟨rfl, rfl, rfl, rfl, rfl, rfl, rfl, trivial⟩ ?_
      exact lw_tailOk K2 hM3 (hF2.fm hFm) (hf9.trans (congrArg Int32.toInt64 (by rw [kver hf0, (sPut_v hf0 (show f0 < 2 by omega)).2, if_pos rfl, ((hs.1.2.2.1 j a1).2.2.2 f0 (by omega)).2]))) (by omega) (by omega) dL_law_325 dL_law_326 dL_law_329 dL_law_331 dL_law_336 dL_law_338 dL_law_341 dL_law_342 dL_law_343 dL_law_344 dL_law_346 dL_law_347 dL_law_348 dL_law_353 (by decide) (k _ _ (sPut S 3 j 0 (nI f0) p3) N (mLay M j f0 p3) Q _ _ ⟨hX2.fm hFm, ⟨_, hM3⟩, ⟨_, hF2.fm hFm⟩, hs.set a1 hf0 (kfx b2.2), hz.of (mLay_f (f := 7) (by decide))⟩ (by omega) (by omega) (by omega))
    ·
      exact absurd (kix.of a1 (by omega)) (fun w => y ((kj _).mpr w))
    ·
      exact absurd a2 b2
  ·
    have hX2 := hX
    have hM2 := hM
    have hF2 := hF
    refine k_istore X dL_law_299 (by rw [hN]; decide) ?_
    refine k_lo (lo' := [(0, .ref b), (1, .ref (L (1, 0, 0))), (2, .ref (L (30, 0, 0))), (3, .ref (L (54, 0, 0))), (4, .int (nI (5 * i))), (5, .int (nI 1))]) ⟨rfl, rfl, rfl, rfl, rfl, rfl, trivial⟩ ?_
    refine k_aload_n X dL_law_301 rfl rfl ?_
    refine k_aload_n X dL_law_302 rfl rfl ?_
    refine k_iload X dL_law_303 rfl ?_
    refine k_iconst (v := nI 1) X dL_law_305 (by decide) ?_
    refine k_iaddN X dL_law_306 ?_
    refine rd _ _ _ _ _ _ _ _ (show 5 * i + 1 < n by omega) dL_law_307 ?_
    refine k_rw (y := p1) ep1 ?_
    refine k_aload_n X dL_law_308 rfl rfl ?_
    refine k_iload X dL_law_309 rfl ?_
    refine k_iconst (v := nI 2) X dL_law_311 (by decide) ?_
    refine k_iaddN X dL_law_312 ?_
    refine rd _ _ _ _ _ _ _ _ (show 5 * i + 2 < n by omega) dL_law_313 ?_
    refine k_rw (y := p2) ep2 ?_
    refine k_aload_n X dL_law_314 rfl rfl ?_
    refine k_iload X dL_law_315 rfl ?_
    refine k_iconst (v := nI 3) X dL_law_317 (by decide) ?_
    refine k_iaddN X dL_law_318 ?_
    refine rd _ _ _ _ _ _ _ _ (show 5 * i + 3 < n by omega) dL_law_319 ?_
    refine k_rw (y := p3) ep3 ?_
    refine k_callV (rest := []) X kv_X6_set kb_258 (m_set X.tr hM2 hs.q1 p1 p2 p3) hM2.1 rfl rfl rfl rfl rfl (Nat.le_of_ble_eq_true rfl) ⟨by rw [hR]; exact Nat.le_of_ble_eq_true rfl, by rw [hR]; exact Nat.le_of_ble_eq_true rfl⟩ ⟨by rw [hR]; exact (show cells + 3 + 0 ≤ 601024 by omega), by rw [hR]; exact (show slots + 18 + 0 ≤ 7293034 by omega)⟩ dL_law_320 (fun v C8 L8 g9 => ?_)
    obtain ⟨hcs, rfl, hFm⟩ := g9
    rcases hcs with ⟨j2, f0, b1, e2, hf0, rfl, b2, rfl, hM3⟩ | ⟨y, rfl, hM3⟩ | ⟨⟨b1, b2⟩, rfl, hM3⟩
    ·
      exact absurd (by rw [e2]; exact kix.of (by omega) (by omega)) z
    ·
      refine k_istore X dL_law_323 (by rw [hN]; decide) ?_
      refine k_lo (lo' := [(0, .ref b), (1, .ref (L (1, 0, 0))), (2, .ref (L (30, 0, 0))), (3, .ref (L (54, 0, 0))), (4, .int (nI (5 * i))), (5, .int (nI 1)), (6, .int (nI 0))]) ⟨rfl, rfl, rfl, rfl, rfl, rfl, rfl, trivial⟩ ?_
      exact lw_tailEx K2 (j := 1) (w := 15) (by decide) hM3 (by omega) (by omega) dL_law_325 dL_law_326 dL_law_329 dL_law_331 dL_law_336 dL_law_338 dL_law_353 (by decide) (k _ _ S N M Q _ _ ⟨hX2.fm hFm, ⟨_, hM3⟩, ⟨_, hF2.fm hFm⟩, hs, hz⟩ (by omega) (by omega) (by omega))
    ·
      exact absurd ((kj _).mp b1) z
  ·
    have hX2 := hX
    have hM2 := hM
    have hF2 := hF
    refine k_istore X dL_law_299 (by rw [hN]; decide) ?_
    refine k_lo (lo' := [(0, .ref b), (1, .ref (L (1, 0, 0))), (2, .ref (L (30, 0, 0))), (3, .ref (L (54, 0, 0))), (4, .int (nI (5 * i))), (5, .int (nI 2))]) ⟨rfl, rfl, rfl, rfl, rfl, rfl, trivial⟩ ?_
    refine k_aload_n X dL_law_301 rfl rfl ?_
    refine k_aload_n X dL_law_302 rfl rfl ?_
    refine k_iload X dL_law_303 rfl ?_
    refine k_iconst (v := nI 1) X dL_law_305 (by decide) ?_
    refine k_iaddN X dL_law_306 ?_
    refine rd _ _ _ _ _ _ _ _ (show 5 * i + 1 < n by omega) dL_law_307 ?_
    refine k_rw (y := p1) ep1 ?_
    refine k_aload_n X dL_law_308 rfl rfl ?_
    refine k_iload X dL_law_309 rfl ?_
    refine k_iconst (v := nI 2) X dL_law_311 (by decide) ?_
    refine k_iaddN X dL_law_312 ?_
    refine rd _ _ _ _ _ _ _ _ (show 5 * i + 2 < n by omega) dL_law_313 ?_
    refine k_rw (y := p2) ep2 ?_
    refine k_aload_n X dL_law_314 rfl rfl ?_
    refine k_iload X dL_law_315 rfl ?_
    refine k_iconst (v := nI 3) X dL_law_317 (by decide) ?_
    refine k_iaddN X dL_law_318 ?_
    refine rd _ _ _ _ _ _ _ _ (show 5 * i + 3 < n by omega) dL_law_319 ?_
    refine k_rw (y := p3) ep3 ?_
    refine k_callV (rest := []) X kv_X6_set kb_258 (m_set X.tr hM2 hs.q1 p1 p2 p3) hM2.1 rfl rfl rfl rfl rfl (Nat.le_of_ble_eq_true rfl) ⟨by rw [hR]; exact Nat.le_of_ble_eq_true rfl, by rw [hR]; exact Nat.le_of_ble_eq_true rfl⟩ ⟨by rw [hR]; exact (show cells + 3 + 0 ≤ 601024 by omega), by rw [hR]; exact (show slots + 18 + 0 ≤ 7293034 by omega)⟩ dL_law_320 (fun v C8 L8 g9 => ?_)
    obtain ⟨hcs, rfl, hFm⟩ := g9
    rcases hcs with ⟨j2, f0, b1, e2, hf0, rfl, b2, rfl, hM3⟩ | ⟨y, rfl, hM3⟩ | ⟨⟨b1, b2⟩, rfl, hM3⟩
    ·
      exact absurd b2 z.2
    ·
      exact absurd z.1 (fun w => y ((kj _).mpr w))
    ·
      refine k_istore X dL_law_323 (by rw [hN]; decide) ?_
      refine k_lo (lo' := [(0, .ref b), (1, .ref (L (1, 0, 0))), (2, .ref (L (30, 0, 0))), (3, .ref (L (54, 0, 0))), (4, .int (nI (5 * i))), (5, .int (nI 2)), (6, .int (nI 0))]) ⟨rfl, rfl, rfl, rfl, rfl, rfl, rfl, trivial⟩ ?_
      exact lw_tailEx K2 (j := 2) (w := 15) (by decide) hM3 (by omega) (by omega) dL_law_325 dL_law_326 dL_law_329 dL_law_331 dL_law_336 dL_law_338 dL_law_353 (by decide) (k _ _ S N M Q _ _ ⟨hX2.fm hFm, ⟨_, hM3⟩, ⟨_, hF2.fm hFm⟩, hs, hz⟩ (by omega) (by omega) (by omega))

set_option maxHeartbeats 4000000 in
set_option maxRecDepth 100000 in
theorem lw_jobs {Γ : kG} {E : kE} {A : Nat → Prop} {b n : Nat} {xs : Nat → Int32} (K : kLc Γ E A b n xs) {C : kC} {L : kL} {S : kI4} {N : kN3} {M : kM2} {Q : kQ2} (W : kLw E C L S N M Q) {i cells slots : Nat} (hi : 5 * i + 5 ≤ n) (hi5 : i < 512) (hq : Q 14 0 ≤ i) (hc : cells + 1000 ≤ 601024) (hs9 : slots + 100000 ≤ 7293034) (k : ∀ (C' : kC) (L' : kL) (S' : kI4) (N' : kN3) (M' : kM2) (Q' : kQ2) (cells' slots' : Nat), kLw E C' L' S' N' M' Q' → Q' 14 0 ≤ i + 1 → cells' + 6 * kSn N ≤ cells + 130 + 6 * kSn N' → slots' + 900 * kSn N ≤ slots + 4000 + 900 * kSn N' → kW Γ E A C' L' cells' slots' 1509 (kLo b L' i) []) : kW Γ E A C L cells slots 356 (kLo b L i) [] := by
  obtain ⟨X, hN, hR, rd, ln, rt⟩ := K
  obtain ⟨hX, ⟨R, hM⟩, ⟨f8, hF⟩, hs, hz⟩ := W
  refine k_aload_n X dL_law_356 rfl rfl ?_
  refine k_callV (rest := []) X kv_X5_jobs kb_272 (c_jobs X.tr hX hs.ok) hX.1.1.1 rfl rfl rfl rfl rfl (Nat.le_of_ble_eq_true rfl) ⟨by rw [hR]; exact Nat.le_of_ble_eq_true rfl, by rw [hR]; exact Nat.le_of_ble_eq_true rfl⟩ ⟨by rw [hR]; exact (show cells + 0 ≤ 601024 by omega), by rw [hR]; exact (show slots + 0 ≤ 7293034 by omega)⟩ dL_law_357 (fun v C9 L9 h9 => ?_)
  obtain ⟨rfl, rfl, rfl⟩ := h9
  refine k_aload_n X dL_law_360 rfl rfl ?_
  refine k_callV (rest := [.int _]) X kv_X6_jobs kb_276 (m_jobs X.tr hM) hM.1 rfl rfl rfl rfl rfl (Nat.le_of_ble_eq_true rfl) ⟨by rw [hR]; exact Nat.le_of_ble_eq_true rfl, by rw [hR]; exact Nat.le_of_ble_eq_true rfl⟩ ⟨by rw [hR]; exact (show cells + 0 + 0 ≤ 601024 by omega), by rw [hR]; exact (show slots + 0 + 0 ≤ 7293034 by omega)⟩ dL_law_361 (fun v C8 L8 g9 => ?_)
  obtain ⟨rfl, rfl, hFm, hM3⟩ := g9
  refine k_icmp_eq (tgt := 1509) X dL_law_364 (by decide) (fun c6 => ?_) (fun c6 => absurd (by rw [hs.1.1]) c6)
  exact k _ _ S N M Q _ _ ⟨hX.fm hFm, ⟨_, hM3⟩, ⟨_, hF.fm hFm⟩, hs, hz⟩ (by omega) (by omega) (by omega)

set_option maxHeartbeats 4000000 in
set_option maxRecDepth 100000 in
theorem lw_crew {Γ : kG} {E : kE} {A : Nat → Prop} {b n : Nat} {xs : Nat → Int32} (K : kLc Γ E A b n xs) {C : kC} {L : kL} {S : kI4} {N : kN3} {M : kM2} {Q : kQ2} (W : kLw E C L S N M Q) {i cells slots : Nat} (hi : 5 * i + 5 ≤ n) (hi5 : i < 512) (hq : Q 14 0 ≤ i) (hc : cells + 1000 ≤ 601024) (hs9 : slots + 100000 ≤ 7293034) (k : ∀ (C' : kC) (L' : kL) (S' : kI4) (N' : kN3) (M' : kM2) (Q' : kQ2) (cells' slots' : Nat), kLw E C' L' S' N' M' Q' → Q' 14 0 ≤ i + 1 → cells' + 6 * kSn N ≤ cells + 130 + 6 * kSn N' → slots' + 900 * kSn N ≤ slots + 4000 + 900 * kSn N' → kW Γ E A C' L' cells' slots' 1509 (kLo b L' i) []) : kW Γ E A C L cells slots 369 (kLo b L i) [] := by
  have K2 := K
  obtain ⟨X, hN, hR, rd, ln, rt⟩ := K
  obtain ⟨hX, ⟨R, hM⟩, ⟨f8, hF⟩, hs, hz⟩ := W
  have h1 : Q 1 0 = N 1 0 0 := hs.1.1
  have hn40 : N 1 0 0 ≤ 40 := hs.1.2.1
  have kj : ∀ x, kix x (Q 1 0) ↔ kix x (N 1 0 0) := fun x => by rw [h1]
  obtain ⟨p1, ep1⟩ : ∃ p, xs (5 * i + 1) = p := ⟨_, rfl⟩
  refine k_aload_n X dL_law_369 rfl rfl ?_
  refine k_aload_n X dL_law_370 rfl rfl ?_
  refine k_iload X dL_law_371 rfl ?_
  refine k_iconst (v := nI 1) X dL_law_373 (by decide) ?_
  refine k_iaddN X dL_law_374 ?_
  refine rd _ _ _ _ _ _ _ _ (show 5 * i + 1 < n by omega) dL_law_375 ?_
  refine k_rw (y := p1) ep1 ?_
  refine k_aload_n X dL_law_376 rfl rfl ?_
  refine k_callSH (rest := []) X ksh_crew kb_284 (h_crew X.tr hX hs.ok hF p1) rfl rfl (Nat.le_of_ble_eq_true rfl) ⟨by rw [hR]; exact Nat.le_of_ble_eq_true rfl, by rw [hR]; exact Nat.le_of_ble_eq_true rfl⟩ ⟨by rw [hR]; exact (show cells + 1 ≤ 601024 by omega), by rw [hR]; exact (show slots + 6 ≤ 7293034 by omega)⟩ dL_law_377 (fun v C9 L9 h9 => ?_)
  rcases h9 with ⟨rv, C1, f9, hp, rfl, rfl, hf9⟩ | ⟨rfl, z, rfl, rfl⟩
  ·
    obtain ⟨⟨j, a1, rfl, ⟨⟩⟩, rfl, rfl⟩ := hp
    have hX2 := hX.k54 (e := some (.inl (E.2.1 2, 1, .inr (.inl f9))))
    have hM2 := hM.k54 (e := some (.inl (E.2.1 2, 1, .inr (.inl f9))))
    have hF2 : kOt E (kup C (54, 0, 0) (some (.inl (E.2.1 2, 1, .inr (.inl f9))))) f9 := kup_s
    refine k_istore X dL_law_380 (by rw [hN]; decide) ?_
    refine k_lo (lo' := [(0, .ref b), (1, .ref (L (1, 0, 0))), (2, .ref (L (30, 0, 0))), (3, .ref (L (54, 0, 0))), (4, .int (nI (5 * i))), (5, .int (nI 0))]) ⟨rfl, rfl, rfl, rfl, rfl, rfl, trivial⟩ ?_
    refine k_aload_n X dL_law_382 rfl rfl ?_
    refine k_aload_n X dL_law_383 rfl rfl ?_
    refine k_iload X dL_law_384 rfl ?_
    refine k_iconst (v := nI 1) X dL_law_386 (by decide) ?_
    refine k_iaddN X dL_law_387 ?_
    refine rd _ _ _ _ _ _ _ _ (show 5 * i + 1 < n by omega) dL_law_388 ?_
    refine k_rw (y := (nI j)) ep1 ?_
    refine k_callV (rest := []) X kv_X6_crew kb_291 (m_crew X.tr hM2 hs.q1 (nI j)) hM2.1 rfl rfl rfl rfl rfl (Nat.le_of_ble_eq_true rfl) ⟨by rw [hR]; exact Nat.le_of_ble_eq_true rfl, by rw [hR]; exact Nat.le_of_ble_eq_true rfl⟩ ⟨by rw [hR]; exact (show cells + 1 + 0 ≤ 601024 by omega), by rw [hR]; exact (show slots + 6 + 0 ≤ 7293034 by omega)⟩ dL_law_389 (fun v C8 L8 g9 => ?_)
    obtain ⟨hcs, rfl, hFm⟩ := g9
    rcases hcs with ⟨j2, b1, e2, rfl, hM3⟩ | ⟨y, rfl, hM3⟩
    ·
      refine k_istore X dL_law_392 (by rw [hN]; decide) ?_
      have ej := nI_inj e2 (by omega) (by omega)
      subst ej
      refine k_lo (lo' := [(0, .ref b), (1, .ref (L (1, 0, 0))), (2, .ref (L (30, 0, 0))), (3, .ref (L (54, 0, 0))), (4, .int (nI (5 * i))), (5, .int (nI 0)), (6, .int _)]) ⟨rfl, rfl, rfl, rfl, rfl, rfl, rfl, trivial⟩ ?_
      exact lw_tailOk K2 hM3 (hF2.fm hFm) (hf9.trans (congrArg Int32.toInt64 (hs.1.2.2.1 j a1).1.symm)) (by omega) (by omega) dL_law_394 dL_law_395 dL_law_398 dL_law_400 dL_law_405 dL_law_407 dL_law_410 dL_law_411 dL_law_412 dL_law_413 dL_law_415 dL_law_416 dL_law_417 dL_law_422 (by decide) (k _ _ S N M Q _ _ ⟨hX2.fm hFm, ⟨_, hM3⟩, ⟨_, hF2.fm hFm⟩, hs, hz⟩ (by omega) (by omega) (by omega))
    ·
      exact absurd (kix.of a1 (by omega)) (fun w => y ((kj _).mpr w))
  ·
    have hX2 := hX
    have hM2 := hM
    have hF2 := hF
    refine k_istore X dL_law_380 (by rw [hN]; decide) ?_
    refine k_lo (lo' := [(0, .ref b), (1, .ref (L (1, 0, 0))), (2, .ref (L (30, 0, 0))), (3, .ref (L (54, 0, 0))), (4, .int (nI (5 * i))), (5, .int (nI 1))]) ⟨rfl, rfl, rfl, rfl, rfl, rfl, trivial⟩ ?_
    refine k_aload_n X dL_law_382 rfl rfl ?_
    refine k_aload_n X dL_law_383 rfl rfl ?_
    refine k_iload X dL_law_384 rfl ?_
    refine k_iconst (v := nI 1) X dL_law_386 (by decide) ?_
    refine k_iaddN X dL_law_387 ?_
    refine rd _ _ _ _ _ _ _ _ (show 5 * i + 1 < n by omega) dL_law_388 ?_
    refine k_rw (y := p1) ep1 ?_
    refine k_callV (rest := []) X kv_X6_crew kb_291 (m_crew X.tr hM2 hs.q1 p1) hM2.1 rfl rfl rfl rfl rfl (Nat.le_of_ble_eq_true rfl) ⟨by rw [hR]; exact Nat.le_of_ble_eq_true rfl, by rw [hR]; exact Nat.le_of_ble_eq_true rfl⟩ ⟨by rw [hR]; exact (show cells + 1 + 0 ≤ 601024 by omega), by rw [hR]; exact (show slots + 6 + 0 ≤ 7293034 by omega)⟩ dL_law_389 (fun v C8 L8 g9 => ?_)
    obtain ⟨hcs, rfl, hFm⟩ := g9
    rcases hcs with ⟨j2, b1, e2, rfl, hM3⟩ | ⟨y, rfl, hM3⟩
    ·
      exact absurd (by rw [e2]; exact kix.of (by omega) (by omega)) z
    ·
      refine k_istore X dL_law_392 (by rw [hN]; decide) ?_
      refine k_lo (lo' := [(0, .ref b), (1, .ref (L (1, 0, 0))), (2, .ref (L (30, 0, 0))), (3, .ref (L (54, 0, 0))), (4, .int (nI (5 * i))), (5, .int (nI 1)), (6, .int (nI 0))]) ⟨rfl, rfl, rfl, rfl, rfl, rfl, rfl, trivial⟩ ?_
      exact lw_tailEx K2 (j := 1) (w := 15) (by decide) hM3 (by omega) (by omega) dL_law_394 dL_law_395 dL_law_398 dL_law_400 dL_law_405 dL_law_407 dL_law_422 (by decide) (k _ _ S N M Q _ _ ⟨hX2.fm hFm, ⟨_, hM3⟩, ⟨_, hF2.fm hFm⟩, hs, hz⟩ (by omega) (by omega) (by omega))

set_option maxHeartbeats 4000000 in
set_option maxRecDepth 100000 in
theorem lw_site {Γ : kG} {E : kE} {A : Nat → Prop} {b n : Nat} {xs : Nat → Int32} (K : kLc Γ E A b n xs) {C : kC} {L : kL} {S : kI4} {N : kN3} {M : kM2} {Q : kQ2} (W : kLw E C L S N M Q) {i cells slots : Nat} (hi : 5 * i + 5 ≤ n) (hi5 : i < 512) (hq : Q 14 0 ≤ i) (hc : cells + 1000 ≤ 601024) (hs9 : slots + 100000 ≤ 7293034) (k : ∀ (C' : kC) (L' : kL) (S' : kI4) (N' : kN3) (M' : kM2) (Q' : kQ2) (cells' slots' : Nat), kLw E C' L' S' N' M' Q' → Q' 14 0 ≤ i + 1 → cells' + 6 * kSn N ≤ cells + 130 + 6 * kSn N' → slots' + 900 * kSn N ≤ slots + 4000 + 900 * kSn N' → kW Γ E A C' L' cells' slots' 1509 (kLo b L' i) []) : kW Γ E A C L cells slots 425 (kLo b L i) [] := by
  have K2 := K
  obtain ⟨X, hN, hR, rd, ln, rt⟩ := K
  obtain ⟨hX, ⟨R, hM⟩, ⟨f8, hF⟩, hs, hz⟩ := W
  have h1 : Q 1 0 = N 1 0 0 := hs.1.1
  have hn40 : N 1 0 0 ≤ 40 := hs.1.2.1
  have kj : ∀ x, kix x (Q 1 0) ↔ kix x (N 1 0 0) := fun x => by rw [h1]
  obtain ⟨p1, ep1⟩ : ∃ p, xs (5 * i + 1) = p := ⟨_, rfl⟩
  refine k_aload_n X dL_law_425 rfl rfl ?_
  refine k_aload_n X dL_law_426 rfl rfl ?_
  refine k_iload X dL_law_427 rfl ?_
  refine k_iconst (v := nI 1) X dL_law_429 (by decide) ?_
  refine k_iaddN X dL_law_430 ?_
  refine rd _ _ _ _ _ _ _ _ (show 5 * i + 1 < n by omega) dL_law_431 ?_
  refine k_rw (y := p1) ep1 ?_
  refine k_aload_n X dL_law_432 rfl rfl ?_
  refine k_callSH (rest := []) X ksh_site kb_299 (h_site X.tr hX hs.ok hF p1) rfl rfl (Nat.le_of_ble_eq_true rfl) ⟨by rw [hR]; exact Nat.le_of_ble_eq_true rfl, by rw [hR]; exact Nat.le_of_ble_eq_true rfl⟩ ⟨by rw [hR]; exact (show cells + 1 ≤ 601024 by omega), by rw [hR]; exact (show slots + 6 ≤ 7293034 by omega)⟩ dL_law_433 (fun v C9 L9 h9 => ?_)
  rcases h9 with ⟨rv, C1, f9, hp, rfl, rfl, hf9⟩ | ⟨rfl, z, rfl, rfl⟩
  ·
    obtain ⟨⟨j, a1, rfl, ⟨⟩⟩, rfl, rfl⟩ := hp
    have hX2 := hX.k54 (e := some (.inl (E.2.1 2, 1, .inr (.inl f9))))
    have hM2 := hM.k54 (e := some (.inl (E.2.1 2, 1, .inr (.inl f9))))
    have hF2 : kOt E (kup C (54, 0, 0) (some (.inl (E.2.1 2, 1, .inr (.inl f9))))) f9 := kup_s
    refine k_istore X dL_law_436 (by rw [hN]; decide) ?_
    refine k_lo (lo' := [(0, .ref b), (1, .ref (L (1, 0, 0))), (2, .ref (L (30, 0, 0))), (3, .ref (L (54, 0, 0))), (4, .int (nI (5 * i))), (5, .int (nI 0))]) ⟨rfl, rfl, rfl, rfl, rfl, rfl, trivial⟩ ?_
    refine k_aload_n X dL_law_438 rfl rfl ?_
    refine k_aload_n X dL_law_439 rfl rfl ?_
    refine k_iload X dL_law_440 rfl ?_
    refine k_iconst (v := nI 1) X dL_law_442 (by decide) ?_
    refine k_iaddN X dL_law_443 ?_
    refine rd _ _ _ _ _ _ _ _ (show 5 * i + 1 < n by omega) dL_law_444 ?_
    refine k_rw (y := (nI j)) ep1 ?_
    refine k_callV (rest := []) X kv_X6_site kb_307 (m_site X.tr hM2 hs.q1 (nI j)) hM2.1 rfl rfl rfl rfl rfl (Nat.le_of_ble_eq_true rfl) ⟨by rw [hR]; exact Nat.le_of_ble_eq_true rfl, by rw [hR]; exact Nat.le_of_ble_eq_true rfl⟩ ⟨by rw [hR]; exact (show cells + 1 + 0 ≤ 601024 by omega), by rw [hR]; exact (show slots + 6 + 0 ≤ 7293034 by omega)⟩ dL_law_445 (fun v C8 L8 g9 => ?_)
    obtain ⟨hcs, rfl, hFm⟩ := g9
    rcases hcs with ⟨j2, b1, e2, rfl, hM3⟩ | ⟨y, rfl, hM3⟩
    ·
      refine k_istore X dL_law_448 (by rw [hN]; decide) ?_
      have ej := nI_inj e2 (by omega) (by omega)
      subst ej
      refine k_lo (lo' := [(0, .ref b), (1, .ref (L (1, 0, 0))), (2, .ref (L (30, 0, 0))), (3, .ref (L (54, 0, 0))), (4, .int (nI (5 * i))), (5, .int (nI 0)), (6, .int _)]) ⟨rfl, rfl, rfl, rfl, rfl, rfl, rfl, trivial⟩ ?_
      exact lw_tailOk K2 hM3 (hF2.fm hFm) (hf9.trans (congrArg Int32.toInt64 (hs.1.2.2.1 j a1).2.1.symm)) (by omega) (by omega) dL_law_450 dL_law_451 dL_law_454 dL_law_456 dL_law_461 dL_law_463 dL_law_466 dL_law_467 dL_law_468 dL_law_469 dL_law_471 dL_law_472 dL_law_473 dL_law_478 (by decide) (k _ _ S N M Q _ _ ⟨hX2.fm hFm, ⟨_, hM3⟩, ⟨_, hF2.fm hFm⟩, hs, hz⟩ (by omega) (by omega) (by omega))
    ·
      exact absurd (kix.of a1 (by omega)) (fun w => y ((kj _).mpr w))
  ·
    have hX2 := hX
    have hM2 := hM
    have hF2 := hF
    refine k_istore X dL_law_436 (by rw [hN]; decide) ?_
    refine k_lo (lo' := [(0, .ref b), (1, .ref (L (1, 0, 0))), (2, .ref (L (30, 0, 0))), (3, .ref (L (54, 0, 0))), (4, .int (nI (5 * i))), (5, .int (nI 1))]) ⟨rfl, rfl, rfl, rfl, rfl, rfl, trivial⟩ ?_
    refine k_aload_n X dL_law_438 rfl rfl ?_
    refine k_aload_n X dL_law_439 rfl rfl ?_
    refine k_iload X dL_law_440 rfl ?_
    refine k_iconst (v := nI 1) X dL_law_442 (by decide) ?_
    refine k_iaddN X dL_law_443 ?_
    refine rd _ _ _ _ _ _ _ _ (show 5 * i + 1 < n by omega) dL_law_444 ?_
    refine k_rw (y := p1) ep1 ?_
    refine k_callV (rest := []) X kv_X6_site kb_307 (m_site X.tr hM2 hs.q1 p1) hM2.1 rfl rfl rfl rfl rfl (Nat.le_of_ble_eq_true rfl) ⟨by rw [hR]; exact Nat.le_of_ble_eq_true rfl, by rw [hR]; exact Nat.le_of_ble_eq_true rfl⟩ ⟨by rw [hR]; exact (show cells + 1 + 0 ≤ 601024 by omega), by rw [hR]; exact (show slots + 6 + 0 ≤ 7293034 by omega)⟩ dL_law_445 (fun v C8 L8 g9 => ?_)
    obtain ⟨hcs, rfl, hFm⟩ := g9
    rcases hcs with ⟨j2, b1, e2, rfl, hM3⟩ | ⟨y, rfl, hM3⟩
    ·
      exact absurd (by rw [e2]; exact kix.of (by omega) (by omega)) z
    ·
      refine k_istore X dL_law_448 (by rw [hN]; decide) ?_
      refine k_lo (lo' := [(0, .ref b), (1, .ref (L (1, 0, 0))), (2, .ref (L (30, 0, 0))), (3, .ref (L (54, 0, 0))), (4, .int (nI (5 * i))), (5, .int (nI 1)), (6, .int (nI 0))]) ⟨rfl, rfl, rfl, rfl, rfl, rfl, rfl, trivial⟩ ?_
      exact lw_tailEx K2 (j := 1) (w := 15) (by decide) hM3 (by omega) (by omega) dL_law_450 dL_law_451 dL_law_454 dL_law_456 dL_law_461 dL_law_463 dL_law_478 (by decide) (k _ _ S N M Q _ _ ⟨hX2.fm hFm, ⟨_, hM3⟩, ⟨_, hF2.fm hFm⟩, hs, hz⟩ (by omega) (by omega) (by omega))

set_option maxHeartbeats 4000000 in
set_option maxRecDepth 100000 in
theorem lw_value {Γ : kG} {E : kE} {A : Nat → Prop} {b n : Nat} {xs : Nat → Int32} (K : kLc Γ E A b n xs) {C : kC} {L : kL} {S : kI4} {N : kN3} {M : kM2} {Q : kQ2} (W : kLw E C L S N M Q) {i cells slots : Nat} (hi : 5 * i + 5 ≤ n) (hi5 : i < 512) (hq : Q 14 0 ≤ i) (hc : cells + 1000 ≤ 601024) (hs9 : slots + 100000 ≤ 7293034) (k : ∀ (C' : kC) (L' : kL) (S' : kI4) (N' : kN3) (M' : kM2) (Q' : kQ2) (cells' slots' : Nat), kLw E C' L' S' N' M' Q' → Q' 14 0 ≤ i + 1 → cells' + 6 * kSn N ≤ cells + 130 + 6 * kSn N' → slots' + 900 * kSn N ≤ slots + 4000 + 900 * kSn N' → kW Γ E A C' L' cells' slots' 1509 (kLo b L' i) []) : kW Γ E A C L cells slots 481 (kLo b L i) [] := by
  have K2 := K
  obtain ⟨X, hN, hR, rd, ln, rt⟩ := K
  obtain ⟨hX, ⟨R, hM⟩, ⟨f8, hF⟩, hs, hz⟩ := W
  have h1 : Q 1 0 = N 1 0 0 := hs.1.1
  have hn40 : N 1 0 0 ≤ 40 := hs.1.2.1
  have kj : ∀ x, kix x (Q 1 0) ↔ kix x (N 1 0 0) := fun x => by rw [h1]
  obtain ⟨p1, ep1⟩ : ∃ p, xs (5 * i + 1) = p := ⟨_, rfl⟩
  obtain ⟨p2, ep2⟩ : ∃ p, xs (5 * i + 2) = p := ⟨_, rfl⟩
  refine k_aload_n X dL_law_481 rfl rfl ?_
  refine k_aload_n X dL_law_482 rfl rfl ?_
  refine k_iload X dL_law_483 rfl ?_
  refine k_iconst (v := nI 1) X dL_law_485 (by decide) ?_
  refine k_iaddN X dL_law_486 ?_
  refine rd _ _ _ _ _ _ _ _ (show 5 * i + 1 < n by omega) dL_law_487 ?_
  refine k_rw (y := p1) ep1 ?_
  refine k_aload_n X dL_law_488 rfl rfl ?_
  refine k_iload X dL_law_489 rfl ?_
  refine k_iconst (v := nI 2) X dL_law_491 (by decide) ?_
  refine k_iaddN X dL_law_492 ?_
  refine rd _ _ _ _ _ _ _ _ (show 5 * i + 2 < n by omega) dL_law_493 ?_
  refine k_rw (y := p2) ep2 ?_
  refine k_aload_n X dL_law_494 rfl rfl ?_
  refine k_callSH (rest := []) X ksh_value kb_311 (h_value X.tr hX hs.ok hF p1 p2) rfl rfl (Nat.le_of_ble_eq_true rfl) ⟨by rw [hR]; exact Nat.le_of_ble_eq_true rfl, by rw [hR]; exact Nat.le_of_ble_eq_true rfl⟩ ⟨by rw [hR]; exact (show cells + 2 ≤ 601024 by omega), by rw [hR]; exact (show slots + 12 ≤ 7293034 by omega)⟩ dL_law_495 (fun v C9 L9 h9 => ?_)
  rcases h9 with ⟨rv, C1, f9, hp, rfl, rfl, hf9⟩ | ⟨rfl, z, rfl, rfl⟩ | ⟨rfl, z, rfl, rfl⟩
  ·
    obtain ⟨⟨j, a1, rfl, a2, ⟨⟩⟩, rfl, rfl⟩ := hp
    have hX2 := hX.k54 (e := some (.inl (E.2.1 2, 1, .inr (.inl f9))))
    have hM2 := hM.k54 (e := some (.inl (E.2.1 2, 1, .inr (.inl f9))))
    have hF2 : kOt E (kup C (54, 0, 0) (some (.inl (E.2.1 2, 1, .inr (.inl f9))))) f9 := kup_s
    refine k_istore X dL_law_498 (by rw [hN]; decide) ?_
    refine k_lo (lo' := [(0, .ref b), (1, .ref (L (1, 0, 0))), (2, .ref (L (30, 0, 0))), (3, .ref (L (54, 0, 0))), (4, .int (nI (5 * i))), (5, .int (nI 0))]) ⟨rfl, rfl, rfl, rfl, rfl, rfl, trivial⟩ ?_
    refine k_aload_n X dL_law_500 rfl rfl ?_
    refine k_aload_n X dL_law_501 rfl rfl ?_
    refine k_iload X dL_law_502 rfl ?_
    refine k_iconst (v := nI 1) X dL_law_504 (by decide) ?_
    refine k_iaddN X dL_law_505 ?_
    refine rd _ _ _ _ _ _ _ _ (show 5 * i + 1 < n by omega) dL_law_506 ?_
    refine k_rw (y := (nI j)) ep1 ?_
    refine k_aload_n X dL_law_507 rfl rfl ?_
    refine k_iload X dL_law_508 rfl ?_
    refine k_iconst (v := nI 2) X dL_law_510 (by decide) ?_
    refine k_iaddN X dL_law_511 ?_
    refine rd _ _ _ _ _ _ _ _ (show 5 * i + 2 < n by omega) dL_law_512 ?_
    refine k_rw (y := p2) ep2 ?_
    refine k_callV (rest := []) X kv_X6_value kb_322 (m_value X.tr hM2 hs.q1 (nI j) p2) hM2.1 rfl rfl rfl rfl rfl (Nat.le_of_ble_eq_true rfl) ⟨by rw [hR]; exact Nat.le_of_ble_eq_true rfl, by rw [hR]; exact Nat.le_of_ble_eq_true rfl⟩ ⟨by rw [hR]; exact (show cells + 2 + 0 ≤ 601024 by omega), by rw [hR]; exact (show slots + 12 + 0 ≤ 7293034 by omega)⟩ dL_law_513 (fun v C8 L8 g9 => ?_)
    obtain ⟨hcs, rfl, hFm⟩ := g9
    rcases hcs with ⟨j2, f0, b1, e2, hf0, rfl, rfl, hM3⟩ | ⟨y, rfl, hM3⟩ | ⟨⟨b1, b2⟩, rfl, hM3⟩
    ·
      refine k_istore X dL_law_516 (by rw [hN]; decide) ?_
      have ej := nI_inj e2 (by omega) (by omega)
      subst ej
      refine k_lo (lo' := [(0, .ref b), (1, .ref (L (1, 0, 0))), (2, .ref (L (30, 0, 0))), (3, .ref (L (54, 0, 0))), (4, .int (nI (5 * i))), (5, .int (nI 0)), (6, .int _)]) ⟨rfl, rfl, rfl, rfl, rfl, rfl, rfl, trivial⟩ ?_
      exact lw_tailOk K2 hM3 (hF2.fm hFm) (hf9.trans (congrArg Int32.toInt64 (by rw [kval hf0, ((hs.1.2.2.1 j a1).2.2.2 f0 (by omega)).1]))) (by omega) (by omega) dL_law_518 dL_law_519 dL_law_522 dL_law_524 dL_law_529 dL_law_531 dL_law_534 dL_law_535 dL_law_536 dL_law_537 dL_law_539 dL_law_540 dL_law_541 dL_law_546 (by decide) (k _ _ S N M Q _ _ ⟨hX2.fm hFm, ⟨_, hM3⟩, ⟨_, hF2.fm hFm⟩, hs, hz⟩ (by omega) (by omega) (by omega))
    ·
      exact absurd (kix.of a1 (by omega)) (fun w => y ((kj _).mpr w))
    ·
      exact absurd a2 b2
  ·
    have hX2 := hX
    have hM2 := hM
    have hF2 := hF
    refine k_istore X dL_law_498 (by rw [hN]; decide) ?_
    refine k_lo (lo' := [(0, .ref b), (1, .ref (L (1, 0, 0))), (2, .ref (L (30, 0, 0))), (3, .ref (L (54, 0, 0))), (4, .int (nI (5 * i))), (5, .int (nI 1))]) ⟨rfl, rfl, rfl, rfl, rfl, rfl, trivial⟩ ?_
    refine k_aload_n X dL_law_500 rfl rfl ?_
    refine k_aload_n X dL_law_501 rfl rfl ?_
    refine k_iload X dL_law_502 rfl ?_
    refine k_iconst (v := nI 1) X dL_law_504 (by decide) ?_
    refine k_iaddN X dL_law_505 ?_
    refine rd _ _ _ _ _ _ _ _ (show 5 * i + 1 < n by omega) dL_law_506 ?_
    refine k_rw (y := p1) ep1 ?_
    refine k_aload_n X dL_law_507 rfl rfl ?_
    refine k_iload X dL_law_508 rfl ?_
    refine k_iconst (v := nI 2) X dL_law_510 (by decide) ?_
    refine k_iaddN X dL_law_511 ?_
    refine rd _ _ _ _ _ _ _ _ (show 5 * i + 2 < n by omega) dL_law_512 ?_
    refine k_rw (y := p2) ep2 ?_
    refine k_callV (rest := []) X kv_X6_value kb_322 (m_value X.tr hM2 hs.q1 p1 p2) hM2.1 rfl rfl rfl rfl rfl (Nat.le_of_ble_eq_true rfl) ⟨by rw [hR]; exact Nat.le_of_ble_eq_true rfl, by rw [hR]; exact Nat.le_of_ble_eq_true rfl⟩ ⟨by rw [hR]; exact (show cells + 2 + 0 ≤ 601024 by omega), by rw [hR]; exact (show slots + 12 + 0 ≤ 7293034 by omega)⟩ dL_law_513 (fun v C8 L8 g9 => ?_)
    obtain ⟨hcs, rfl, hFm⟩ := g9
    rcases hcs with ⟨j2, f0, b1, e2, hf0, rfl, rfl, hM3⟩ | ⟨y, rfl, hM3⟩ | ⟨⟨b1, b2⟩, rfl, hM3⟩
    ·
      exact absurd (by rw [e2]; exact kix.of (by omega) (by omega)) z
    ·
      refine k_istore X dL_law_516 (by rw [hN]; decide) ?_
      refine k_lo (lo' := [(0, .ref b), (1, .ref (L (1, 0, 0))), (2, .ref (L (30, 0, 0))), (3, .ref (L (54, 0, 0))), (4, .int (nI (5 * i))), (5, .int (nI 1)), (6, .int (nI 0))]) ⟨rfl, rfl, rfl, rfl, rfl, rfl, rfl, trivial⟩ ?_
      exact lw_tailEx K2 (j := 1) (w := 15) (by decide) hM3 (by omega) (by omega) dL_law_518 dL_law_519 dL_law_522 dL_law_524 dL_law_529 dL_law_531 dL_law_546 (by decide) (k _ _ S N M Q _ _ ⟨hX2.fm hFm, ⟨_, hM3⟩, ⟨_, hF2.fm hFm⟩, hs, hz⟩ (by omega) (by omega) (by omega))
    ·
      exact absurd ((kj _).mp b1) z
  ·
    have hX2 := hX
    have hM2 := hM
    have hF2 := hF
    refine k_istore X dL_law_498 (by rw [hN]; decide) ?_
    refine k_lo (lo' := [(0, .ref b), (1, .ref (L (1, 0, 0))), (2, .ref (L (30, 0, 0))), (3, .ref (L (54, 0, 0))), (4, .int (nI (5 * i))), (5, .int (nI 2))]) ⟨rfl, rfl, rfl, rfl, rfl, rfl, trivial⟩ ?_
    refine k_aload_n X dL_law_500 rfl rfl ?_
    refine k_aload_n X dL_law_501 rfl rfl ?_
    refine k_iload X dL_law_502 rfl ?_
    refine k_iconst (v := nI 1) X dL_law_504 (by decide) ?_
    refine k_iaddN X dL_law_505 ?_
    refine rd _ _ _ _ _ _ _ _ (show 5 * i + 1 < n by omega) dL_law_506 ?_
    refine k_rw (y := p1) ep1 ?_
    refine k_aload_n X dL_law_507 rfl rfl ?_
    refine k_iload X dL_law_508 rfl ?_
    refine k_iconst (v := nI 2) X dL_law_510 (by decide) ?_
    refine k_iaddN X dL_law_511 ?_
    refine rd _ _ _ _ _ _ _ _ (show 5 * i + 2 < n by omega) dL_law_512 ?_
    refine k_rw (y := p2) ep2 ?_
    refine k_callV (rest := []) X kv_X6_value kb_322 (m_value X.tr hM2 hs.q1 p1 p2) hM2.1 rfl rfl rfl rfl rfl (Nat.le_of_ble_eq_true rfl) ⟨by rw [hR]; exact Nat.le_of_ble_eq_true rfl, by rw [hR]; exact Nat.le_of_ble_eq_true rfl⟩ ⟨by rw [hR]; exact (show cells + 2 + 0 ≤ 601024 by omega), by rw [hR]; exact (show slots + 12 + 0 ≤ 7293034 by omega)⟩ dL_law_513 (fun v C8 L8 g9 => ?_)
    obtain ⟨hcs, rfl, hFm⟩ := g9
    rcases hcs with ⟨j2, f0, b1, e2, hf0, rfl, rfl, hM3⟩ | ⟨y, rfl, hM3⟩ | ⟨⟨b1, b2⟩, rfl, hM3⟩
    ·
      exact absurd (kin01 hf0) z.2
    ·
      exact absurd z.1 (fun w => y ((kj _).mpr w))
    ·
      refine k_istore X dL_law_516 (by rw [hN]; decide) ?_
      refine k_lo (lo' := [(0, .ref b), (1, .ref (L (1, 0, 0))), (2, .ref (L (30, 0, 0))), (3, .ref (L (54, 0, 0))), (4, .int (nI (5 * i))), (5, .int (nI 2)), (6, .int (nI 0))]) ⟨rfl, rfl, rfl, rfl, rfl, rfl, rfl, trivial⟩ ?_
      exact lw_tailEx K2 (j := 2) (w := 15) (by decide) hM3 (by omega) (by omega) dL_law_518 dL_law_519 dL_law_522 dL_law_524 dL_law_529 dL_law_531 dL_law_546 (by decide) (k _ _ S N M Q _ _ ⟨hX2.fm hFm, ⟨_, hM3⟩, ⟨_, hF2.fm hFm⟩, hs, hz⟩ (by omega) (by omega) (by omega))

set_option maxHeartbeats 4000000 in
set_option maxRecDepth 100000 in
theorem lw_version {Γ : kG} {E : kE} {A : Nat → Prop} {b n : Nat} {xs : Nat → Int32} (K : kLc Γ E A b n xs) {C : kC} {L : kL} {S : kI4} {N : kN3} {M : kM2} {Q : kQ2} (W : kLw E C L S N M Q) {i cells slots : Nat} (hi : 5 * i + 5 ≤ n) (hi5 : i < 512) (hq : Q 14 0 ≤ i) (hc : cells + 1000 ≤ 601024) (hs9 : slots + 100000 ≤ 7293034) (k : ∀ (C' : kC) (L' : kL) (S' : kI4) (N' : kN3) (M' : kM2) (Q' : kQ2) (cells' slots' : Nat), kLw E C' L' S' N' M' Q' → Q' 14 0 ≤ i + 1 → cells' + 6 * kSn N ≤ cells + 130 + 6 * kSn N' → slots' + 900 * kSn N ≤ slots + 4000 + 900 * kSn N' → kW Γ E A C' L' cells' slots' 1509 (kLo b L' i) []) : kW Γ E A C L cells slots 549 (kLo b L i) [] := by
  have K2 := K
  obtain ⟨X, hN, hR, rd, ln, rt⟩ := K
  obtain ⟨hX, ⟨R, hM⟩, ⟨f8, hF⟩, hs, hz⟩ := W
  have h1 : Q 1 0 = N 1 0 0 := hs.1.1
  have hn40 : N 1 0 0 ≤ 40 := hs.1.2.1
  have kj : ∀ x, kix x (Q 1 0) ↔ kix x (N 1 0 0) := fun x => by rw [h1]
  obtain ⟨p1, ep1⟩ : ∃ p, xs (5 * i + 1) = p := ⟨_, rfl⟩
  obtain ⟨p2, ep2⟩ : ∃ p, xs (5 * i + 2) = p := ⟨_, rfl⟩
  refine k_aload_n X dL_law_549 rfl rfl ?_
  refine k_aload_n X dL_law_550 rfl rfl ?_
  refine k_iload X dL_law_551 rfl ?_
  refine k_iconst (v := nI 1) X dL_law_553 (by decide) ?_
  refine k_iaddN X dL_law_554 ?_
  refine rd _ _ _ _ _ _ _ _ (show 5 * i + 1 < n by omega) dL_law_555 ?_
  refine k_rw (y := p1) ep1 ?_
  refine k_aload_n X dL_law_556 rfl rfl ?_
  refine k_iload X dL_law_557 rfl ?_
  refine k_iconst (v := nI 2) X dL_law_559 (by decide) ?_
  refine k_iaddN X dL_law_560 ?_
  refine rd _ _ _ _ _ _ _ _ (show 5 * i + 2 < n by omega) dL_law_561 ?_
  refine k_rw (y := p2) ep2 ?_
  refine k_aload_n X dL_law_562 rfl rfl ?_
  refine k_callSH (rest := []) X ksh_version kb_330 (h_version X.tr hX hs.ok hF p1 p2) rfl rfl (Nat.le_of_ble_eq_true rfl) ⟨by rw [hR]; exact Nat.le_of_ble_eq_true rfl, by rw [hR]; exact Nat.le_of_ble_eq_true rfl⟩ ⟨by rw [hR]; exact (show cells + 2 ≤ 601024 by omega), by rw [hR]; exact (show slots + 12 ≤ 7293034 by omega)⟩ dL_law_563 (fun v C9 L9 h9 => ?_)
  rcases h9 with ⟨rv, C1, f9, hp, rfl, rfl, hf9⟩ | ⟨rfl, z, rfl, rfl⟩ | ⟨rfl, z, rfl, rfl⟩
  ·
    obtain ⟨⟨j, a1, rfl, a2, ⟨⟩⟩, rfl, rfl⟩ := hp
    have hX2 := hX.k54 (e := some (.inl (E.2.1 2, 1, .inr (.inl f9))))
    have hM2 := hM.k54 (e := some (.inl (E.2.1 2, 1, .inr (.inl f9))))
    have hF2 : kOt E (kup C (54, 0, 0) (some (.inl (E.2.1 2, 1, .inr (.inl f9))))) f9 := kup_s
    refine k_istore X dL_law_566 (by rw [hN]; decide) ?_
    refine k_lo (lo' := [(0, .ref b), (1, .ref (L (1, 0, 0))), (2, .ref (L (30, 0, 0))), (3, .ref (L (54, 0, 0))), (4, .int (nI (5 * i))), (5, .int (nI 0))]) ⟨rfl, rfl, rfl, rfl, rfl, rfl, trivial⟩ ?_
    refine k_aload_n X dL_law_568 rfl rfl ?_
    refine k_aload_n X dL_law_569 rfl rfl ?_
    refine k_iload X dL_law_570 rfl ?_
    refine k_iconst (v := nI 1) X dL_law_572 (by decide) ?_
    refine k_iaddN X dL_law_573 ?_
    refine rd _ _ _ _ _ _ _ _ (show 5 * i + 1 < n by omega) dL_law_574 ?_
    refine k_rw (y := (nI j)) ep1 ?_
    refine k_aload_n X dL_law_575 rfl rfl ?_
    refine k_iload X dL_law_576 rfl ?_
    refine k_iconst (v := nI 2) X dL_law_578 (by decide) ?_
    refine k_iaddN X dL_law_579 ?_
    refine rd _ _ _ _ _ _ _ _ (show 5 * i + 2 < n by omega) dL_law_580 ?_
    refine k_rw (y := p2) ep2 ?_
    refine k_callV (rest := []) X kv_X6_version kb_337 (m_version X.tr hM2 hs.q1 (nI j) p2) hM2.1 rfl rfl rfl rfl rfl (Nat.le_of_ble_eq_true rfl) ⟨by rw [hR]; exact Nat.le_of_ble_eq_true rfl, by rw [hR]; exact Nat.le_of_ble_eq_true rfl⟩ ⟨by rw [hR]; exact (show cells + 2 + 0 ≤ 601024 by omega), by rw [hR]; exact (show slots + 12 + 0 ≤ 7293034 by omega)⟩ dL_law_581 (fun v C8 L8 g9 => ?_)
    obtain ⟨hcs, rfl, hFm⟩ := g9
    rcases hcs with ⟨j2, f0, b1, e2, hf0, rfl, rfl, hM3⟩ | ⟨y, rfl, hM3⟩ | ⟨⟨b1, b2⟩, rfl, hM3⟩
    ·
      refine k_istore X dL_law_584 (by rw [hN]; decide) ?_
      have ej := nI_inj e2 (by omega) (by omega)
      subst ej
      refine k_lo (lo' := [(0, .ref b), (1, .ref (L (1, 0, 0))), (2, .ref (L (30, 0, 0))), (3, .ref (L (54, 0, 0))), (4, .int (nI (5 * i))), (5, .int (nI 0)), (6, .int _)]) ⟨rfl, rfl, rfl, rfl, rfl, rfl, rfl, trivial⟩ ?_
      exact lw_tailOk K2 hM3 (hF2.fm hFm) (hf9.trans (congrArg Int32.toInt64 (by rw [kver hf0, ((hs.1.2.2.1 j a1).2.2.2 f0 (by omega)).2]))) (by omega) (by omega) dL_law_586 dL_law_587 dL_law_590 dL_law_592 dL_law_597 dL_law_599 dL_law_602 dL_law_603 dL_law_604 dL_law_605 dL_law_607 dL_law_608 dL_law_609 dL_law_614 (by decide) (k _ _ S N M Q _ _ ⟨hX2.fm hFm, ⟨_, hM3⟩, ⟨_, hF2.fm hFm⟩, hs, hz⟩ (by omega) (by omega) (by omega))
    ·
      exact absurd (kix.of a1 (by omega)) (fun w => y ((kj _).mpr w))
    ·
      exact absurd a2 b2
  ·
    have hX2 := hX
    have hM2 := hM
    have hF2 := hF
    refine k_istore X dL_law_566 (by rw [hN]; decide) ?_
    refine k_lo (lo' := [(0, .ref b), (1, .ref (L (1, 0, 0))), (2, .ref (L (30, 0, 0))), (3, .ref (L (54, 0, 0))), (4, .int (nI (5 * i))), (5, .int (nI 1))]) ⟨rfl, rfl, rfl, rfl, rfl, rfl, trivial⟩ ?_
    refine k_aload_n X dL_law_568 rfl rfl ?_
    refine k_aload_n X dL_law_569 rfl rfl ?_
    refine k_iload X dL_law_570 rfl ?_
    refine k_iconst (v := nI 1) X dL_law_572 (by decide) ?_
    refine k_iaddN X dL_law_573 ?_
    refine rd _ _ _ _ _ _ _ _ (show 5 * i + 1 < n by omega) dL_law_574 ?_
    refine k_rw (y := p1) ep1 ?_
    refine k_aload_n X dL_law_575 rfl rfl ?_
    refine k_iload X dL_law_576 rfl ?_
    refine k_iconst (v := nI 2) X dL_law_578 (by decide) ?_
    refine k_iaddN X dL_law_579 ?_
    refine rd _ _ _ _ _ _ _ _ (show 5 * i + 2 < n by omega) dL_law_580 ?_
    refine k_rw (y := p2) ep2 ?_
    refine k_callV (rest := []) X kv_X6_version kb_337 (m_version X.tr hM2 hs.q1 p1 p2) hM2.1 rfl rfl rfl rfl rfl (Nat.le_of_ble_eq_true rfl) ⟨by rw [hR]; exact Nat.le_of_ble_eq_true rfl, by rw [hR]; exact Nat.le_of_ble_eq_true rfl⟩ ⟨by rw [hR]; exact (show cells + 2 + 0 ≤ 601024 by omega), by rw [hR]; exact (show slots + 12 + 0 ≤ 7293034 by omega)⟩ dL_law_581 (fun v C8 L8 g9 => ?_)
    obtain ⟨hcs, rfl, hFm⟩ := g9
    rcases hcs with ⟨j2, f0, b1, e2, hf0, rfl, rfl, hM3⟩ | ⟨y, rfl, hM3⟩ | ⟨⟨b1, b2⟩, rfl, hM3⟩
    ·
      exact absurd (by rw [e2]; exact kix.of (by omega) (by omega)) z
    ·
      refine k_istore X dL_law_584 (by rw [hN]; decide) ?_
      refine k_lo (lo' := [(0, .ref b), (1, .ref (L (1, 0, 0))), (2, .ref (L (30, 0, 0))), (3, .ref (L (54, 0, 0))), (4, .int (nI (5 * i))), (5, .int (nI 1)), (6, .int (nI 0))]) ⟨rfl, rfl, rfl, rfl, rfl, rfl, rfl, trivial⟩ ?_
      exact lw_tailEx K2 (j := 1) (w := 15) (by decide) hM3 (by omega) (by omega) dL_law_586 dL_law_587 dL_law_590 dL_law_592 dL_law_597 dL_law_599 dL_law_614 (by decide) (k _ _ S N M Q _ _ ⟨hX2.fm hFm, ⟨_, hM3⟩, ⟨_, hF2.fm hFm⟩, hs, hz⟩ (by omega) (by omega) (by omega))
    ·
      exact absurd ((kj _).mp b1) z
  ·
    have hX2 := hX
    have hM2 := hM
    have hF2 := hF
    refine k_istore X dL_law_566 (by rw [hN]; decide) ?_
    refine k_lo (lo' := [(0, .ref b), (1, .ref (L (1, 0, 0))), (2, .ref (L (30, 0, 0))), (3, .ref (L (54, 0, 0))), (4, .int (nI (5 * i))), (5, .int (nI 2))]) ⟨rfl, rfl, rfl, rfl, rfl, rfl, trivial⟩ ?_
    refine k_aload_n X dL_law_568 rfl rfl ?_
    refine k_aload_n X dL_law_569 rfl rfl ?_
    refine k_iload X dL_law_570 rfl ?_
    refine k_iconst (v := nI 1) X dL_law_572 (by decide) ?_
    refine k_iaddN X dL_law_573 ?_
    refine rd _ _ _ _ _ _ _ _ (show 5 * i + 1 < n by omega) dL_law_574 ?_
    refine k_rw (y := p1) ep1 ?_
    refine k_aload_n X dL_law_575 rfl rfl ?_
    refine k_iload X dL_law_576 rfl ?_
    refine k_iconst (v := nI 2) X dL_law_578 (by decide) ?_
    refine k_iaddN X dL_law_579 ?_
    refine rd _ _ _ _ _ _ _ _ (show 5 * i + 2 < n by omega) dL_law_580 ?_
    refine k_rw (y := p2) ep2 ?_
    refine k_callV (rest := []) X kv_X6_version kb_337 (m_version X.tr hM2 hs.q1 p1 p2) hM2.1 rfl rfl rfl rfl rfl (Nat.le_of_ble_eq_true rfl) ⟨by rw [hR]; exact Nat.le_of_ble_eq_true rfl, by rw [hR]; exact Nat.le_of_ble_eq_true rfl⟩ ⟨by rw [hR]; exact (show cells + 2 + 0 ≤ 601024 by omega), by rw [hR]; exact (show slots + 12 + 0 ≤ 7293034 by omega)⟩ dL_law_581 (fun v C8 L8 g9 => ?_)
    obtain ⟨hcs, rfl, hFm⟩ := g9
    rcases hcs with ⟨j2, f0, b1, e2, hf0, rfl, rfl, hM3⟩ | ⟨y, rfl, hM3⟩ | ⟨⟨b1, b2⟩, rfl, hM3⟩
    ·
      exact absurd (kin01 hf0) z.2
    ·
      exact absurd z.1 (fun w => y ((kj _).mpr w))
    ·
      refine k_istore X dL_law_584 (by rw [hN]; decide) ?_
      refine k_lo (lo' := [(0, .ref b), (1, .ref (L (1, 0, 0))), (2, .ref (L (30, 0, 0))), (3, .ref (L (54, 0, 0))), (4, .int (nI (5 * i))), (5, .int (nI 2)), (6, .int (nI 0))]) ⟨rfl, rfl, rfl, rfl, rfl, rfl, rfl, trivial⟩ ?_
      exact lw_tailEx K2 (j := 2) (w := 15) (by decide) hM3 (by omega) (by omega) dL_law_586 dL_law_587 dL_law_590 dL_law_592 dL_law_597 dL_law_599 dL_law_614 (by decide) (k _ _ S N M Q _ _ ⟨hX2.fm hFm, ⟨_, hM3⟩, ⟨_, hF2.fm hFm⟩, hs, hz⟩ (by omega) (by omega) (by omega))

set_option maxHeartbeats 4000000 in
set_option maxRecDepth 100000 in
theorem lw_setRoom {Γ : kG} {E : kE} {A : Nat → Prop} {b n : Nat} {xs : Nat → Int32} (K : kLc Γ E A b n xs) {C : kC} {L : kL} {S : kI4} {N : kN3} {M : kM2} {Q : kQ2} (W : kLw E C L S N M Q) {i cells slots : Nat} (hi : 5 * i + 5 ≤ n) (hi5 : i < 512) (hq : Q 14 0 ≤ i) (hc : cells + 1000 ≤ 601024) (hs9 : slots + 100000 ≤ 7293034) (k : ∀ (C' : kC) (L' : kL) (S' : kI4) (N' : kN3) (M' : kM2) (Q' : kQ2) (cells' slots' : Nat), kLw E C' L' S' N' M' Q' → Q' 14 0 ≤ i + 1 → cells' + 6 * kSn N ≤ cells + 130 + 6 * kSn N' → slots' + 900 * kSn N ≤ slots + 4000 + 900 * kSn N' → kW Γ E A C' L' cells' slots' 1509 (kLo b L' i) []) : kW Γ E A C L cells slots 617 (kLo b L i) [] := by
  have K2 := K
  obtain ⟨X, hN, hR, rd, ln, rt⟩ := K
  obtain ⟨hX, ⟨R, hM⟩, ⟨f8, hF⟩, hs, hz⟩ := W
  have h1 : Q 1 0 = N 1 0 0 := hs.1.1
  have hn40 : N 1 0 0 ≤ 40 := hs.1.2.1
  have kj : ∀ x, kix x (Q 1 0) ↔ kix x (N 1 0 0) := fun x => by rw [h1]
  obtain ⟨p1, ep1⟩ : ∃ p, xs (5 * i + 1) = p := ⟨_, rfl⟩
  obtain ⟨p2, ep2⟩ : ∃ p, xs (5 * i + 2) = p := ⟨_, rfl⟩
  refine k_aload_n X dL_law_617 rfl rfl ?_
  refine k_aload_n X dL_law_618 rfl rfl ?_
  refine k_iload X dL_law_619 rfl ?_
  refine k_iconst (v := nI 1) X dL_law_621 (by decide) ?_
  refine k_iaddN X dL_law_622 ?_
  refine rd _ _ _ _ _ _ _ _ (show 5 * i + 1 < n by omega) dL_law_623 ?_
  refine k_rw (y := p1) ep1 ?_
  refine k_aload_n X dL_law_624 rfl rfl ?_
  refine k_iload X dL_law_625 rfl ?_
  refine k_iconst (v := nI 2) X dL_law_627 (by decide) ?_
  refine k_iaddN X dL_law_628 ?_
  refine rd _ _ _ _ _ _ _ _ (show 5 * i + 2 < n by omega) dL_law_629 ?_
  refine k_rw (y := p2) ep2 ?_
  refine k_aload_n X dL_law_630 rfl rfl ?_
  refine k_callSH (rest := []) X ksh_setRoom kb_341 (h_setRoom X.tr hX hs.ok hF p1 p2) rfl rfl (Nat.le_of_ble_eq_true rfl) ⟨by rw [hR]; exact Nat.le_of_ble_eq_true rfl, by rw [hR]; exact Nat.le_of_ble_eq_true rfl⟩ ⟨by rw [hR]; exact (show cells + 2 ≤ 601024 by omega), by rw [hR]; exact (show slots + 12 ≤ 7293034 by omega)⟩ dL_law_631 (fun v C9 L9 h9 => ?_)
  rcases h9 with ⟨rv, C1, f9, hp, rfl, rfl, hf9⟩ | ⟨rfl, z, rfl, rfl⟩ | ⟨rfl, z, rfl, rfl⟩
  ·
    obtain ⟨⟨d, hd, rfl, a2, ⟨⟩, hX1⟩, rfl, hFr⟩ := hp
    have hX2 := hX1.k54 (e := some (.inl (E.2.1 2, 1, .inr (.inl f9))))
    have hM2 := (hFr.m hM).k54 (e := some (.inl (E.2.1 2, 1, .inr (.inl f9))))
    have hF2 : kOt E (kup C1 (54, 0, 0) (some (.inl (E.2.1 2, 1, .inr (.inl f9))))) f9 := kup_s
    refine k_istore X dL_law_634 (by rw [hN]; decide) ?_
    refine k_lo (lo' := [(0, .ref b), (1, .ref (L (1, 0, 0))), (2, .ref (L (30, 0, 0))), (3, .ref (L (54, 0, 0))), (4, .int (nI (5 * i))), (5, .int (nI 0))]) ⟨rfl, rfl, rfl, rfl, rfl, rfl, trivial⟩ ?_
    refine k_aload_n X dL_law_636 rfl rfl ?_
    refine k_aload_n X dL_law_637 rfl rfl ?_
    refine k_iload X dL_law_638 rfl ?_
    refine k_iconst (v := nI 1) X dL_law_640 (by decide) ?_
    refine k_iaddN X dL_law_641 ?_
    refine rd _ _ _ _ _ _ _ _ (show 5 * i + 1 < n by omega) dL_law_642 ?_
    refine k_rw (y := (nI d)) ep1 ?_
    refine k_aload_n X dL_law_643 rfl rfl ?_
    refine k_iload X dL_law_644 rfl ?_
    refine k_iconst (v := nI 2) X dL_law_646 (by decide) ?_
    refine k_iaddN X dL_law_647 ?_
    refine rd _ _ _ _ _ _ _ _ (show 5 * i + 2 < n by omega) dL_law_648 ?_
    refine k_rw (y := p2) ep2 ?_
    refine k_callV (rest := []) X kv_X6_setRoom kb_353 (m_setRoom X.tr hM2 (nI d) p2) hM2.1 rfl rfl rfl rfl rfl (Nat.le_of_ble_eq_true rfl) ⟨by rw [hR]; exact Nat.le_of_ble_eq_true rfl, by rw [hR]; exact Nat.le_of_ble_eq_true rfl⟩ ⟨by rw [hR]; exact (show cells + 2 + 0 ≤ 601024 by omega), by rw [hR]; exact (show slots + 12 + 0 ≤ 7293034 by omega)⟩ dL_law_649 (fun v C8 L8 g9 => ?_)
    obtain ⟨hcs, rfl, hFm⟩ := g9
    rcases hcs with ⟨d2, b1, e2, b2, rfl, hM3⟩ | ⟨y, rfl, hM3⟩ | ⟨⟨b1, b2⟩, rfl, hM3⟩
    ·
      refine k_istore X dL_law_652 (by rw [hN]; decide) ?_
      have ej := nI_d e2 hd b1
      subst ej
      refine k_lo (lo' := [(0, .ref b), (1, .ref (L (1, 0, 0))), (2, .ref (L (30, 0, 0))), (3, .ref (L (54, 0, 0))), (4, .int (nI (5 * i))), (5, .int (nI 0)), (6, .int _)]) ⟨rfl, rfl, rfl, rfl, rfl, rfl, rfl, trivial⟩ ?_
      exact lw_tailOk K2 hM3 (hF2.fm hFm) (hf9.trans (congrArg Int32.toInt64 (hs.2.1 d hd).1.symm)) (by omega) (by omega) dL_law_654 dL_law_655 dL_law_658 dL_law_660 dL_law_665 dL_law_667 dL_law_670 dL_law_671 dL_law_672 dL_law_673 dL_law_675 dL_law_676 dL_law_677 dL_law_682 (by decide) (k _ _ (w4 S 4 d 0 0 p2) N (w2 M 6 d p2) Q _ _ ⟨hX2.fm hFm, ⟨_, hM3⟩, ⟨_, hF2.fm hFm⟩, hs.room a2, hz.of (w2_f (a := 6) (b := 7) (by decide))⟩ (by omega) (by omega) (by omega))
    ·
      exact absurd (kix.of hd (by decide)) y
    ·
      exact absurd a2 b2
  ·
    have hX2 := hX
    have hM2 := hM
    have hF2 := hF
    refine k_istore X dL_law_634 (by rw [hN]; decide) ?_
    refine k_lo (lo' := [(0, .ref b), (1, .ref (L (1, 0, 0))), (2, .ref (L (30, 0, 0))), (3, .ref (L (54, 0, 0))), (4, .int (nI (5 * i))), (5, .int (nI 1))]) ⟨rfl, rfl, rfl, rfl, rfl, rfl, trivial⟩ ?_
    refine k_aload_n X dL_law_636 rfl rfl ?_
    refine k_aload_n X dL_law_637 rfl rfl ?_
    refine k_iload X dL_law_638 rfl ?_
    refine k_iconst (v := nI 1) X dL_law_640 (by decide) ?_
    refine k_iaddN X dL_law_641 ?_
    refine rd _ _ _ _ _ _ _ _ (show 5 * i + 1 < n by omega) dL_law_642 ?_
    refine k_rw (y := p1) ep1 ?_
    refine k_aload_n X dL_law_643 rfl rfl ?_
    refine k_iload X dL_law_644 rfl ?_
    refine k_iconst (v := nI 2) X dL_law_646 (by decide) ?_
    refine k_iaddN X dL_law_647 ?_
    refine rd _ _ _ _ _ _ _ _ (show 5 * i + 2 < n by omega) dL_law_648 ?_
    refine k_rw (y := p2) ep2 ?_
    refine k_callV (rest := []) X kv_X6_setRoom kb_353 (m_setRoom X.tr hM2 p1 p2) hM2.1 rfl rfl rfl rfl rfl (Nat.le_of_ble_eq_true rfl) ⟨by rw [hR]; exact Nat.le_of_ble_eq_true rfl, by rw [hR]; exact Nat.le_of_ble_eq_true rfl⟩ ⟨by rw [hR]; exact (show cells + 2 + 0 ≤ 601024 by omega), by rw [hR]; exact (show slots + 12 + 0 ≤ 7293034 by omega)⟩ dL_law_649 (fun v C8 L8 g9 => ?_)
    obtain ⟨hcs, rfl, hFm⟩ := g9
    rcases hcs with ⟨d2, b1, e2, b2, rfl, hM3⟩ | ⟨y, rfl, hM3⟩ | ⟨⟨b1, b2⟩, rfl, hM3⟩
    ·
      exact absurd (by rw [e2]; exact kix.of b1 (by decide)) z
    ·
      refine k_istore X dL_law_652 (by rw [hN]; decide) ?_
      refine k_lo (lo' := [(0, .ref b), (1, .ref (L (1, 0, 0))), (2, .ref (L (30, 0, 0))), (3, .ref (L (54, 0, 0))), (4, .int (nI (5 * i))), (5, .int (nI 1)), (6, .int (nI 0))]) ⟨rfl, rfl, rfl, rfl, rfl, rfl, rfl, trivial⟩ ?_
      exact lw_tailEx K2 (j := 1) (w := 15) (by decide) hM3 (by omega) (by omega) dL_law_654 dL_law_655 dL_law_658 dL_law_660 dL_law_665 dL_law_667 dL_law_682 (by decide) (k _ _ S N M Q _ _ ⟨hX2.fm hFm, ⟨_, hM3⟩, ⟨_, hF2.fm hFm⟩, hs, hz⟩ (by omega) (by omega) (by omega))
    ·
      exact absurd b1 z
  ·
    have hX2 := hX
    have hM2 := hM
    have hF2 := hF
    refine k_istore X dL_law_634 (by rw [hN]; decide) ?_
    refine k_lo (lo' := [(0, .ref b), (1, .ref (L (1, 0, 0))), (2, .ref (L (30, 0, 0))), (3, .ref (L (54, 0, 0))), (4, .int (nI (5 * i))), (5, .int (nI 2))]) ⟨rfl, rfl, rfl, rfl, rfl, rfl, trivial⟩ ?_
    refine k_aload_n X dL_law_636 rfl rfl ?_
    refine k_aload_n X dL_law_637 rfl rfl ?_
    refine k_iload X dL_law_638 rfl ?_
    refine k_iconst (v := nI 1) X dL_law_640 (by decide) ?_
    refine k_iaddN X dL_law_641 ?_
    refine rd _ _ _ _ _ _ _ _ (show 5 * i + 1 < n by omega) dL_law_642 ?_
    refine k_rw (y := p1) ep1 ?_
    refine k_aload_n X dL_law_643 rfl rfl ?_
    refine k_iload X dL_law_644 rfl ?_
    refine k_iconst (v := nI 2) X dL_law_646 (by decide) ?_
    refine k_iaddN X dL_law_647 ?_
    refine rd _ _ _ _ _ _ _ _ (show 5 * i + 2 < n by omega) dL_law_648 ?_
    refine k_rw (y := p2) ep2 ?_
    refine k_callV (rest := []) X kv_X6_setRoom kb_353 (m_setRoom X.tr hM2 p1 p2) hM2.1 rfl rfl rfl rfl rfl (Nat.le_of_ble_eq_true rfl) ⟨by rw [hR]; exact Nat.le_of_ble_eq_true rfl, by rw [hR]; exact Nat.le_of_ble_eq_true rfl⟩ ⟨by rw [hR]; exact (show cells + 2 + 0 ≤ 601024 by omega), by rw [hR]; exact (show slots + 12 + 0 ≤ 7293034 by omega)⟩ dL_law_649 (fun v C8 L8 g9 => ?_)
    obtain ⟨hcs, rfl, hFm⟩ := g9
    rcases hcs with ⟨d2, b1, e2, b2, rfl, hM3⟩ | ⟨y, rfl, hM3⟩ | ⟨⟨b1, b2⟩, rfl, hM3⟩
    ·
      exact absurd b2 z.2
    ·
      exact absurd z.1 y
    ·
      refine k_istore X dL_law_652 (by rw [hN]; decide) ?_
      refine k_lo (lo' := [(0, .ref b), (1, .ref (L (1, 0, 0))), (2, .ref (L (30, 0, 0))), (3, .ref (L (54, 0, 0))), (4, .int (nI (5 * i))), (5, .int (nI 2)), (6, .int (nI 0))]) ⟨rfl, rfl, rfl, rfl, rfl, rfl, rfl, trivial⟩ ?_
      exact lw_tailEx K2 (j := 2) (w := 15) (by decide) hM3 (by omega) (by omega) dL_law_654 dL_law_655 dL_law_658 dL_law_660 dL_law_665 dL_law_667 dL_law_682 (by decide) (k _ _ S N M Q _ _ ⟨hX2.fm hFm, ⟨_, hM3⟩, ⟨_, hF2.fm hFm⟩, hs, hz⟩ (by omega) (by omega) (by omega))

set_option maxHeartbeats 4000000 in
set_option maxRecDepth 100000 in
theorem lw_fetch {Γ : kG} {E : kE} {A : Nat → Prop} {b n : Nat} {xs : Nat → Int32} (K : kLc Γ E A b n xs) {C : kC} {L : kL} {S : kI4} {N : kN3} {M : kM2} {Q : kQ2} (W : kLw E C L S N M Q) {i cells slots : Nat} (hi : 5 * i + 5 ≤ n) (hi5 : i < 512) (hq : Q 14 0 ≤ i) (hc : cells + 1000 ≤ 601024) (hs9 : slots + 100000 ≤ 7293034) (k : ∀ (C' : kC) (L' : kL) (S' : kI4) (N' : kN3) (M' : kM2) (Q' : kQ2) (cells' slots' : Nat), kLw E C' L' S' N' M' Q' → Q' 14 0 ≤ i + 1 → cells' + 6 * kSn N ≤ cells + 130 + 6 * kSn N' → slots' + 900 * kSn N ≤ slots + 4000 + 900 * kSn N' → kW Γ E A C' L' cells' slots' 1509 (kLo b L' i) []) : kW Γ E A C L cells slots 685 (kLo b L i) [] := by
  have K2 := K
  obtain ⟨X, hN, hR, rd, ln, rt⟩ := K
  obtain ⟨hX, ⟨R, hM⟩, ⟨f8, hF⟩, hs, hz⟩ := W
  have h1 : Q 1 0 = N 1 0 0 := hs.1.1
  have hn40 : N 1 0 0 ≤ 40 := hs.1.2.1
  have kj : ∀ x, kix x (Q 1 0) ↔ kix x (N 1 0 0) := fun x => by rw [h1]
  obtain ⟨p1, ep1⟩ : ∃ p, xs (5 * i + 1) = p := ⟨_, rfl⟩
  refine k_aload_n X dL_law_685 rfl rfl ?_
  refine k_aload_n X dL_law_686 rfl rfl ?_
  refine k_iload X dL_law_687 rfl ?_
  refine k_iconst (v := nI 1) X dL_law_689 (by decide) ?_
  refine k_iaddN X dL_law_690 ?_
  refine rd _ _ _ _ _ _ _ _ (show 5 * i + 1 < n by omega) dL_law_691 ?_
  refine k_rw (y := p1) ep1 ?_
  refine k_aload_n X dL_law_692 rfl rfl ?_
  refine k_callSH (rest := []) X ksh_fetch kb_357 (h_fetch X.tr hX hs.ok hF p1) rfl rfl (Nat.le_of_ble_eq_true rfl) ⟨by rw [hR]; exact Nat.le_of_ble_eq_true rfl, by rw [hR]; exact Nat.le_of_ble_eq_true rfl⟩ ⟨by rw [hR]; exact (show cells + 121 ≤ 601024 by omega), by rw [hR]; exact (show slots + 486 ≤ 7293034 by omega)⟩ dL_law_693 (fun v C9 L9 h9 => ?_)
  rcases h9 with ⟨rv, C1, f9, hp, rfl, rfl, hf9⟩ | ⟨rfl, z, rfl, rfl⟩
  ·
    obtain ⟨⟨d, hd, rfl, ⟨⟩, hX1⟩, hFr, hL1⟩ := hp
    have hX2 := hX1.k54 (e := some (.inl (E.2.1 2, 1, .inr (.inl f9))))
    have hM2 := (hFr.m hM).k54 (e := some (.inl (E.2.1 2, 1, .inr (.inl f9))))
    have hF2 : kOt E (kup C1 (54, 0, 0) (some (.inl (E.2.1 2, 1, .inr (.inl f9))))) f9 := kup_s
    refine k_istore X dL_law_696 (by rw [hN]; decide) ?_
    refine k_lo (lo' := [(0, .ref b), (1, .ref (L9 (1, 0, 0))), (2, .ref (L9 (30, 0, 0))), (3, .ref (L9 (54, 0, 0))), (4, .int (nI (5 * i))), (5, .int (nI 0))]) ⟨rfl, kLR (hL1 (1, 0, 0) (by decide)), kLR (hFr (30, 0, 0) (show 30 ≤ 30 by decide)).2, kLR (hFr (54, 0, 0) (show 30 ≤ 54 by decide)).2, rfl, rfl, trivial⟩ ?_
    refine k_aload_n X dL_law_698 rfl rfl ?_
    refine k_aload_n X dL_law_699 rfl rfl ?_
    refine k_iload X dL_law_700 rfl ?_
    refine k_iconst (v := nI 1) X dL_law_702 (by decide) ?_
    refine k_iaddN X dL_law_703 ?_
    refine rd _ _ _ _ _ _ _ _ (show 5 * i + 1 < n by omega) dL_law_704 ?_
    refine k_rw (y := (nI d)) ep1 ?_
    refine k_callV (rest := []) X kv_X6_fetch kb_386 (m_fetch X.tr hM2 hs.q1 (fun d hd => hs.q10 hd) (fun d => (M 6 d).toNatClampNeg) (fun d hd => (hs.rm hd).1) (fun d hd => (hs.rm hd).2) (nI d)) hM2.1 rfl rfl rfl rfl rfl (Nat.le_of_ble_eq_true rfl) ⟨by rw [hR]; exact Nat.le_of_ble_eq_true rfl, by rw [hR]; exact Nat.le_of_ble_eq_true rfl⟩ ⟨by rw [hR]; exact (show cells + 121 + 0 ≤ 601024 by omega), by rw [hR]; exact (show slots + 486 + 0 ≤ 7293034 by omega)⟩ dL_law_705 (fun v C8 L8 g9 => ?_)
    obtain ⟨hcs, rfl, hFm⟩ := g9
    rcases hcs with ⟨d2, b1, e2, rfl, hM3⟩ | ⟨y, rfl, hM3⟩
    ·
      refine k_istore X dL_law_708 (by rw [hN]; decide) ?_
      have ej := nI_d e2 hd b1
      subst ej
      have hs2 := hs.fetch hd (hs.rm hd).1 (hs.rm hd).2
      have esn : kSn (xFetch (S, N) d).2 = kSn N := kSn.cg xFetch_n4
      refine k_lo (lo' := [(0, .ref b), (1, .ref (L9 (1, 0, 0))), (2, .ref (L9 (30, 0, 0))), (3, .ref (L9 (54, 0, 0))), (4, .int (nI (5 * i))), (5, .int (nI 0)), (6, .int _)]) ⟨rfl, rfl, rfl, rfl, rfl, rfl, rfl, trivial⟩ ?_
      exact lw_tailOk K2 hM3 (hF2.fm hFm) (hf9.trans (congrArg Int32.toInt64 (hs2.hc hd))) (by omega) (by omega) dL_law_710 dL_law_711 dL_law_714 dL_law_716 dL_law_721 dL_law_723 dL_law_726 dL_law_727 dL_law_728 dL_law_729 dL_law_731 dL_law_732 dL_law_733 dL_law_738 (by decide) (k _ _ (xFetch (S, N) d).1 (xFetch (S, N) d).2 (mFe M d (M 6 d).toNatClampNeg (Q 1 0)).1 Q _ _ ⟨hX2.fm hFm, ⟨_, hM3⟩, ⟨_, hF2.fm hFm⟩, hs2, hz.fetch⟩ (by omega) (by rw [esn]; omega) (by rw [esn]; omega))
    ·
      exact absurd (kix.of hd (by decide)) y
  ·
    have hX2 := hX
    have hM2 := hM
    have hF2 := hF
    refine k_istore X dL_law_696 (by rw [hN]; decide) ?_
    refine k_lo (lo' := [(0, .ref b), (1, .ref (L (1, 0, 0))), (2, .ref (L (30, 0, 0))), (3, .ref (L (54, 0, 0))), (4, .int (nI (5 * i))), (5, .int (nI 1))]) ⟨rfl, rfl, rfl, rfl, rfl, rfl, trivial⟩ ?_
    refine k_aload_n X dL_law_698 rfl rfl ?_
    refine k_aload_n X dL_law_699 rfl rfl ?_
    refine k_iload X dL_law_700 rfl ?_
    refine k_iconst (v := nI 1) X dL_law_702 (by decide) ?_
    refine k_iaddN X dL_law_703 ?_
    refine rd _ _ _ _ _ _ _ _ (show 5 * i + 1 < n by omega) dL_law_704 ?_
    refine k_rw (y := p1) ep1 ?_
    refine k_callV (rest := []) X kv_X6_fetch kb_386 (m_fetch X.tr hM2 hs.q1 (fun d hd => hs.q10 hd) (fun d => (M 6 d).toNatClampNeg) (fun d hd => (hs.rm hd).1) (fun d hd => (hs.rm hd).2) p1) hM2.1 rfl rfl rfl rfl rfl (Nat.le_of_ble_eq_true rfl) ⟨by rw [hR]; exact Nat.le_of_ble_eq_true rfl, by rw [hR]; exact Nat.le_of_ble_eq_true rfl⟩ ⟨by rw [hR]; exact (show cells + 121 + 0 ≤ 601024 by omega), by rw [hR]; exact (show slots + 486 + 0 ≤ 7293034 by omega)⟩ dL_law_705 (fun v C8 L8 g9 => ?_)
    obtain ⟨hcs, rfl, hFm⟩ := g9
    rcases hcs with ⟨d2, b1, e2, rfl, hM3⟩ | ⟨y, rfl, hM3⟩
    ·
      exact absurd (by rw [e2]; exact kix.of b1 (by decide)) z
    ·
      refine k_istore X dL_law_708 (by rw [hN]; decide) ?_
      refine k_lo (lo' := [(0, .ref b), (1, .ref (L (1, 0, 0))), (2, .ref (L (30, 0, 0))), (3, .ref (L (54, 0, 0))), (4, .int (nI (5 * i))), (5, .int (nI 1)), (6, .int (nI 0))]) ⟨rfl, rfl, rfl, rfl, rfl, rfl, rfl, trivial⟩ ?_
      exact lw_tailEx K2 (j := 1) (w := 15) (by decide) hM3 (by omega) (by omega) dL_law_710 dL_law_711 dL_law_714 dL_law_716 dL_law_721 dL_law_723 dL_law_738 (by decide) (k _ _ S N M Q _ _ ⟨hX2.fm hFm, ⟨_, hM3⟩, ⟨_, hF2.fm hFm⟩, hs, hz⟩ (by omega) (by omega) (by omega))

set_option maxHeartbeats 4000000 in
set_option maxRecDepth 100000 in
theorem lw_held {Γ : kG} {E : kE} {A : Nat → Prop} {b n : Nat} {xs : Nat → Int32} (K : kLc Γ E A b n xs) {C : kC} {L : kL} {S : kI4} {N : kN3} {M : kM2} {Q : kQ2} (W : kLw E C L S N M Q) {i cells slots : Nat} (hi : 5 * i + 5 ≤ n) (hi5 : i < 512) (hq : Q 14 0 ≤ i) (hc : cells + 1000 ≤ 601024) (hs9 : slots + 100000 ≤ 7293034) (k : ∀ (C' : kC) (L' : kL) (S' : kI4) (N' : kN3) (M' : kM2) (Q' : kQ2) (cells' slots' : Nat), kLw E C' L' S' N' M' Q' → Q' 14 0 ≤ i + 1 → cells' + 6 * kSn N ≤ cells + 130 + 6 * kSn N' → slots' + 900 * kSn N ≤ slots + 4000 + 900 * kSn N' → kW Γ E A C' L' cells' slots' 1509 (kLo b L' i) []) : kW Γ E A C L cells slots 741 (kLo b L i) [] := by
  have K2 := K
  obtain ⟨X, hN, hR, rd, ln, rt⟩ := K
  obtain ⟨hX, ⟨R, hM⟩, ⟨f8, hF⟩, hs, hz⟩ := W
  have h1 : Q 1 0 = N 1 0 0 := hs.1.1
  have hn40 : N 1 0 0 ≤ 40 := hs.1.2.1
  have kj : ∀ x, kix x (Q 1 0) ↔ kix x (N 1 0 0) := fun x => by rw [h1]
  obtain ⟨p1, ep1⟩ : ∃ p, xs (5 * i + 1) = p := ⟨_, rfl⟩
  refine k_aload_n X dL_law_741 rfl rfl ?_
  refine k_aload_n X dL_law_742 rfl rfl ?_
  refine k_iload X dL_law_743 rfl ?_
  refine k_iconst (v := nI 1) X dL_law_745 (by decide) ?_
  refine k_iaddN X dL_law_746 ?_
  refine rd _ _ _ _ _ _ _ _ (show 5 * i + 1 < n by omega) dL_law_747 ?_
  refine k_rw (y := p1) ep1 ?_
  refine k_aload_n X dL_law_748 rfl rfl ?_
  refine k_callSH (rest := []) X ksh_held kb_402 (h_held X.tr hX hs.ok hF p1) rfl rfl (Nat.le_of_ble_eq_true rfl) ⟨by rw [hR]; exact Nat.le_of_ble_eq_true rfl, by rw [hR]; exact Nat.le_of_ble_eq_true rfl⟩ ⟨by rw [hR]; exact (show cells + 1 ≤ 601024 by omega), by rw [hR]; exact (show slots + 6 ≤ 7293034 by omega)⟩ dL_law_749 (fun v C9 L9 h9 => ?_)
  rcases h9 with ⟨rv, C1, f9, hp, rfl, rfl, hf9⟩ | ⟨rfl, z, rfl, rfl⟩
  ·
    obtain ⟨⟨d, hd, rfl, ⟨⟩⟩, rfl, rfl⟩ := hp
    have hX2 := hX.k54 (e := some (.inl (E.2.1 2, 1, .inr (.inl f9))))
    have hM2 := hM.k54 (e := some (.inl (E.2.1 2, 1, .inr (.inl f9))))
    have hF2 : kOt E (kup C (54, 0, 0) (some (.inl (E.2.1 2, 1, .inr (.inl f9))))) f9 := kup_s
    refine k_istore X dL_law_752 (by rw [hN]; decide) ?_
    refine k_lo (lo' := [(0, .ref b), (1, .ref (L (1, 0, 0))), (2, .ref (L (30, 0, 0))), (3, .ref (L (54, 0, 0))), (4, .int (nI (5 * i))), (5, .int (nI 0))]) ⟨rfl, rfl, rfl, rfl, rfl, rfl, trivial⟩ ?_
    refine k_aload_n X dL_law_754 rfl rfl ?_
    refine k_aload_n X dL_law_755 rfl rfl ?_
    refine k_iload X dL_law_756 rfl ?_
    refine k_iconst (v := nI 1) X dL_law_758 (by decide) ?_
    refine k_iaddN X dL_law_759 ?_
    refine rd _ _ _ _ _ _ _ _ (show 5 * i + 1 < n by omega) dL_law_760 ?_
    refine k_rw (y := (nI d)) ep1 ?_
    refine k_callV (rest := []) X kv_X6_held kb_409 (m_held X.tr hM2 (fun d hd => hs.q10 hd) (nI d)) hM2.1 rfl rfl rfl rfl rfl (Nat.le_of_ble_eq_true rfl) ⟨by rw [hR]; exact Nat.le_of_ble_eq_true rfl, by rw [hR]; exact Nat.le_of_ble_eq_true rfl⟩ ⟨by rw [hR]; exact (show cells + 1 + 0 ≤ 601024 by omega), by rw [hR]; exact (show slots + 6 + 0 ≤ 7293034 by omega)⟩ dL_law_761 (fun v C8 L8 g9 => ?_)
    obtain ⟨hcs, rfl, hFm⟩ := g9
    rcases hcs with ⟨d2, b1, e2, rfl, hM3⟩ | ⟨y, rfl, hM3⟩
    ·
      refine k_istore X dL_law_764 (by rw [hN]; decide) ?_
      have ej := nI_d e2 hd b1
      subst ej
      refine k_lo (lo' := [(0, .ref b), (1, .ref (L (1, 0, 0))), (2, .ref (L (30, 0, 0))), (3, .ref (L (54, 0, 0))), (4, .int (nI (5 * i))), (5, .int (nI 0)), (6, .int _)]) ⟨rfl, rfl, rfl, rfl, rfl, rfl, rfl, trivial⟩ ?_
      exact lw_tailOk K2 hM3 (hF2.fm hFm) (hf9.trans (congrArg Int32.toInt64 (hs.hc hd))) (by omega) (by omega) dL_law_766 dL_law_767 dL_law_770 dL_law_772 dL_law_777 dL_law_779 dL_law_782 dL_law_783 dL_law_784 dL_law_785 dL_law_787 dL_law_788 dL_law_789 dL_law_794 (by decide) (k _ _ S N M Q _ _ ⟨hX2.fm hFm, ⟨_, hM3⟩, ⟨_, hF2.fm hFm⟩, hs, hz⟩ (by omega) (by omega) (by omega))
    ·
      exact absurd (kix.of hd (by decide)) y
  ·
    have hX2 := hX
    have hM2 := hM
    have hF2 := hF
    refine k_istore X dL_law_752 (by rw [hN]; decide) ?_
    refine k_lo (lo' := [(0, .ref b), (1, .ref (L (1, 0, 0))), (2, .ref (L (30, 0, 0))), (3, .ref (L (54, 0, 0))), (4, .int (nI (5 * i))), (5, .int (nI 1))]) ⟨rfl, rfl, rfl, rfl, rfl, rfl, trivial⟩ ?_
    refine k_aload_n X dL_law_754 rfl rfl ?_
    refine k_aload_n X dL_law_755 rfl rfl ?_
    refine k_iload X dL_law_756 rfl ?_
    refine k_iconst (v := nI 1) X dL_law_758 (by decide) ?_
    refine k_iaddN X dL_law_759 ?_
    refine rd _ _ _ _ _ _ _ _ (show 5 * i + 1 < n by omega) dL_law_760 ?_
    refine k_rw (y := p1) ep1 ?_
    refine k_callV (rest := []) X kv_X6_held kb_409 (m_held X.tr hM2 (fun d hd => hs.q10 hd) p1) hM2.1 rfl rfl rfl rfl rfl (Nat.le_of_ble_eq_true rfl) ⟨by rw [hR]; exact Nat.le_of_ble_eq_true rfl, by rw [hR]; exact Nat.le_of_ble_eq_true rfl⟩ ⟨by rw [hR]; exact (show cells + 1 + 0 ≤ 601024 by omega), by rw [hR]; exact (show slots + 6 + 0 ≤ 7293034 by omega)⟩ dL_law_761 (fun v C8 L8 g9 => ?_)
    obtain ⟨hcs, rfl, hFm⟩ := g9
    rcases hcs with ⟨d2, b1, e2, rfl, hM3⟩ | ⟨y, rfl, hM3⟩
    ·
      exact absurd (by rw [e2]; exact kix.of b1 (by decide)) z
    ·
      refine k_istore X dL_law_764 (by rw [hN]; decide) ?_
      refine k_lo (lo' := [(0, .ref b), (1, .ref (L (1, 0, 0))), (2, .ref (L (30, 0, 0))), (3, .ref (L (54, 0, 0))), (4, .int (nI (5 * i))), (5, .int (nI 1)), (6, .int (nI 0))]) ⟨rfl, rfl, rfl, rfl, rfl, rfl, rfl, trivial⟩ ?_
      exact lw_tailEx K2 (j := 1) (w := 15) (by decide) hM3 (by omega) (by omega) dL_law_766 dL_law_767 dL_law_770 dL_law_772 dL_law_777 dL_law_779 dL_law_794 (by decide) (k _ _ S N M Q _ _ ⟨hX2.fm hFm, ⟨_, hM3⟩, ⟨_, hF2.fm hFm⟩, hs, hz⟩ (by omega) (by omega) (by omega))

set_option maxHeartbeats 4000000 in
set_option maxRecDepth 100000 in
theorem lw_holds {Γ : kG} {E : kE} {A : Nat → Prop} {b n : Nat} {xs : Nat → Int32} (K : kLc Γ E A b n xs) {C : kC} {L : kL} {S : kI4} {N : kN3} {M : kM2} {Q : kQ2} (W : kLw E C L S N M Q) {i cells slots : Nat} (hi : 5 * i + 5 ≤ n) (hi5 : i < 512) (hq : Q 14 0 ≤ i) (hc : cells + 1000 ≤ 601024) (hs9 : slots + 100000 ≤ 7293034) (k : ∀ (C' : kC) (L' : kL) (S' : kI4) (N' : kN3) (M' : kM2) (Q' : kQ2) (cells' slots' : Nat), kLw E C' L' S' N' M' Q' → Q' 14 0 ≤ i + 1 → cells' + 6 * kSn N ≤ cells + 130 + 6 * kSn N' → slots' + 900 * kSn N ≤ slots + 4000 + 900 * kSn N' → kW Γ E A C' L' cells' slots' 1509 (kLo b L' i) []) : kW Γ E A C L cells slots 797 (kLo b L i) [] := by
  have K2 := K
  obtain ⟨X, hN, hR, rd, ln, rt⟩ := K
  obtain ⟨hX, ⟨R, hM⟩, ⟨f8, hF⟩, hs, hz⟩ := W
  have h1 : Q 1 0 = N 1 0 0 := hs.1.1
  have hn40 : N 1 0 0 ≤ 40 := hs.1.2.1
  have kj : ∀ x, kix x (Q 1 0) ↔ kix x (N 1 0 0) := fun x => by rw [h1]
  obtain ⟨p1, ep1⟩ : ∃ p, xs (5 * i + 1) = p := ⟨_, rfl⟩
  obtain ⟨p2, ep2⟩ : ∃ p, xs (5 * i + 2) = p := ⟨_, rfl⟩
  refine k_aload_n X dL_law_797 rfl rfl ?_
  refine k_aload_n X dL_law_798 rfl rfl ?_
  refine k_iload X dL_law_799 rfl ?_
  refine k_iconst (v := nI 1) X dL_law_801 (by decide) ?_
  refine k_iaddN X dL_law_802 ?_
  refine rd _ _ _ _ _ _ _ _ (show 5 * i + 1 < n by omega) dL_law_803 ?_
  refine k_rw (y := p1) ep1 ?_
  refine k_aload_n X dL_law_804 rfl rfl ?_
  refine k_iload X dL_law_805 rfl ?_
  refine k_iconst (v := nI 2) X dL_law_807 (by decide) ?_
  refine k_iaddN X dL_law_808 ?_
  refine rd _ _ _ _ _ _ _ _ (show 5 * i + 2 < n by omega) dL_law_809 ?_
  refine k_rw (y := p2) ep2 ?_
  refine k_aload_n X dL_law_810 rfl rfl ?_
  refine k_callSH (rest := []) X ksh_holds kb_413 (h_holds X.tr hX hs.ok hF p1 p2) rfl rfl (Nat.le_of_ble_eq_true rfl) ⟨by rw [hR]; exact Nat.le_of_ble_eq_true rfl, by rw [hR]; exact Nat.le_of_ble_eq_true rfl⟩ ⟨by rw [hR]; exact (show cells + 1 ≤ 601024 by omega), by rw [hR]; exact (show slots + 6 ≤ 7293034 by omega)⟩ dL_law_811 (fun v C9 L9 h9 => ?_)
  rcases h9 with ⟨rv, C1, f9, hp, rfl, rfl, hf9⟩ | ⟨rfl, z, rfl, rfl⟩
  ·
    obtain ⟨⟨d, hd, rfl, o, ho, ⟨⟩⟩, rfl, rfl⟩ := hp
    have hX2 := hX.k54 (e := some (.inl (E.2.1 2, 1, .inr (.inl f9))))
    have hM2 := hM.k54 (e := some (.inl (E.2.1 2, 1, .inr (.inl f9))))
    have hF2 : kOt E (kup C (54, 0, 0) (some (.inl (E.2.1 2, 1, .inr (.inl f9))))) f9 := kup_s
    refine k_istore X dL_law_814 (by rw [hN]; decide) ?_
    refine k_lo (lo' := [(0, .ref b), (1, .ref (L (1, 0, 0))), (2, .ref (L (30, 0, 0))), (3, .ref (L (54, 0, 0))), (4, .int (nI (5 * i))), (5, .int (nI 0))]) ⟨rfl, rfl, rfl, rfl, rfl, rfl, trivial⟩ ?_
    refine k_aload_n X dL_law_816 rfl rfl ?_
    refine k_aload_n X dL_law_817 rfl rfl ?_
    refine k_iload X dL_law_818 rfl ?_
    refine k_iconst (v := nI 1) X dL_law_820 (by decide) ?_
    refine k_iaddN X dL_law_821 ?_
    refine rd _ _ _ _ _ _ _ _ (show 5 * i + 1 < n by omega) dL_law_822 ?_
    refine k_rw (y := (nI d)) ep1 ?_
    refine k_aload_n X dL_law_823 rfl rfl ?_
    refine k_iload X dL_law_824 rfl ?_
    refine k_iconst (v := nI 2) X dL_law_826 (by decide) ?_
    refine k_iaddN X dL_law_827 ?_
    refine rd _ _ _ _ _ _ _ _ (show 5 * i + 2 < n by omega) dL_law_828 ?_
    refine k_rw (y := p2) ep2 ?_
    refine k_callV (rest := []) X kv_X6_holds kb_433 (m_holds X.tr hM2 hs.q1 hz (fun d hd => hs.q10 hd) (nI d) p2) hM2.1 rfl rfl rfl rfl rfl (Nat.le_of_ble_eq_true rfl) ⟨by rw [hR]; exact Nat.le_of_ble_eq_true rfl, by rw [hR]; exact Nat.le_of_ble_eq_true rfl⟩ ⟨by rw [hR]; exact (show cells + 1 + 0 ≤ 601024 by omega), by rw [hR]; exact (show slots + 6 + 0 ≤ 7293034 by omega)⟩ dL_law_829 (fun v C8 L8 g9 => ?_)
    obtain ⟨hcs, rfl, hFm⟩ := g9
    rcases hcs with ⟨d2, b1, e2, bb, hb, rfl, hM3⟩ | ⟨y, rfl, hM3⟩
    ·
      refine k_istore X dL_law_832 (by rw [hN]; decide) ?_
      have ej := nI_d e2 hd b1
      subst ej
      refine k_lo (lo' := [(0, .ref b), (1, .ref (L (1, 0, 0))), (2, .ref (L (30, 0, 0))), (3, .ref (L (54, 0, 0))), (4, .int (nI (5 * i))), (5, .int (nI 0)), (6, .int (nI bb))]) ⟨rfl, rfl, rfl, rfl, rfl, rfl, rfl, trivial⟩ ?_
      exact lw_tailHolds K2 hM3 (hF2.fm hFm) (by have e := (hs.hsv hd ho hb); rw [← e]; exact hf9) (by omega) (by omega) (k _ _ S N M Q _ _ ⟨hX2.fm hFm, ⟨_, hM3⟩, ⟨_, hF2.fm hFm⟩, hs, hz⟩ (by omega) (by omega) (by omega))
    ·
      exact absurd (kix.of hd (by decide)) y
  ·
    have hX2 := hX
    have hM2 := hM
    have hF2 := hF
    refine k_istore X dL_law_814 (by rw [hN]; decide) ?_
    refine k_lo (lo' := [(0, .ref b), (1, .ref (L (1, 0, 0))), (2, .ref (L (30, 0, 0))), (3, .ref (L (54, 0, 0))), (4, .int (nI (5 * i))), (5, .int (nI 1))]) ⟨rfl, rfl, rfl, rfl, rfl, rfl, trivial⟩ ?_
    refine k_aload_n X dL_law_816 rfl rfl ?_
    refine k_aload_n X dL_law_817 rfl rfl ?_
    refine k_iload X dL_law_818 rfl ?_
    refine k_iconst (v := nI 1) X dL_law_820 (by decide) ?_
    refine k_iaddN X dL_law_821 ?_
    refine rd _ _ _ _ _ _ _ _ (show 5 * i + 1 < n by omega) dL_law_822 ?_
    refine k_rw (y := p1) ep1 ?_
    refine k_aload_n X dL_law_823 rfl rfl ?_
    refine k_iload X dL_law_824 rfl ?_
    refine k_iconst (v := nI 2) X dL_law_826 (by decide) ?_
    refine k_iaddN X dL_law_827 ?_
    refine rd _ _ _ _ _ _ _ _ (show 5 * i + 2 < n by omega) dL_law_828 ?_
    refine k_rw (y := p2) ep2 ?_
    refine k_callV (rest := []) X kv_X6_holds kb_433 (m_holds X.tr hM2 hs.q1 hz (fun d hd => hs.q10 hd) p1 p2) hM2.1 rfl rfl rfl rfl rfl (Nat.le_of_ble_eq_true rfl) ⟨by rw [hR]; exact Nat.le_of_ble_eq_true rfl, by rw [hR]; exact Nat.le_of_ble_eq_true rfl⟩ ⟨by rw [hR]; exact (show cells + 1 + 0 ≤ 601024 by omega), by rw [hR]; exact (show slots + 6 + 0 ≤ 7293034 by omega)⟩ dL_law_829 (fun v C8 L8 g9 => ?_)
    obtain ⟨hcs, rfl, hFm⟩ := g9
    rcases hcs with ⟨d2, b1, e2, bb, hb, rfl, hM3⟩ | ⟨y, rfl, hM3⟩
    ·
      exact absurd (by rw [e2]; exact kix.of b1 (by decide)) z
    ·
      refine k_istore X dL_law_832 (by rw [hN]; decide) ?_
      refine k_lo (lo' := [(0, .ref b), (1, .ref (L (1, 0, 0))), (2, .ref (L (30, 0, 0))), (3, .ref (L (54, 0, 0))), (4, .int (nI (5 * i))), (5, .int (nI 1)), (6, .int (nI 0))]) ⟨rfl, rfl, rfl, rfl, rfl, rfl, rfl, trivial⟩ ?_
      exact lw_tailEx K2 (j := 1) (w := 22) (by decide) hM3 (by omega) (by omega) dL_law_834 dL_law_835 dL_law_838 dL_law_840 dL_law_845 dL_law_847 dL_law_869 (by decide) (k _ _ S N M Q _ _ ⟨hX2.fm hFm, ⟨_, hM3⟩, ⟨_, hF2.fm hFm⟩, hs, hz⟩ (by omega) (by omega) (by omega))

set_option maxHeartbeats 4000000 in
set_option maxRecDepth 100000 in
theorem lw_heldValue {Γ : kG} {E : kE} {A : Nat → Prop} {b n : Nat} {xs : Nat → Int32} (K : kLc Γ E A b n xs) {C : kC} {L : kL} {S : kI4} {N : kN3} {M : kM2} {Q : kQ2} (W : kLw E C L S N M Q) {i cells slots : Nat} (hi : 5 * i + 5 ≤ n) (hi5 : i < 512) (hq : Q 14 0 ≤ i) (hc : cells + 1000 ≤ 601024) (hs9 : slots + 100000 ≤ 7293034) (k : ∀ (C' : kC) (L' : kL) (S' : kI4) (N' : kN3) (M' : kM2) (Q' : kQ2) (cells' slots' : Nat), kLw E C' L' S' N' M' Q' → Q' 14 0 ≤ i + 1 → cells' + 6 * kSn N ≤ cells + 130 + 6 * kSn N' → slots' + 900 * kSn N ≤ slots + 4000 + 900 * kSn N' → kW Γ E A C' L' cells' slots' 1509 (kLo b L' i) []) : kW Γ E A C L cells slots 872 (kLo b L i) [] := by
  have K2 := K
  obtain ⟨X, hN, hR, rd, ln, rt⟩ := K
  obtain ⟨hX, ⟨R, hM⟩, ⟨f8, hF⟩, hs, hz⟩ := W
  have h1 : Q 1 0 = N 1 0 0 := hs.1.1
  have hn40 : N 1 0 0 ≤ 40 := hs.1.2.1
  have kj : ∀ x, kix x (Q 1 0) ↔ kix x (N 1 0 0) := fun x => by rw [h1]
  obtain ⟨p1, ep1⟩ : ∃ p, xs (5 * i + 1) = p := ⟨_, rfl⟩
  obtain ⟨p2, ep2⟩ : ∃ p, xs (5 * i + 2) = p := ⟨_, rfl⟩
  obtain ⟨p3, ep3⟩ : ∃ p, xs (5 * i + 3) = p := ⟨_, rfl⟩
  refine k_aload_n X dL_law_872 rfl rfl ?_
  refine k_aload_n X dL_law_873 rfl rfl ?_
  refine k_iload X dL_law_874 rfl ?_
  refine k_iconst (v := nI 1) X dL_law_876 (by decide) ?_
  refine k_iaddN X dL_law_877 ?_
  refine rd _ _ _ _ _ _ _ _ (show 5 * i + 1 < n by omega) dL_law_878 ?_
  refine k_rw (y := p1) ep1 ?_
  refine k_aload_n X dL_law_879 rfl rfl ?_
  refine k_iload X dL_law_880 rfl ?_
  refine k_iconst (v := nI 2) X dL_law_882 (by decide) ?_
  refine k_iaddN X dL_law_883 ?_
  refine rd _ _ _ _ _ _ _ _ (show 5 * i + 2 < n by omega) dL_law_884 ?_
  refine k_rw (y := p2) ep2 ?_
  refine k_aload_n X dL_law_885 rfl rfl ?_
  refine k_iload X dL_law_886 rfl ?_
  refine k_iconst (v := nI 3) X dL_law_888 (by decide) ?_
  refine k_iaddN X dL_law_889 ?_
  refine rd _ _ _ _ _ _ _ _ (show 5 * i + 3 < n by omega) dL_law_890 ?_
  refine k_rw (y := p3) ep3 ?_
  refine k_aload_n X dL_law_891 rfl rfl ?_
  refine k_callSH (rest := []) X ksh_heldValue kb_449 (h_heldValue X.tr hX hs.ok hF p1 p2 p3) rfl rfl (Nat.le_of_ble_eq_true rfl) ⟨by rw [hR]; exact Nat.le_of_ble_eq_true rfl, by rw [hR]; exact Nat.le_of_ble_eq_true rfl⟩ ⟨by rw [hR]; exact (show cells + 3 ≤ 601024 by omega), by rw [hR]; exact (show slots + 18 ≤ 7293034 by omega)⟩ dL_law_892 (fun v C9 L9 h9 => ?_)
  rcases h9 with ⟨rv, C1, f9, hp, rfl, rfl, hf9⟩ | ⟨rfl, z, rfl, rfl⟩ | ⟨rfl, z, rfl, rfl⟩ | ⟨rfl, z, rfl, rfl⟩
  ·
    obtain ⟨⟨d, hd, rfl, a2, ff, fS, kk, a3, a4, ⟨⟩⟩, rfl, rfl⟩ := hp
    have hX2 := hX.k54 (e := some (.inl (E.2.1 2, 1, .inr (.inl f9))))
    have hM2 := hM.k54 (e := some (.inl (E.2.1 2, 1, .inr (.inl f9))))
    have hF2 : kOt E (kup C (54, 0, 0) (some (.inl (E.2.1 2, 1, .inr (.inl f9))))) f9 := kup_s
    refine k_istore X dL_law_895 (by rw [hN]; decide) ?_
    refine k_lo (lo' := [(0, .ref b), (1, .ref (L (1, 0, 0))), (2, .ref (L (30, 0, 0))), (3, .ref (L (54, 0, 0))), (4, .int (nI (5 * i))), (5, .int (nI 0))]) ⟨rfl, rfl, rfl, rfl, rfl, rfl, trivial⟩ ?_
    refine k_aload_n X dL_law_897 rfl rfl ?_
    refine k_aload_n X dL_law_898 rfl rfl ?_
    refine k_iload X dL_law_899 rfl ?_
    refine k_iconst (v := nI 1) X dL_law_901 (by decide) ?_
    refine k_iaddN X dL_law_902 ?_
    refine rd _ _ _ _ _ _ _ _ (show 5 * i + 1 < n by omega) dL_law_903 ?_
    refine k_rw (y := (nI d)) ep1 ?_
    refine k_aload_n X dL_law_904 rfl rfl ?_
    refine k_iload X dL_law_905 rfl ?_
    refine k_iconst (v := nI 2) X dL_law_907 (by decide) ?_
    refine k_iaddN X dL_law_908 ?_
    refine rd _ _ _ _ _ _ _ _ (show 5 * i + 2 < n by omega) dL_law_909 ?_
    refine k_rw (y := p2) ep2 ?_
    refine k_aload_n X dL_law_910 rfl rfl ?_
    refine k_iload X dL_law_911 rfl ?_
    refine k_iconst (v := nI 3) X dL_law_913 (by decide) ?_
    refine k_iaddN X dL_law_914 ?_
    refine rd _ _ _ _ _ _ _ _ (show 5 * i + 3 < n by omega) dL_law_915 ?_
    refine k_rw (y := p3) ep3 ?_
    refine k_callV (rest := []) X kv_X6_heldValue kb_459 (m_heldValue X.tr hM2 hs.q1 hz (fun d hd => hs.q10 hd) (nI d) p2 p3) hM2.1 rfl rfl rfl rfl rfl (Nat.le_of_ble_eq_true rfl) ⟨by rw [hR]; exact Nat.le_of_ble_eq_true rfl, by rw [hR]; exact Nat.le_of_ble_eq_true rfl⟩ ⟨by rw [hR]; exact (show cells + 3 + 0 ≤ 601024 by omega), by rw [hR]; exact (show slots + 18 + 0 ≤ 7293034 by omega)⟩ dL_law_916 (fun v C8 L8 g9 => ?_)
    obtain ⟨hcs, rfl, hFm⟩ := g9
    rcases hcs with ⟨d2, f0, b1, e2, hf0, rfl, hAB, hM3⟩ | ⟨y, rfl, hM3⟩ | ⟨b1, y, rfl, hM3⟩ | ⟨d2, b1, e2, b2, hh, rfl, hM3⟩
    ·
      have ej := nI_d e2 hd b1
      subst ej
      rcases hAB with ⟨n9, u1, u2, u3, rfl⟩ | ⟨k9, u1, u0, u2, rfl⟩
      ·
        refine k_istore X dL_law_919 (by rw [hN]; decide) ?_
        obtain ⟨⟨rfl, rfl, rfl⟩, u5, _⟩ := hs.hA hd a3 a4 u2 u1
        refine k_lo (lo' := [(0, .ref b), (1, .ref (L (1, 0, 0))), (2, .ref (L (30, 0, 0))), (3, .ref (L (54, 0, 0))), (4, .int (nI (5 * i))), (5, .int (nI 0)), (6, .int _)]) ⟨rfl, rfl, rfl, rfl, rfl, rfl, rfl, trivial⟩ ?_
        exact lw_tailOk K2 hM3 (hF2.fm hFm) (hf9.trans (congrArg Int32.toInt64 (by rw [kval hf0, hs.v8 hd (by omega) hf0 u5]))) (by omega) (by omega) dL_law_921 dL_law_922 dL_law_925 dL_law_927 dL_law_932 dL_law_934 dL_law_937 dL_law_938 dL_law_939 dL_law_940 dL_law_942 dL_law_943 dL_law_944 dL_law_949 (by decide) (k _ _ S N M Q _ _ ⟨hX2.fm hFm, ⟨_, hM3⟩, ⟨_, hF2.fm hFm⟩, hs, hz⟩ (by omega) (by omega) (by omega))
      ·
        refine k_istore X dL_law_919 (by rw [hN]; decide) ?_
        obtain ⟨⟨rfl, rfl, rfl⟩, _⟩ := hs.hB hd a3 a4 u2 u1
        refine k_lo (lo' := [(0, .ref b), (1, .ref (L (1, 0, 0))), (2, .ref (L (30, 0, 0))), (3, .ref (L (54, 0, 0))), (4, .int (nI (5 * i))), (5, .int (nI 0)), (6, .int _)]) ⟨rfl, rfl, rfl, rfl, rfl, rfl, rfl, trivial⟩ ?_
        exact lw_tailOk K2 hM3 (hF2.fm hFm) (hf9.trans (congrArg Int32.toInt64 (by rw [kval hf0, hs.v10 hd u1 hf0]))) (by omega) (by omega) dL_law_921 dL_law_922 dL_law_925 dL_law_927 dL_law_932 dL_law_934 dL_law_937 dL_law_938 dL_law_939 dL_law_940 dL_law_942 dL_law_943 dL_law_944 dL_law_949 (by decide) (k _ _ S N M Q _ _ ⟨hX2.fm hFm, ⟨_, hM3⟩, ⟨_, hF2.fm hFm⟩, hs, hz⟩ (by omega) (by omega) (by omega))
    ·
      exact absurd (kix.of hd (by decide)) y
    ·
      exact absurd a2 y
    ·
      have ej := nI_d e2 hd b1
      subst ej
      rcases hs.hs hd a3 hh with ⟨w, _⟩ | ⟨_, w⟩
      · cases w
      · exact absurd w (by decide)
  ·
    have hX2 := hX
    have hM2 := hM
    have hF2 := hF
    refine k_istore X dL_law_895 (by rw [hN]; decide) ?_
    refine k_lo (lo' := [(0, .ref b), (1, .ref (L (1, 0, 0))), (2, .ref (L (30, 0, 0))), (3, .ref (L (54, 0, 0))), (4, .int (nI (5 * i))), (5, .int (nI 1))]) ⟨rfl, rfl, rfl, rfl, rfl, rfl, trivial⟩ ?_
    refine k_aload_n X dL_law_897 rfl rfl ?_
    refine k_aload_n X dL_law_898 rfl rfl ?_
    refine k_iload X dL_law_899 rfl ?_
    refine k_iconst (v := nI 1) X dL_law_901 (by decide) ?_
    refine k_iaddN X dL_law_902 ?_
    refine rd _ _ _ _ _ _ _ _ (show 5 * i + 1 < n by omega) dL_law_903 ?_
    refine k_rw (y := p1) ep1 ?_
    refine k_aload_n X dL_law_904 rfl rfl ?_
    refine k_iload X dL_law_905 rfl ?_
    refine k_iconst (v := nI 2) X dL_law_907 (by decide) ?_
    refine k_iaddN X dL_law_908 ?_
    refine rd _ _ _ _ _ _ _ _ (show 5 * i + 2 < n by omega) dL_law_909 ?_
    refine k_rw (y := p2) ep2 ?_
    refine k_aload_n X dL_law_910 rfl rfl ?_
    refine k_iload X dL_law_911 rfl ?_
    refine k_iconst (v := nI 3) X dL_law_913 (by decide) ?_
    refine k_iaddN X dL_law_914 ?_
    refine rd _ _ _ _ _ _ _ _ (show 5 * i + 3 < n by omega) dL_law_915 ?_
    refine k_rw (y := p3) ep3 ?_
    refine k_callV (rest := []) X kv_X6_heldValue kb_459 (m_heldValue X.tr hM2 hs.q1 hz (fun d hd => hs.q10 hd) p1 p2 p3) hM2.1 rfl rfl rfl rfl rfl (Nat.le_of_ble_eq_true rfl) ⟨by rw [hR]; exact Nat.le_of_ble_eq_true rfl, by rw [hR]; exact Nat.le_of_ble_eq_true rfl⟩ ⟨by rw [hR]; exact (show cells + 3 + 0 ≤ 601024 by omega), by rw [hR]; exact (show slots + 18 + 0 ≤ 7293034 by omega)⟩ dL_law_916 (fun v C8 L8 g9 => ?_)
    obtain ⟨hcs, rfl, hFm⟩ := g9
    rcases hcs with ⟨d2, f0, b1, e2, hf0, rfl, hAB, hM3⟩ | ⟨y, rfl, hM3⟩ | ⟨b1, y, rfl, hM3⟩ | ⟨d2, b1, e2, b2, hh, rfl, hM3⟩
    ·
      exact absurd (by rw [e2]; exact kix.of b1 (by decide)) z
    ·
      refine k_istore X dL_law_919 (by rw [hN]; decide) ?_
      refine k_lo (lo' := [(0, .ref b), (1, .ref (L (1, 0, 0))), (2, .ref (L (30, 0, 0))), (3, .ref (L (54, 0, 0))), (4, .int (nI (5 * i))), (5, .int (nI 1)), (6, .int (nI 0))]) ⟨rfl, rfl, rfl, rfl, rfl, rfl, rfl, trivial⟩ ?_
      exact lw_tailEx K2 (j := 1) (w := 15) (by decide) hM3 (by omega) (by omega) dL_law_921 dL_law_922 dL_law_925 dL_law_927 dL_law_932 dL_law_934 dL_law_949 (by decide) (k _ _ S N M Q _ _ ⟨hX2.fm hFm, ⟨_, hM3⟩, ⟨_, hF2.fm hFm⟩, hs, hz⟩ (by omega) (by omega) (by omega))
    ·
      exact absurd b1 z
    ·
      exact absurd (by rw [e2]; exact kix.of b1 (by decide)) z
  ·
    have hX2 := hX
    have hM2 := hM
    have hF2 := hF
    refine k_istore X dL_law_895 (by rw [hN]; decide) ?_
    refine k_lo (lo' := [(0, .ref b), (1, .ref (L (1, 0, 0))), (2, .ref (L (30, 0, 0))), (3, .ref (L (54, 0, 0))), (4, .int (nI (5 * i))), (5, .int (nI 2))]) ⟨rfl, rfl, rfl, rfl, rfl, rfl, trivial⟩ ?_
    refine k_aload_n X dL_law_897 rfl rfl ?_
    refine k_aload_n X dL_law_898 rfl rfl ?_
    refine k_iload X dL_law_899 rfl ?_
    refine k_iconst (v := nI 1) X dL_law_901 (by decide) ?_
    refine k_iaddN X dL_law_902 ?_
    refine rd _ _ _ _ _ _ _ _ (show 5 * i + 1 < n by omega) dL_law_903 ?_
    refine k_rw (y := p1) ep1 ?_
    refine k_aload_n X dL_law_904 rfl rfl ?_
    refine k_iload X dL_law_905 rfl ?_
    refine k_iconst (v := nI 2) X dL_law_907 (by decide) ?_
    refine k_iaddN X dL_law_908 ?_
    refine rd _ _ _ _ _ _ _ _ (show 5 * i + 2 < n by omega) dL_law_909 ?_
    refine k_rw (y := p2) ep2 ?_
    refine k_aload_n X dL_law_910 rfl rfl ?_
    refine k_iload X dL_law_911 rfl ?_
    refine k_iconst (v := nI 3) X dL_law_913 (by decide) ?_
    refine k_iaddN X dL_law_914 ?_
    refine rd _ _ _ _ _ _ _ _ (show 5 * i + 3 < n by omega) dL_law_915 ?_
    refine k_rw (y := p3) ep3 ?_
    refine k_callV (rest := []) X kv_X6_heldValue kb_459 (m_heldValue X.tr hM2 hs.q1 hz (fun d hd => hs.q10 hd) p1 p2 p3) hM2.1 rfl rfl rfl rfl rfl (Nat.le_of_ble_eq_true rfl) ⟨by rw [hR]; exact Nat.le_of_ble_eq_true rfl, by rw [hR]; exact Nat.le_of_ble_eq_true rfl⟩ ⟨by rw [hR]; exact (show cells + 3 + 0 ≤ 601024 by omega), by rw [hR]; exact (show slots + 18 + 0 ≤ 7293034 by omega)⟩ dL_law_916 (fun v C8 L8 g9 => ?_)
    obtain ⟨hcs, rfl, hFm⟩ := g9
    rcases hcs with ⟨d2, f0, b1, e2, hf0, rfl, hAB, hM3⟩ | ⟨y, rfl, hM3⟩ | ⟨b1, y, rfl, hM3⟩ | ⟨d2, b1, e2, b2, hh, rfl, hM3⟩
    ·
      exact absurd (kin01 hf0) z.2
    ·
      exact absurd z.1 y
    ·
      refine k_istore X dL_law_919 (by rw [hN]; decide) ?_
      refine k_lo (lo' := [(0, .ref b), (1, .ref (L (1, 0, 0))), (2, .ref (L (30, 0, 0))), (3, .ref (L (54, 0, 0))), (4, .int (nI (5 * i))), (5, .int (nI 2)), (6, .int (nI 0))]) ⟨rfl, rfl, rfl, rfl, rfl, rfl, rfl, trivial⟩ ?_
      exact lw_tailEx K2 (j := 2) (w := 15) (by decide) hM3 (by omega) (by omega) dL_law_921 dL_law_922 dL_law_925 dL_law_927 dL_law_932 dL_law_934 dL_law_949 (by decide) (k _ _ S N M Q _ _ ⟨hX2.fm hFm, ⟨_, hM3⟩, ⟨_, hF2.fm hFm⟩, hs, hz⟩ (by omega) (by omega) (by omega))
    ·
      exact absurd b2 z.2
  ·
    have hX2 := hX
    have hM2 := hM
    have hF2 := hF
    refine k_istore X dL_law_895 (by rw [hN]; decide) ?_
    refine k_lo (lo' := [(0, .ref b), (1, .ref (L (1, 0, 0))), (2, .ref (L (30, 0, 0))), (3, .ref (L (54, 0, 0))), (4, .int (nI (5 * i))), (5, .int (nI 3))]) ⟨rfl, rfl, rfl, rfl, rfl, rfl, trivial⟩ ?_
    refine k_aload_n X dL_law_897 rfl rfl ?_
    refine k_aload_n X dL_law_898 rfl rfl ?_
    refine k_iload X dL_law_899 rfl ?_
    refine k_iconst (v := nI 1) X dL_law_901 (by decide) ?_
    refine k_iaddN X dL_law_902 ?_
    refine rd _ _ _ _ _ _ _ _ (show 5 * i + 1 < n by omega) dL_law_903 ?_
    refine k_rw (y := p1) ep1 ?_
    refine k_aload_n X dL_law_904 rfl rfl ?_
    refine k_iload X dL_law_905 rfl ?_
    refine k_iconst (v := nI 2) X dL_law_907 (by decide) ?_
    refine k_iaddN X dL_law_908 ?_
    refine rd _ _ _ _ _ _ _ _ (show 5 * i + 2 < n by omega) dL_law_909 ?_
    refine k_rw (y := p2) ep2 ?_
    refine k_aload_n X dL_law_910 rfl rfl ?_
    refine k_iload X dL_law_911 rfl ?_
    refine k_iconst (v := nI 3) X dL_law_913 (by decide) ?_
    refine k_iaddN X dL_law_914 ?_
    refine rd _ _ _ _ _ _ _ _ (show 5 * i + 3 < n by omega) dL_law_915 ?_
    refine k_rw (y := p3) ep3 ?_
    refine k_callV (rest := []) X kv_X6_heldValue kb_459 (m_heldValue X.tr hM2 hs.q1 hz (fun d hd => hs.q10 hd) p1 p2 p3) hM2.1 rfl rfl rfl rfl rfl (Nat.le_of_ble_eq_true rfl) ⟨by rw [hR]; exact Nat.le_of_ble_eq_true rfl, by rw [hR]; exact Nat.le_of_ble_eq_true rfl⟩ ⟨by rw [hR]; exact (show cells + 3 + 0 ≤ 601024 by omega), by rw [hR]; exact (show slots + 18 + 0 ≤ 7293034 by omega)⟩ dL_law_916 (fun v C8 L8 g9 => ?_)
    obtain ⟨hcs, rfl, hFm⟩ := g9
    rcases hcs with ⟨d2, f0, b1, e2, hf0, rfl, hAB, hM3⟩ | ⟨y, rfl, hM3⟩ | ⟨b1, y, rfl, hM3⟩ | ⟨d2, b1, e2, b2, hh, rfl, hM3⟩
    ·
      obtain ⟨d, hd, e, _, hf⟩ := z
      have ej := nI_d (e.symm.trans e2) hd b1
      subst ej
      rcases hAB with ⟨n9, u1, u2, u3, _⟩ | ⟨k9, u1, _, u2, _⟩
      · exact absurd u3 ((hs.hN hd hf).1 n9 u1 u2)
      · exact absurd u2 ((hs.hN hd hf).2 k9 u1)
    ·
      exact absurd (by obtain ⟨d, hd, e, _⟩ := z; rw [e]; exact kix.of hd (by decide)) y
    ·
      exact absurd (by obtain ⟨d, hd, e, w, _⟩ := z; exact w) y
    ·
      refine k_istore X dL_law_919 (by rw [hN]; decide) ?_
      refine k_lo (lo' := [(0, .ref b), (1, .ref (L (1, 0, 0))), (2, .ref (L (30, 0, 0))), (3, .ref (L (54, 0, 0))), (4, .int (nI (5 * i))), (5, .int (nI 3)), (6, .int (nI 0))]) ⟨rfl, rfl, rfl, rfl, rfl, rfl, rfl, trivial⟩ ?_
      exact lw_tailEx K2 (j := 3) (w := 15) (by decide) hM3 (by omega) (by omega) dL_law_921 dL_law_922 dL_law_925 dL_law_927 dL_law_932 dL_law_934 dL_law_949 (by decide) (k _ _ S N M Q _ _ ⟨hX2.fm hFm, ⟨_, hM3⟩, ⟨_, hF2.fm hFm⟩, hs, hz⟩ (by omega) (by omega) (by omega))

set_option maxHeartbeats 4000000 in
set_option maxRecDepth 100000 in
theorem lw_change {Γ : kG} {E : kE} {A : Nat → Prop} {b n : Nat} {xs : Nat → Int32} (K : kLc Γ E A b n xs) {C : kC} {L : kL} {S : kI4} {N : kN3} {M : kM2} {Q : kQ2} (W : kLw E C L S N M Q) {i cells slots : Nat} (hi : 5 * i + 5 ≤ n) (hi5 : i < 512) (hq : Q 14 0 ≤ i) (hc : cells + 1000 ≤ 601024) (hs9 : slots + 100000 ≤ 7293034) (k : ∀ (C' : kC) (L' : kL) (S' : kI4) (N' : kN3) (M' : kM2) (Q' : kQ2) (cells' slots' : Nat), kLw E C' L' S' N' M' Q' → Q' 14 0 ≤ i + 1 → cells' + 6 * kSn N ≤ cells + 130 + 6 * kSn N' → slots' + 900 * kSn N ≤ slots + 4000 + 900 * kSn N' → kW Γ E A C' L' cells' slots' 1509 (kLo b L' i) []) : kW Γ E A C L cells slots 952 (kLo b L i) [] := by
  have K2 := K
  obtain ⟨X, hN, hR, rd, ln, rt⟩ := K
  obtain ⟨hX, ⟨R, hM⟩, ⟨f8, hF⟩, hs, hz⟩ := W
  have h1 : Q 1 0 = N 1 0 0 := hs.1.1
  have hn40 : N 1 0 0 ≤ 40 := hs.1.2.1
  have kj : ∀ x, kix x (Q 1 0) ↔ kix x (N 1 0 0) := fun x => by rw [h1]
  obtain ⟨p1, ep1⟩ : ∃ p, xs (5 * i + 1) = p := ⟨_, rfl⟩
  obtain ⟨p2, ep2⟩ : ∃ p, xs (5 * i + 2) = p := ⟨_, rfl⟩
  obtain ⟨p3, ep3⟩ : ∃ p, xs (5 * i + 3) = p := ⟨_, rfl⟩
  obtain ⟨p4, ep4⟩ : ∃ p, xs (5 * i + 4) = p := ⟨_, rfl⟩
  refine k_aload_n X dL_law_952 rfl rfl ?_
  refine k_aload_n X dL_law_953 rfl rfl ?_
  refine k_iload X dL_law_954 rfl ?_
  refine k_iconst (v := nI 1) X dL_law_956 (by decide) ?_
  refine k_iaddN X dL_law_957 ?_
  refine rd _ _ _ _ _ _ _ _ (show 5 * i + 1 < n by omega) dL_law_958 ?_
  refine k_rw (y := p1) ep1 ?_
  refine k_aload_n X dL_law_959 rfl rfl ?_
  refine k_iload X dL_law_960 rfl ?_
  refine k_iconst (v := nI 2) X dL_law_962 (by decide) ?_
  refine k_iaddN X dL_law_963 ?_
  refine rd _ _ _ _ _ _ _ _ (show 5 * i + 2 < n by omega) dL_law_964 ?_
  refine k_rw (y := p2) ep2 ?_
  refine k_aload_n X dL_law_965 rfl rfl ?_
  refine k_iload X dL_law_966 rfl ?_
  refine k_iconst (v := nI 3) X dL_law_968 (by decide) ?_
  refine k_iaddN X dL_law_969 ?_
  refine rd _ _ _ _ _ _ _ _ (show 5 * i + 3 < n by omega) dL_law_970 ?_
  refine k_rw (y := p3) ep3 ?_
  refine k_aload_n X dL_law_971 rfl rfl ?_
  refine k_iload X dL_law_972 rfl ?_
  refine k_iconst (v := nI 4) X dL_law_974 (by decide) ?_
  refine k_iaddN X dL_law_975 ?_
  refine rd _ _ _ _ _ _ _ _ (show 5 * i + 4 < n by omega) dL_law_976 ?_
  refine k_rw (y := p4) ep4 ?_
  refine k_aload_n X dL_law_977 rfl rfl ?_
  refine k_callSH (rest := []) X ksh_change kb_467 (h_change X.tr hX hs.ok hF (fun d hd => Nat.lt_of_le_of_lt (hs.n3 d hd) (by omega)) p1 p2 p3 p4) rfl rfl (Nat.le_of_ble_eq_true rfl) ⟨by rw [hR]; exact Nat.le_of_ble_eq_true rfl, by rw [hR]; exact Nat.le_of_ble_eq_true rfl⟩ ⟨by rw [hR]; exact (show cells + 6 ≤ 601024 by omega), by rw [hR]; exact (show slots + 830 ≤ 7293034 by omega)⟩ dL_law_978 (fun v C9 L9 h9 => ?_)
  rcases h9 with ⟨rv, C1, f9, hp, rfl, rfl, hf9⟩ | ⟨rfl, z, rfl, rfl⟩ | ⟨rfl, z, rfl, rfl⟩ | ⟨rfl, z, rfl, rfl⟩
  ·
    obtain ⟨⟨d, hd, rfl, a2, ff, fS, kk, a3, a4, ⟨⟩, hX1⟩, hFr, hL1⟩ := hp
    have hX2 := hX1.k54 (e := some (.inl (E.2.1 2, 1, .inr (.inl f9))))
    have hM2 := (hFr.m hM).k54 (e := some (.inl (E.2.1 2, 1, .inr (.inl f9))))
    have hF2 : kOt E (kup C1 (54, 0, 0) (some (.inl (E.2.1 2, 1, .inr (.inl f9))))) f9 := kup_s
    refine k_istore X dL_law_981 (by rw [hN]; decide) ?_
    refine k_lo (lo' := [(0, .ref b), (1, .ref (L9 (1, 0, 0))), (2, .ref (L9 (30, 0, 0))), (3, .ref (L9 (54, 0, 0))), (4, .int (nI (5 * i))), (5, .int (nI 0))]) ⟨rfl, kLR (hL1 (1, 0, 0) (by decide)), kLR (hFr (30, 0, 0) (show 30 ≤ 30 by decide)).2, kLR (hFr (54, 0, 0) (show 30 ≤ 54 by decide)).2, rfl, rfl, trivial⟩ ?_
    refine k_aload_n X dL_law_983 rfl rfl ?_
    refine k_aload_n X dL_law_984 rfl rfl ?_
    refine k_iload X dL_law_985 rfl ?_
    refine k_iconst (v := nI 1) X dL_law_987 (by decide) ?_
    refine k_iaddN X dL_law_988 ?_
    refine rd _ _ _ _ _ _ _ _ (show 5 * i + 1 < n by omega) dL_law_989 ?_
    refine k_rw (y := (nI d)) ep1 ?_
    refine k_aload_n X dL_law_990 rfl rfl ?_
    refine k_iload X dL_law_991 rfl ?_
    refine k_iconst (v := nI 2) X dL_law_993 (by decide) ?_
    refine k_iaddN X dL_law_994 ?_
    refine rd _ _ _ _ _ _ _ _ (show 5 * i + 2 < n by omega) dL_law_995 ?_
    refine k_rw (y := p2) ep2 ?_
    refine k_aload_n X dL_law_996 rfl rfl ?_
    refine k_iload X dL_law_997 rfl ?_
    refine k_iconst (v := nI 3) X dL_law_999 (by decide) ?_
    refine k_iaddN X dL_law_1000 ?_
    refine rd _ _ _ _ _ _ _ _ (show 5 * i + 3 < n by omega) dL_law_1001 ?_
    refine k_rw (y := p3) ep3 ?_
    refine k_aload_n X dL_law_1002 rfl rfl ?_
    refine k_iload X dL_law_1003 rfl ?_
    refine k_iconst (v := nI 4) X dL_law_1005 (by decide) ?_
    refine k_iaddN X dL_law_1006 ?_
    refine rd _ _ _ _ _ _ _ _ (show 5 * i + 4 < n by omega) dL_law_1007 ?_
    refine k_rw (y := p4) ep4 ?_
    refine k_callV (rest := []) X kv_X6_change kb_501 (m_change X.tr hM2 hs.q1 hz (fun d hd => hs.q10 hd) (by omega) (nI d) p2 p3 p4) hM2.1 rfl rfl rfl rfl rfl (Nat.le_of_ble_eq_true rfl) ⟨by rw [hR]; exact Nat.le_of_ble_eq_true rfl, by rw [hR]; exact Nat.le_of_ble_eq_true rfl⟩ ⟨by rw [hR]; exact (show cells + 6 + 0 ≤ 601024 by omega), by rw [hR]; exact (show slots + 830 + 0 ≤ 7293034 by omega)⟩ dL_law_1008 (fun v C8 L8 g9 => ?_)
    obtain ⟨hcs, rfl, hFm⟩ := g9
    rcases hcs with ⟨d2, f0, b1, e2, hf0, rfl, b2, hAB⟩ | ⟨y, rfl, hM3⟩ | ⟨b1, y, rfl, hM3⟩ | ⟨d2, b1, e2, b2, hh, rfl, hM3⟩
    ·
      have ej := nI_d e2 hd b1
      subst ej
      rcases hAB with ⟨n9, u1, u2, u3, rfl, hM3⟩ | ⟨k9, u1, u0, u2, rfl, hM3⟩
      ·
        refine k_istore X dL_law_1011 (by rw [hN]; decide) ?_
        obtain ⟨⟨rfl, rfl, rfl⟩, u5, u6⟩ := hs.hA hd a3 a4 u2 u1
        have hs2 := hs.chg8 (n := kk) (f0 := f0) (x := p4) (job := p2) hd (by omega) (by omega) hf0 (kfx b2.2) (by rw [u5]; decide) u6
        have esn : kSn (w3 N 3 d 0 (N 3 d 0 + 1)) = kSn N := kSn.cg fun e => w3_n (by omega)
        refine k_lo (lo' := [(0, .ref b), (1, .ref (L9 (1, 0, 0))), (2, .ref (L9 (30, 0, 0))), (3, .ref (L9 (54, 0, 0))), (4, .int (nI (5 * i))), (5, .int (nI 0)), (6, .int _)]) ⟨rfl, rfl, rfl, rfl, rfl, rfl, rfl, trivial⟩ ?_
        exact lw_tailOk K2 hM3 (hF2.fm hFm) (hf9.trans (congrArg Int32.toInt64 (congrArg nI (Eq.symm ((hs2.wt hd).trans (by rw [w3_s, w3_n (by omega)])))))) (by omega) (by omega) dL_law_1013 dL_law_1014 dL_law_1017 dL_law_1019 dL_law_1024 dL_law_1026 dL_law_1029 dL_law_1030 dL_law_1031 dL_law_1032 dL_law_1034 dL_law_1035 dL_law_1036 dL_law_1041 (by decide) (k _ _ (sPut (sAct S d (N 3 d 0) p2 (nI f0) p4 (if nI f0 = nI 0 then S 8 d kk 2 else S 8 d kk 3) (-1)) 8 d kk (nI f0) p4) (w3 N 3 d 0 (N 3 d 0 + 1)) (w2 (w2 (mNt M (Q 14 0) (nI d) (nI kk) (nI f0) p4 (M 9 (2 * (40 * d + kk) + f0))) 8 (2 * (40 * d + kk) + f0) p4) 9 (2 * (40 * d + kk) + f0) (M 9 (2 * (40 * d + kk) + f0) + nI 1)) (w2 Q 14 0 (Q 14 0 + 1)) _ _ ⟨hX2.fm hFm, ⟨_, hM3⟩, ⟨_, hF2.fm hFm⟩, hs2, hz.of ((w2_f (a := 9) (b := 7) (by decide)).trans ((w2_f (a := 8) (b := 7) (by decide)).trans (mNt_f (f := 7) (by decide))))⟩ (by rw [w2_s]; omega) (by rw [esn]; omega) (by rw [esn]; omega))
      ·
        refine k_istore X dL_law_1011 (by rw [hN]; decide) ?_
        obtain ⟨⟨rfl, rfl, rfl⟩, u6⟩ := hs.hB hd a3 a4 u2 u1
        have hs2 := hs.chg10 (n := kk) (f0 := f0) (x := p4) (job := p2) hd (by omega) (by rw [← (hs.2.2.2.1 d hd).1]; exact u1) hf0 (kfx b2.2) u6
        have esn : kSn (w3 N 3 d 0 (N 3 d 0 + 1)) = kSn N := kSn.cg fun e => w3_n (by omega)
        refine k_lo (lo' := [(0, .ref b), (1, .ref (L9 (1, 0, 0))), (2, .ref (L9 (30, 0, 0))), (3, .ref (L9 (54, 0, 0))), (4, .int (nI (5 * i))), (5, .int (nI 0)), (6, .int _)]) ⟨rfl, rfl, rfl, rfl, rfl, rfl, rfl, trivial⟩ ?_
        exact lw_tailOk K2 hM3 (hF2.fm hFm) (hf9.trans (congrArg Int32.toInt64 (congrArg nI (Eq.symm ((hs2.wt hd).trans (by rw [w3_s, w3_n (by omega)])))))) (by omega) (by omega) dL_law_1013 dL_law_1014 dL_law_1017 dL_law_1019 dL_law_1024 dL_law_1026 dL_law_1029 dL_law_1030 dL_law_1031 dL_law_1032 dL_law_1034 dL_law_1035 dL_law_1036 dL_law_1041 (by decide) (k _ _ (sPut (sAct S d (N 3 d 0) p2 (nI f0) p4 (if nI f0 = nI 0 then S 10 d kk 2 else S 10 d kk 3) (-1)) 10 d kk (nI f0) p4) (w3 N 3 d 0 (N 3 d 0 + 1)) (w2 (w2 (mNt M (Q 14 0) (nI d) (nI (1000 + kk)) (nI f0) p4 (M 13 (2 * (600 * d + kk) + f0))) 12 (2 * (600 * d + kk) + f0) p4) 13 (2 * (600 * d + kk) + f0) (M 13 (2 * (600 * d + kk) + f0) + nI 1)) (w2 Q 14 0 (Q 14 0 + 1)) _ _ ⟨hX2.fm hFm, ⟨_, hM3⟩, ⟨_, hF2.fm hFm⟩, hs2, hz.of ((w2_f (a := 13) (b := 7) (by decide)).trans ((w2_f (a := 12) (b := 7) (by decide)).trans (mNt_f (f := 7) (by decide))))⟩ (by rw [w2_s]; omega) (by rw [esn]; omega) (by rw [esn]; omega))
    ·
      exact absurd (kix.of hd (by decide)) y
    ·
      exact absurd a2 y
    ·
      have ej := nI_d e2 hd b1
      subst ej
      rcases hs.hs hd a3 hh with ⟨w, _⟩ | ⟨_, w⟩
      · cases w
      · exact absurd w (by decide)
  ·
    have hX2 := hX
    have hM2 := hM
    have hF2 := hF
    refine k_istore X dL_law_981 (by rw [hN]; decide) ?_
    refine k_lo (lo' := [(0, .ref b), (1, .ref (L (1, 0, 0))), (2, .ref (L (30, 0, 0))), (3, .ref (L (54, 0, 0))), (4, .int (nI (5 * i))), (5, .int (nI 1))]) ⟨rfl, rfl, rfl, rfl, rfl, rfl, trivial⟩ ?_
    refine k_aload_n X dL_law_983 rfl rfl ?_
    refine k_aload_n X dL_law_984 rfl rfl ?_
    refine k_iload X dL_law_985 rfl ?_
    refine k_iconst (v := nI 1) X dL_law_987 (by decide) ?_
    refine k_iaddN X dL_law_988 ?_
    refine rd _ _ _ _ _ _ _ _ (show 5 * i + 1 < n by omega) dL_law_989 ?_
    refine k_rw (y := p1) ep1 ?_
    refine k_aload_n X dL_law_990 rfl rfl ?_
    refine k_iload X dL_law_991 rfl ?_
    refine k_iconst (v := nI 2) X dL_law_993 (by decide) ?_
    refine k_iaddN X dL_law_994 ?_
    refine rd _ _ _ _ _ _ _ _ (show 5 * i + 2 < n by omega) dL_law_995 ?_
    refine k_rw (y := p2) ep2 ?_
    refine k_aload_n X dL_law_996 rfl rfl ?_
    refine k_iload X dL_law_997 rfl ?_
    refine k_iconst (v := nI 3) X dL_law_999 (by decide) ?_
    refine k_iaddN X dL_law_1000 ?_
    refine rd _ _ _ _ _ _ _ _ (show 5 * i + 3 < n by omega) dL_law_1001 ?_
    refine k_rw (y := p3) ep3 ?_
    refine k_aload_n X dL_law_1002 rfl rfl ?_
    refine k_iload X dL_law_1003 rfl ?_
    refine k_iconst (v := nI 4) X dL_law_1005 (by decide) ?_
    refine k_iaddN X dL_law_1006 ?_
    refine rd _ _ _ _ _ _ _ _ (show 5 * i + 4 < n by omega) dL_law_1007 ?_
    refine k_rw (y := p4) ep4 ?_
    refine k_callV (rest := []) X kv_X6_change kb_501 (m_change X.tr hM2 hs.q1 hz (fun d hd => hs.q10 hd) (by omega) p1 p2 p3 p4) hM2.1 rfl rfl rfl rfl rfl (Nat.le_of_ble_eq_true rfl) ⟨by rw [hR]; exact Nat.le_of_ble_eq_true rfl, by rw [hR]; exact Nat.le_of_ble_eq_true rfl⟩ ⟨by rw [hR]; exact (show cells + 6 + 0 ≤ 601024 by omega), by rw [hR]; exact (show slots + 830 + 0 ≤ 7293034 by omega)⟩ dL_law_1008 (fun v C8 L8 g9 => ?_)
    obtain ⟨hcs, rfl, hFm⟩ := g9
    rcases hcs with ⟨d2, f0, b1, e2, hf0, rfl, b2, hAB⟩ | ⟨y, rfl, hM3⟩ | ⟨b1, y, rfl, hM3⟩ | ⟨d2, b1, e2, b2, hh, rfl, hM3⟩
    ·
      exact absurd (by rw [e2]; exact kix.of b1 (by decide)) z
    ·
      refine k_istore X dL_law_1011 (by rw [hN]; decide) ?_
      refine k_lo (lo' := [(0, .ref b), (1, .ref (L (1, 0, 0))), (2, .ref (L (30, 0, 0))), (3, .ref (L (54, 0, 0))), (4, .int (nI (5 * i))), (5, .int (nI 1)), (6, .int (nI 0))]) ⟨rfl, rfl, rfl, rfl, rfl, rfl, rfl, trivial⟩ ?_
      exact lw_tailEx K2 (j := 1) (w := 15) (by decide) hM3 (by omega) (by omega) dL_law_1013 dL_law_1014 dL_law_1017 dL_law_1019 dL_law_1024 dL_law_1026 dL_law_1041 (by decide) (k _ _ S N M Q _ _ ⟨hX2.fm hFm, ⟨_, hM3⟩, ⟨_, hF2.fm hFm⟩, hs, hz⟩ (by omega) (by omega) (by omega))
    ·
      exact absurd b1 z
    ·
      exact absurd (by rw [e2]; exact kix.of b1 (by decide)) z
  ·
    have hX2 := hX
    have hM2 := hM
    have hF2 := hF
    refine k_istore X dL_law_981 (by rw [hN]; decide) ?_
    refine k_lo (lo' := [(0, .ref b), (1, .ref (L (1, 0, 0))), (2, .ref (L (30, 0, 0))), (3, .ref (L (54, 0, 0))), (4, .int (nI (5 * i))), (5, .int (nI 2))]) ⟨rfl, rfl, rfl, rfl, rfl, rfl, trivial⟩ ?_
    refine k_aload_n X dL_law_983 rfl rfl ?_
    refine k_aload_n X dL_law_984 rfl rfl ?_
    refine k_iload X dL_law_985 rfl ?_
    refine k_iconst (v := nI 1) X dL_law_987 (by decide) ?_
    refine k_iaddN X dL_law_988 ?_
    refine rd _ _ _ _ _ _ _ _ (show 5 * i + 1 < n by omega) dL_law_989 ?_
    refine k_rw (y := p1) ep1 ?_
    refine k_aload_n X dL_law_990 rfl rfl ?_
    refine k_iload X dL_law_991 rfl ?_
    refine k_iconst (v := nI 2) X dL_law_993 (by decide) ?_
    refine k_iaddN X dL_law_994 ?_
    refine rd _ _ _ _ _ _ _ _ (show 5 * i + 2 < n by omega) dL_law_995 ?_
    refine k_rw (y := p2) ep2 ?_
    refine k_aload_n X dL_law_996 rfl rfl ?_
    refine k_iload X dL_law_997 rfl ?_
    refine k_iconst (v := nI 3) X dL_law_999 (by decide) ?_
    refine k_iaddN X dL_law_1000 ?_
    refine rd _ _ _ _ _ _ _ _ (show 5 * i + 3 < n by omega) dL_law_1001 ?_
    refine k_rw (y := p3) ep3 ?_
    refine k_aload_n X dL_law_1002 rfl rfl ?_
    refine k_iload X dL_law_1003 rfl ?_
    refine k_iconst (v := nI 4) X dL_law_1005 (by decide) ?_
    refine k_iaddN X dL_law_1006 ?_
    refine rd _ _ _ _ _ _ _ _ (show 5 * i + 4 < n by omega) dL_law_1007 ?_
    refine k_rw (y := p4) ep4 ?_
    refine k_callV (rest := []) X kv_X6_change kb_501 (m_change X.tr hM2 hs.q1 hz (fun d hd => hs.q10 hd) (by omega) p1 p2 p3 p4) hM2.1 rfl rfl rfl rfl rfl (Nat.le_of_ble_eq_true rfl) ⟨by rw [hR]; exact Nat.le_of_ble_eq_true rfl, by rw [hR]; exact Nat.le_of_ble_eq_true rfl⟩ ⟨by rw [hR]; exact (show cells + 6 + 0 ≤ 601024 by omega), by rw [hR]; exact (show slots + 830 + 0 ≤ 7293034 by omega)⟩ dL_law_1008 (fun v C8 L8 g9 => ?_)
    obtain ⟨hcs, rfl, hFm⟩ := g9
    rcases hcs with ⟨d2, f0, b1, e2, hf0, rfl, b2, hAB⟩ | ⟨y, rfl, hM3⟩ | ⟨b1, y, rfl, hM3⟩ | ⟨d2, b1, e2, b2, hh, rfl, hM3⟩
    ·
      exact absurd b2 z.2
    ·
      exact absurd z.1 y
    ·
      refine k_istore X dL_law_1011 (by rw [hN]; decide) ?_
      refine k_lo (lo' := [(0, .ref b), (1, .ref (L (1, 0, 0))), (2, .ref (L (30, 0, 0))), (3, .ref (L (54, 0, 0))), (4, .int (nI (5 * i))), (5, .int (nI 2)), (6, .int (nI 0))]) ⟨rfl, rfl, rfl, rfl, rfl, rfl, rfl, trivial⟩ ?_
      exact lw_tailEx K2 (j := 2) (w := 15) (by decide) hM3 (by omega) (by omega) dL_law_1013 dL_law_1014 dL_law_1017 dL_law_1019 dL_law_1024 dL_law_1026 dL_law_1041 (by decide) (k _ _ S N M Q _ _ ⟨hX2.fm hFm, ⟨_, hM3⟩, ⟨_, hF2.fm hFm⟩, hs, hz⟩ (by omega) (by omega) (by omega))
    ·
      exact absurd b2 z.2
  ·
    have hX2 := hX
    have hM2 := hM
    have hF2 := hF
    refine k_istore X dL_law_981 (by rw [hN]; decide) ?_
    refine k_lo (lo' := [(0, .ref b), (1, .ref (L (1, 0, 0))), (2, .ref (L (30, 0, 0))), (3, .ref (L (54, 0, 0))), (4, .int (nI (5 * i))), (5, .int (nI 3))]) ⟨rfl, rfl, rfl, rfl, rfl, rfl, trivial⟩ ?_
    refine k_aload_n X dL_law_983 rfl rfl ?_
    refine k_aload_n X dL_law_984 rfl rfl ?_
    refine k_iload X dL_law_985 rfl ?_
    refine k_iconst (v := nI 1) X dL_law_987 (by decide) ?_
    refine k_iaddN X dL_law_988 ?_
    refine rd _ _ _ _ _ _ _ _ (show 5 * i + 1 < n by omega) dL_law_989 ?_
    refine k_rw (y := p1) ep1 ?_
    refine k_aload_n X dL_law_990 rfl rfl ?_
    refine k_iload X dL_law_991 rfl ?_
    refine k_iconst (v := nI 2) X dL_law_993 (by decide) ?_
    refine k_iaddN X dL_law_994 ?_
    refine rd _ _ _ _ _ _ _ _ (show 5 * i + 2 < n by omega) dL_law_995 ?_
    refine k_rw (y := p2) ep2 ?_
    refine k_aload_n X dL_law_996 rfl rfl ?_
    refine k_iload X dL_law_997 rfl ?_
    refine k_iconst (v := nI 3) X dL_law_999 (by decide) ?_
    refine k_iaddN X dL_law_1000 ?_
    refine rd _ _ _ _ _ _ _ _ (show 5 * i + 3 < n by omega) dL_law_1001 ?_
    refine k_rw (y := p3) ep3 ?_
    refine k_aload_n X dL_law_1002 rfl rfl ?_
    refine k_iload X dL_law_1003 rfl ?_
    refine k_iconst (v := nI 4) X dL_law_1005 (by decide) ?_
    refine k_iaddN X dL_law_1006 ?_
    refine rd _ _ _ _ _ _ _ _ (show 5 * i + 4 < n by omega) dL_law_1007 ?_
    refine k_rw (y := p4) ep4 ?_
    refine k_callV (rest := []) X kv_X6_change kb_501 (m_change X.tr hM2 hs.q1 hz (fun d hd => hs.q10 hd) (by omega) p1 p2 p3 p4) hM2.1 rfl rfl rfl rfl rfl (Nat.le_of_ble_eq_true rfl) ⟨by rw [hR]; exact Nat.le_of_ble_eq_true rfl, by rw [hR]; exact Nat.le_of_ble_eq_true rfl⟩ ⟨by rw [hR]; exact (show cells + 6 + 0 ≤ 601024 by omega), by rw [hR]; exact (show slots + 830 + 0 ≤ 7293034 by omega)⟩ dL_law_1008 (fun v C8 L8 g9 => ?_)
    obtain ⟨hcs, rfl, hFm⟩ := g9
    rcases hcs with ⟨d2, f0, b1, e2, hf0, rfl, b2, hAB⟩ | ⟨y, rfl, hM3⟩ | ⟨b1, y, rfl, hM3⟩ | ⟨d2, b1, e2, b2, hh, rfl, hM3⟩
    ·
      obtain ⟨d, hd, e, _, hf⟩ := z
      have ej := nI_d (e.symm.trans e2) hd b1
      subst ej
      rcases hAB with ⟨n9, u1, u2, u3, _, _⟩ | ⟨k9, u1, _, u2, _, _⟩
      · exact absurd u3 ((hs.hN hd hf).1 n9 u1 u2)
      · exact absurd u2 ((hs.hN hd hf).2 k9 u1)
    ·
      exact absurd (by obtain ⟨d, hd, e, _⟩ := z; rw [e]; exact kix.of hd (by decide)) y
    ·
      exact absurd (by obtain ⟨d, hd, e, w, _⟩ := z; exact w) y
    ·
      refine k_istore X dL_law_1011 (by rw [hN]; decide) ?_
      refine k_lo (lo' := [(0, .ref b), (1, .ref (L (1, 0, 0))), (2, .ref (L (30, 0, 0))), (3, .ref (L (54, 0, 0))), (4, .int (nI (5 * i))), (5, .int (nI 3)), (6, .int (nI 0))]) ⟨rfl, rfl, rfl, rfl, rfl, rfl, rfl, trivial⟩ ?_
      exact lw_tailEx K2 (j := 3) (w := 15) (by decide) hM3 (by omega) (by omega) dL_law_1013 dL_law_1014 dL_law_1017 dL_law_1019 dL_law_1024 dL_law_1026 dL_law_1041 (by decide) (k _ _ S N M Q _ _ ⟨hX2.fm hFm, ⟨_, hM3⟩, ⟨_, hF2.fm hFm⟩, hs, hz⟩ (by omega) (by omega) (by omega))

set_option maxHeartbeats 4000000 in
set_option maxRecDepth 100000 in
theorem lw_make {Γ : kG} {E : kE} {A : Nat → Prop} {b n : Nat} {xs : Nat → Int32} (K : kLc Γ E A b n xs) {C : kC} {L : kL} {S : kI4} {N : kN3} {M : kM2} {Q : kQ2} (W : kLw E C L S N M Q) {i cells slots : Nat} (hi : 5 * i + 5 ≤ n) (hi5 : i < 512) (hq : Q 14 0 ≤ i) (hc : cells + 1000 ≤ 601024) (hs9 : slots + 100000 ≤ 7293034) (k : ∀ (C' : kC) (L' : kL) (S' : kI4) (N' : kN3) (M' : kM2) (Q' : kQ2) (cells' slots' : Nat), kLw E C' L' S' N' M' Q' → Q' 14 0 ≤ i + 1 → cells' + 6 * kSn N ≤ cells + 130 + 6 * kSn N' → slots' + 900 * kSn N ≤ slots + 4000 + 900 * kSn N' → kW Γ E A C' L' cells' slots' 1509 (kLo b L' i) []) : kW Γ E A C L cells slots 1044 (kLo b L i) [] := by
  have K2 := K
  obtain ⟨X, hN, hR, rd, ln, rt⟩ := K
  obtain ⟨hX, ⟨R, hM⟩, ⟨f8, hF⟩, hs, hz⟩ := W
  have h1 : Q 1 0 = N 1 0 0 := hs.1.1
  have hn40 : N 1 0 0 ≤ 40 := hs.1.2.1
  have kj : ∀ x, kix x (Q 1 0) ↔ kix x (N 1 0 0) := fun x => by rw [h1]
  obtain ⟨p1, ep1⟩ : ∃ p, xs (5 * i + 1) = p := ⟨_, rfl⟩
  obtain ⟨p2, ep2⟩ : ∃ p, xs (5 * i + 2) = p := ⟨_, rfl⟩
  refine k_aload_n X dL_law_1044 rfl rfl ?_
  refine k_aload_n X dL_law_1045 rfl rfl ?_
  refine k_iload X dL_law_1046 rfl ?_
  refine k_iconst (v := nI 1) X dL_law_1048 (by decide) ?_
  refine k_iaddN X dL_law_1049 ?_
  refine rd _ _ _ _ _ _ _ _ (show 5 * i + 1 < n by omega) dL_law_1050 ?_
  refine k_rw (y := p1) ep1 ?_
  refine k_aload_n X dL_law_1051 rfl rfl ?_
  refine k_iload X dL_law_1052 rfl ?_
  refine k_iconst (v := nI 2) X dL_law_1054 (by decide) ?_
  refine k_iaddN X dL_law_1055 ?_
  refine rd _ _ _ _ _ _ _ _ (show 5 * i + 2 < n by omega) dL_law_1056 ?_
  refine k_rw (y := p2) ep2 ?_
  refine k_aload_n X dL_law_1057 rfl rfl ?_
  refine k_callSH (rest := []) X ksh_make kb_514 (h_make X.tr hX hs.ok hF (fun d hd => ⟨Nat.lt_of_le_of_lt (hs.n2 d hd) (by omega), Nat.lt_of_le_of_lt (hs.n3 d hd) (by omega)⟩) p1 p2) rfl rfl (Nat.le_of_ble_eq_true rfl) ⟨by rw [hR]; exact Nat.le_of_ble_eq_true rfl, by rw [hR]; exact Nat.le_of_ble_eq_true rfl⟩ ⟨by rw [hR]; exact (show cells + 7 ≤ 601024 by omega), by rw [hR]; exact (show slots + 1620 ≤ 7293034 by omega)⟩ dL_law_1058 (fun v C9 L9 h9 => ?_)
  rcases h9 with ⟨rv, C1, f9, hp, rfl, rfl, hf9⟩ | ⟨rfl, z, rfl, rfl⟩ | ⟨rfl, z, rfl, rfl⟩
  ·
    obtain ⟨⟨d, hd, rfl, a2, ⟨⟩, hX1⟩, hFr, hL1⟩ := hp
    have hX2 := hX1.k54 (e := some (.inl (E.2.1 2, 1, .inr (.inl f9))))
    have hM2 := (hFr.m hM).k54 (e := some (.inl (E.2.1 2, 1, .inr (.inl f9))))
    have hF2 : kOt E (kup C1 (54, 0, 0) (some (.inl (E.2.1 2, 1, .inr (.inl f9))))) f9 := kup_s
    refine k_istore X dL_law_1061 (by rw [hN]; decide) ?_
    refine k_lo (lo' := [(0, .ref b), (1, .ref (L9 (1, 0, 0))), (2, .ref (L9 (30, 0, 0))), (3, .ref (L9 (54, 0, 0))), (4, .int (nI (5 * i))), (5, .int (nI 0))]) ⟨rfl, kLR (hL1 (1, 0, 0) (by decide)), kLR (hFr (30, 0, 0) (show 30 ≤ 30 by decide)).2, kLR (hFr (54, 0, 0) (show 30 ≤ 54 by decide)).2, rfl, rfl, trivial⟩ ?_
    refine k_aload_n X dL_law_1063 rfl rfl ?_
    refine k_aload_n X dL_law_1064 rfl rfl ?_
    refine k_iload X dL_law_1065 rfl ?_
    refine k_iconst (v := nI 1) X dL_law_1067 (by decide) ?_
    refine k_iaddN X dL_law_1068 ?_
    refine rd _ _ _ _ _ _ _ _ (show 5 * i + 1 < n by omega) dL_law_1069 ?_
    refine k_rw (y := (nI d)) ep1 ?_
    refine k_aload_n X dL_law_1070 rfl rfl ?_
    refine k_iload X dL_law_1071 rfl ?_
    refine k_iconst (v := nI 2) X dL_law_1073 (by decide) ?_
    refine k_iaddN X dL_law_1074 ?_
    refine rd _ _ _ _ _ _ _ _ (show 5 * i + 2 < n by omega) dL_law_1075 ?_
    refine k_rw (y := p2) ep2 ?_
    refine k_callV (rest := []) X kv_X6_make kb_534 (m_make X.tr hM2 (fun d hd => by rw [(hs.2.2.2.1 d hd).1]; exact Nat.lt_of_le_of_lt (hs.n2 d hd) (by omega)) (by omega) (nI d) p2) hM2.1 rfl rfl rfl rfl rfl (Nat.le_of_ble_eq_true rfl) ⟨by rw [hR]; exact Nat.le_of_ble_eq_true rfl, by rw [hR]; exact Nat.le_of_ble_eq_true rfl⟩ ⟨by rw [hR]; exact (show cells + 7 + 0 ≤ 601024 by omega), by rw [hR]; exact (show slots + 1620 + 0 ≤ 7293034 by omega)⟩ dL_law_1076 (fun v C8 L8 g9 => ?_)
    obtain ⟨hcs, rfl, hFm⟩ := g9
    rcases hcs with ⟨d2, b1, e2, b2, rfl, hM3⟩ | ⟨y, rfl, hM3⟩ | ⟨⟨b1, b2⟩, rfl, hM3⟩
    ·
      refine k_istore X dL_law_1079 (by rw [hN]; decide) ?_
      have ej := nI_d e2 hd b1
      subst ej
      have esn : kSn (nMake N d) = kSn N := kSn.cg fun e => (w3_n (by omega)).trans (w3_n (by omega))
      refine k_lo (lo' := [(0, .ref b), (1, .ref (L9 (1, 0, 0))), (2, .ref (L9 (30, 0, 0))), (3, .ref (L9 (54, 0, 0))), (4, .int (nI (5 * i))), (5, .int (nI 0)), (6, .int _)]) ⟨rfl, rfl, rfl, rfl, rfl, rfl, rfl, trivial⟩ ?_
      exact lw_tailOk K2 hM3 (hF2.fm hFm) (hf9.trans (congrArg Int32.toInt64 (by rw [(hs.2.2.2.1 d hd).1]))) (by omega) (by omega) dL_law_1081 dL_law_1082 dL_law_1085 dL_law_1087 dL_law_1092 dL_law_1094 dL_law_1097 dL_law_1098 dL_law_1099 dL_law_1100 dL_law_1102 dL_law_1103 dL_law_1104 dL_law_1109 (by decide) (k _ _ (sMake S N d p2) (nMake N d) (mMk M (Q 14 0) (Q 10 d) d p2) (w2 (w2 Q 10 d (Q 10 d + 1)) 14 0 (Q 14 0 + 1)) _ _ ⟨hX2.fm hFm, ⟨_, hM3⟩, ⟨_, hF2.fm hFm⟩, hs.make hd (by omega) p2, hz.of (mMk_f (f := 7) (by decide))⟩ (by rw [w2_s]; omega) (by rw [esn]; omega) (by rw [esn]; omega))
    ·
      exact absurd (kix.of hd (by decide)) y
    ·
      exact absurd a2 b2
  ·
    have hX2 := hX
    have hM2 := hM
    have hF2 := hF
    refine k_istore X dL_law_1061 (by rw [hN]; decide) ?_
    refine k_lo (lo' := [(0, .ref b), (1, .ref (L (1, 0, 0))), (2, .ref (L (30, 0, 0))), (3, .ref (L (54, 0, 0))), (4, .int (nI (5 * i))), (5, .int (nI 1))]) ⟨rfl, rfl, rfl, rfl, rfl, rfl, trivial⟩ ?_
    refine k_aload_n X dL_law_1063 rfl rfl ?_
    refine k_aload_n X dL_law_1064 rfl rfl ?_
    refine k_iload X dL_law_1065 rfl ?_
    refine k_iconst (v := nI 1) X dL_law_1067 (by decide) ?_
    refine k_iaddN X dL_law_1068 ?_
    refine rd _ _ _ _ _ _ _ _ (show 5 * i + 1 < n by omega) dL_law_1069 ?_
    refine k_rw (y := p1) ep1 ?_
    refine k_aload_n X dL_law_1070 rfl rfl ?_
    refine k_iload X dL_law_1071 rfl ?_
    refine k_iconst (v := nI 2) X dL_law_1073 (by decide) ?_
    refine k_iaddN X dL_law_1074 ?_
    refine rd _ _ _ _ _ _ _ _ (show 5 * i + 2 < n by omega) dL_law_1075 ?_
    refine k_rw (y := p2) ep2 ?_
    refine k_callV (rest := []) X kv_X6_make kb_534 (m_make X.tr hM2 (fun d hd => by rw [(hs.2.2.2.1 d hd).1]; exact Nat.lt_of_le_of_lt (hs.n2 d hd) (by omega)) (by omega) p1 p2) hM2.1 rfl rfl rfl rfl rfl (Nat.le_of_ble_eq_true rfl) ⟨by rw [hR]; exact Nat.le_of_ble_eq_true rfl, by rw [hR]; exact Nat.le_of_ble_eq_true rfl⟩ ⟨by rw [hR]; exact (show cells + 7 + 0 ≤ 601024 by omega), by rw [hR]; exact (show slots + 1620 + 0 ≤ 7293034 by omega)⟩ dL_law_1076 (fun v C8 L8 g9 => ?_)
    obtain ⟨hcs, rfl, hFm⟩ := g9
    rcases hcs with ⟨d2, b1, e2, b2, rfl, hM3⟩ | ⟨y, rfl, hM3⟩ | ⟨⟨b1, b2⟩, rfl, hM3⟩
    ·
      exact absurd (by rw [e2]; exact kix.of b1 (by decide)) z
    ·
      refine k_istore X dL_law_1079 (by rw [hN]; decide) ?_
      refine k_lo (lo' := [(0, .ref b), (1, .ref (L (1, 0, 0))), (2, .ref (L (30, 0, 0))), (3, .ref (L (54, 0, 0))), (4, .int (nI (5 * i))), (5, .int (nI 1)), (6, .int (nI 0))]) ⟨rfl, rfl, rfl, rfl, rfl, rfl, rfl, trivial⟩ ?_
      exact lw_tailEx K2 (j := 1) (w := 15) (by decide) hM3 (by omega) (by omega) dL_law_1081 dL_law_1082 dL_law_1085 dL_law_1087 dL_law_1092 dL_law_1094 dL_law_1109 (by decide) (k _ _ S N M Q _ _ ⟨hX2.fm hFm, ⟨_, hM3⟩, ⟨_, hF2.fm hFm⟩, hs, hz⟩ (by omega) (by omega) (by omega))
    ·
      exact absurd b1 z
  ·
    have hX2 := hX
    have hM2 := hM
    have hF2 := hF
    refine k_istore X dL_law_1061 (by rw [hN]; decide) ?_
    refine k_lo (lo' := [(0, .ref b), (1, .ref (L (1, 0, 0))), (2, .ref (L (30, 0, 0))), (3, .ref (L (54, 0, 0))), (4, .int (nI (5 * i))), (5, .int (nI 2))]) ⟨rfl, rfl, rfl, rfl, rfl, rfl, trivial⟩ ?_
    refine k_aload_n X dL_law_1063 rfl rfl ?_
    refine k_aload_n X dL_law_1064 rfl rfl ?_
    refine k_iload X dL_law_1065 rfl ?_
    refine k_iconst (v := nI 1) X dL_law_1067 (by decide) ?_
    refine k_iaddN X dL_law_1068 ?_
    refine rd _ _ _ _ _ _ _ _ (show 5 * i + 1 < n by omega) dL_law_1069 ?_
    refine k_rw (y := p1) ep1 ?_
    refine k_aload_n X dL_law_1070 rfl rfl ?_
    refine k_iload X dL_law_1071 rfl ?_
    refine k_iconst (v := nI 2) X dL_law_1073 (by decide) ?_
    refine k_iaddN X dL_law_1074 ?_
    refine rd _ _ _ _ _ _ _ _ (show 5 * i + 2 < n by omega) dL_law_1075 ?_
    refine k_rw (y := p2) ep2 ?_
    refine k_callV (rest := []) X kv_X6_make kb_534 (m_make X.tr hM2 (fun d hd => by rw [(hs.2.2.2.1 d hd).1]; exact Nat.lt_of_le_of_lt (hs.n2 d hd) (by omega)) (by omega) p1 p2) hM2.1 rfl rfl rfl rfl rfl (Nat.le_of_ble_eq_true rfl) ⟨by rw [hR]; exact Nat.le_of_ble_eq_true rfl, by rw [hR]; exact Nat.le_of_ble_eq_true rfl⟩ ⟨by rw [hR]; exact (show cells + 7 + 0 ≤ 601024 by omega), by rw [hR]; exact (show slots + 1620 + 0 ≤ 7293034 by omega)⟩ dL_law_1076 (fun v C8 L8 g9 => ?_)
    obtain ⟨hcs, rfl, hFm⟩ := g9
    rcases hcs with ⟨d2, b1, e2, b2, rfl, hM3⟩ | ⟨y, rfl, hM3⟩ | ⟨⟨b1, b2⟩, rfl, hM3⟩
    ·
      exact absurd b2 z.2
    ·
      exact absurd z.1 y
    ·
      refine k_istore X dL_law_1079 (by rw [hN]; decide) ?_
      refine k_lo (lo' := [(0, .ref b), (1, .ref (L (1, 0, 0))), (2, .ref (L (30, 0, 0))), (3, .ref (L (54, 0, 0))), (4, .int (nI (5 * i))), (5, .int (nI 2)), (6, .int (nI 0))]) ⟨rfl, rfl, rfl, rfl, rfl, rfl, rfl, trivial⟩ ?_
      exact lw_tailEx K2 (j := 2) (w := 15) (by decide) hM3 (by omega) (by omega) dL_law_1081 dL_law_1082 dL_law_1085 dL_law_1087 dL_law_1092 dL_law_1094 dL_law_1109 (by decide) (k _ _ S N M Q _ _ ⟨hX2.fm hFm, ⟨_, hM3⟩, ⟨_, hF2.fm hFm⟩, hs, hz⟩ (by omega) (by omega) (by omega))

set_option maxHeartbeats 4000000 in
set_option maxRecDepth 100000 in
theorem lw_numberOf {Γ : kG} {E : kE} {A : Nat → Prop} {b n : Nat} {xs : Nat → Int32} (K : kLc Γ E A b n xs) {C : kC} {L : kL} {S : kI4} {N : kN3} {M : kM2} {Q : kQ2} (W : kLw E C L S N M Q) {i cells slots : Nat} (hi : 5 * i + 5 ≤ n) (hi5 : i < 512) (hq : Q 14 0 ≤ i) (hc : cells + 1000 ≤ 601024) (hs9 : slots + 100000 ≤ 7293034) (k : ∀ (C' : kC) (L' : kL) (S' : kI4) (N' : kN3) (M' : kM2) (Q' : kQ2) (cells' slots' : Nat), kLw E C' L' S' N' M' Q' → Q' 14 0 ≤ i + 1 → cells' + 6 * kSn N ≤ cells + 130 + 6 * kSn N' → slots' + 900 * kSn N ≤ slots + 4000 + 900 * kSn N' → kW Γ E A C' L' cells' slots' 1509 (kLo b L' i) []) : kW Γ E A C L cells slots 1112 (kLo b L i) [] := by
  have K2 := K
  obtain ⟨X, hN, hR, rd, ln, rt⟩ := K
  obtain ⟨hX, ⟨R, hM⟩, ⟨f8, hF⟩, hs, hz⟩ := W
  have h1 : Q 1 0 = N 1 0 0 := hs.1.1
  have hn40 : N 1 0 0 ≤ 40 := hs.1.2.1
  have kj : ∀ x, kix x (Q 1 0) ↔ kix x (N 1 0 0) := fun x => by rw [h1]
  obtain ⟨p1, ep1⟩ : ∃ p, xs (5 * i + 1) = p := ⟨_, rfl⟩
  obtain ⟨p2, ep2⟩ : ∃ p, xs (5 * i + 2) = p := ⟨_, rfl⟩
  refine k_aload_n X dL_law_1112 rfl rfl ?_
  refine k_aload_n X dL_law_1113 rfl rfl ?_
  refine k_iload X dL_law_1114 rfl ?_
  refine k_iconst (v := nI 1) X dL_law_1116 (by decide) ?_
  refine k_iaddN X dL_law_1117 ?_
  refine rd _ _ _ _ _ _ _ _ (show 5 * i + 1 < n by omega) dL_law_1118 ?_
  refine k_rw (y := p1) ep1 ?_
  refine k_aload_n X dL_law_1119 rfl rfl ?_
  refine k_iload X dL_law_1120 rfl ?_
  refine k_iconst (v := nI 2) X dL_law_1122 (by decide) ?_
  refine k_iaddN X dL_law_1123 ?_
  refine rd _ _ _ _ _ _ _ _ (show 5 * i + 2 < n by omega) dL_law_1124 ?_
  refine k_rw (y := p2) ep2 ?_
  refine k_aload_n X dL_law_1125 rfl rfl ?_
  refine k_callSH (rest := []) X ksh_numberOf kb_538 (h_numberOf X.tr hX hs.ok hF p1 p2) rfl rfl (Nat.le_of_ble_eq_true rfl) ⟨by rw [hR]; exact Nat.le_of_ble_eq_true rfl, by rw [hR]; exact Nat.le_of_ble_eq_true rfl⟩ ⟨by rw [hR]; exact (show cells + 2 ≤ 601024 by omega), by rw [hR]; exact (show slots + 12 ≤ 7293034 by omega)⟩ dL_law_1126 (fun v C9 L9 h9 => ?_)
  rcases h9 with ⟨rv, C1, f9, hp, rfl, rfl, hf9⟩ | ⟨rfl, z, rfl, rfl⟩ | ⟨rfl, z, rfl, rfl⟩
  ·
    obtain ⟨⟨d, hd, rfl, kk, a2, rfl, ⟨⟩⟩, rfl, rfl⟩ := hp
    have hX2 := hX.k54 (e := some (.inl (E.2.1 2, 1, .inr (.inl f9))))
    have hM2 := hM.k54 (e := some (.inl (E.2.1 2, 1, .inr (.inl f9))))
    have hF2 : kOt E (kup C (54, 0, 0) (some (.inl (E.2.1 2, 1, .inr (.inl f9))))) f9 := kup_s
    refine k_istore X dL_law_1129 (by rw [hN]; decide) ?_
    refine k_lo (lo' := [(0, .ref b), (1, .ref (L (1, 0, 0))), (2, .ref (L (30, 0, 0))), (3, .ref (L (54, 0, 0))), (4, .int (nI (5 * i))), (5, .int (nI 0))]) ⟨rfl, rfl, rfl, rfl, rfl, rfl, trivial⟩ ?_
    refine k_aload_n X dL_law_1131 rfl rfl ?_
    refine k_aload_n X dL_law_1132 rfl rfl ?_
    refine k_iload X dL_law_1133 rfl ?_
    refine k_iconst (v := nI 1) X dL_law_1135 (by decide) ?_
    refine k_iaddN X dL_law_1136 ?_
    refine rd _ _ _ _ _ _ _ _ (show 5 * i + 1 < n by omega) dL_law_1137 ?_
    refine k_rw (y := (nI d)) ep1 ?_
    refine k_aload_n X dL_law_1138 rfl rfl ?_
    refine k_iload X dL_law_1139 rfl ?_
    refine k_iconst (v := nI 2) X dL_law_1141 (by decide) ?_
    refine k_iaddN X dL_law_1142 ?_
    refine rd _ _ _ _ _ _ _ _ (show 5 * i + 2 < n by omega) dL_law_1143 ?_
    refine k_rw (y := (nI (1000 + kk))) ep2 ?_
    refine k_callV (rest := []) X kv_X6_numberOf kb_547 (m_numberOf X.tr hM2 (fun d hd => hs.q10 hd) (nI d) (nI (1000 + kk))) hM2.1 rfl rfl rfl rfl rfl (Nat.le_of_ble_eq_true rfl) ⟨by rw [hR]; exact Nat.le_of_ble_eq_true rfl, by rw [hR]; exact Nat.le_of_ble_eq_true rfl⟩ ⟨by rw [hR]; exact (show cells + 2 + 0 ≤ 601024 by omega), by rw [hR]; exact (show slots + 12 + 0 ≤ 7293034 by omega)⟩ dL_law_1144 (fun v C8 L8 g9 => ?_)
    obtain ⟨hcs, rfl, hFm⟩ := g9
    rcases hcs with ⟨d2, b1, e2, k2, b2, e3, rfl, hM3⟩ | ⟨y, rfl, hM3⟩ | ⟨d2, b1, e2, y, rfl, hM3⟩
    ·
      refine k_istore X dL_law_1147 (by rw [hN]; decide) ?_
      have ej := nI_d e2 hd b1
      subst ej
      have hb2 := hs.q10 hd
      have hn2 := hs.n2 d hd
      have ek := kown_inj e3 (by omega) (by omega)
      subst ek
      refine k_lo (lo' := [(0, .ref b), (1, .ref (L (1, 0, 0))), (2, .ref (L (30, 0, 0))), (3, .ref (L (54, 0, 0))), (4, .int (nI (5 * i))), (5, .int (nI 0)), (6, .int _)]) ⟨rfl, rfl, rfl, rfl, rfl, rfl, rfl, trivial⟩ ?_
      exact lw_tailOk K2 hM3 (hF2.fm hFm) (hf9.trans (congrArg Int32.toInt64 ((hs.2.2.2.1 d hd).2.2.2.1 kk a2).1.symm)) (by omega) (by omega) dL_law_1149 dL_law_1150 dL_law_1153 dL_law_1155 dL_law_1160 dL_law_1162 dL_law_1165 dL_law_1166 dL_law_1167 dL_law_1168 dL_law_1170 dL_law_1171 dL_law_1172 dL_law_1177 (by decide) (k _ _ S N M Q _ _ ⟨hX2.fm hFm, ⟨_, hM3⟩, ⟨_, hF2.fm hFm⟩, hs, hz⟩ (by omega) (by omega) (by omega))
    ·
      exact absurd (kix.of hd (by decide)) y
    ·
      have ej := nI_d e2 hd b1
      subst ej
      exact absurd rfl (y kk (by rw [(hs.2.2.2.1 d hd).1]; exact a2))
  ·
    have hX2 := hX
    have hM2 := hM
    have hF2 := hF
    refine k_istore X dL_law_1129 (by rw [hN]; decide) ?_
    refine k_lo (lo' := [(0, .ref b), (1, .ref (L (1, 0, 0))), (2, .ref (L (30, 0, 0))), (3, .ref (L (54, 0, 0))), (4, .int (nI (5 * i))), (5, .int (nI 1))]) ⟨rfl, rfl, rfl, rfl, rfl, rfl, trivial⟩ ?_
    refine k_aload_n X dL_law_1131 rfl rfl ?_
    refine k_aload_n X dL_law_1132 rfl rfl ?_
    refine k_iload X dL_law_1133 rfl ?_
    refine k_iconst (v := nI 1) X dL_law_1135 (by decide) ?_
    refine k_iaddN X dL_law_1136 ?_
    refine rd _ _ _ _ _ _ _ _ (show 5 * i + 1 < n by omega) dL_law_1137 ?_
    refine k_rw (y := p1) ep1 ?_
    refine k_aload_n X dL_law_1138 rfl rfl ?_
    refine k_iload X dL_law_1139 rfl ?_
    refine k_iconst (v := nI 2) X dL_law_1141 (by decide) ?_
    refine k_iaddN X dL_law_1142 ?_
    refine rd _ _ _ _ _ _ _ _ (show 5 * i + 2 < n by omega) dL_law_1143 ?_
    refine k_rw (y := p2) ep2 ?_
    refine k_callV (rest := []) X kv_X6_numberOf kb_547 (m_numberOf X.tr hM2 (fun d hd => hs.q10 hd) p1 p2) hM2.1 rfl rfl rfl rfl rfl (Nat.le_of_ble_eq_true rfl) ⟨by rw [hR]; exact Nat.le_of_ble_eq_true rfl, by rw [hR]; exact Nat.le_of_ble_eq_true rfl⟩ ⟨by rw [hR]; exact (show cells + 2 + 0 ≤ 601024 by omega), by rw [hR]; exact (show slots + 12 + 0 ≤ 7293034 by omega)⟩ dL_law_1144 (fun v C8 L8 g9 => ?_)
    obtain ⟨hcs, rfl, hFm⟩ := g9
    rcases hcs with ⟨d2, b1, e2, k2, b2, e3, rfl, hM3⟩ | ⟨y, rfl, hM3⟩ | ⟨d2, b1, e2, y, rfl, hM3⟩
    ·
      exact absurd (by rw [e2]; exact kix.of b1 (by decide)) z
    ·
      refine k_istore X dL_law_1147 (by rw [hN]; decide) ?_
      refine k_lo (lo' := [(0, .ref b), (1, .ref (L (1, 0, 0))), (2, .ref (L (30, 0, 0))), (3, .ref (L (54, 0, 0))), (4, .int (nI (5 * i))), (5, .int (nI 1)), (6, .int (nI 0))]) ⟨rfl, rfl, rfl, rfl, rfl, rfl, rfl, trivial⟩ ?_
      exact lw_tailEx K2 (j := 1) (w := 15) (by decide) hM3 (by omega) (by omega) dL_law_1149 dL_law_1150 dL_law_1153 dL_law_1155 dL_law_1160 dL_law_1162 dL_law_1177 (by decide) (k _ _ S N M Q _ _ ⟨hX2.fm hFm, ⟨_, hM3⟩, ⟨_, hF2.fm hFm⟩, hs, hz⟩ (by omega) (by omega) (by omega))
    ·
      exact absurd (by rw [e2]; exact kix.of b1 (by decide)) z
  ·
    have hX2 := hX
    have hM2 := hM
    have hF2 := hF
    refine k_istore X dL_law_1129 (by rw [hN]; decide) ?_
    refine k_lo (lo' := [(0, .ref b), (1, .ref (L (1, 0, 0))), (2, .ref (L (30, 0, 0))), (3, .ref (L (54, 0, 0))), (4, .int (nI (5 * i))), (5, .int (nI 2))]) ⟨rfl, rfl, rfl, rfl, rfl, rfl, trivial⟩ ?_
    refine k_aload_n X dL_law_1131 rfl rfl ?_
    refine k_aload_n X dL_law_1132 rfl rfl ?_
    refine k_iload X dL_law_1133 rfl ?_
    refine k_iconst (v := nI 1) X dL_law_1135 (by decide) ?_
    refine k_iaddN X dL_law_1136 ?_
    refine rd _ _ _ _ _ _ _ _ (show 5 * i + 1 < n by omega) dL_law_1137 ?_
    refine k_rw (y := p1) ep1 ?_
    refine k_aload_n X dL_law_1138 rfl rfl ?_
    refine k_iload X dL_law_1139 rfl ?_
    refine k_iconst (v := nI 2) X dL_law_1141 (by decide) ?_
    refine k_iaddN X dL_law_1142 ?_
    refine rd _ _ _ _ _ _ _ _ (show 5 * i + 2 < n by omega) dL_law_1143 ?_
    refine k_rw (y := p2) ep2 ?_
    refine k_callV (rest := []) X kv_X6_numberOf kb_547 (m_numberOf X.tr hM2 (fun d hd => hs.q10 hd) p1 p2) hM2.1 rfl rfl rfl rfl rfl (Nat.le_of_ble_eq_true rfl) ⟨by rw [hR]; exact Nat.le_of_ble_eq_true rfl, by rw [hR]; exact Nat.le_of_ble_eq_true rfl⟩ ⟨by rw [hR]; exact (show cells + 2 + 0 ≤ 601024 by omega), by rw [hR]; exact (show slots + 12 + 0 ≤ 7293034 by omega)⟩ dL_law_1144 (fun v C8 L8 g9 => ?_)
    obtain ⟨hcs, rfl, hFm⟩ := g9
    rcases hcs with ⟨d2, b1, e2, k2, b2, e3, rfl, hM3⟩ | ⟨y, rfl, hM3⟩ | ⟨d2, b1, e2, y, rfl, hM3⟩
    ·
      obtain ⟨d, hd, e, zz⟩ := z
      have ej := nI_d (e.symm.trans e2) hd b1
      subst ej
      exact absurd e3 (zz k2 (by rw [← (hs.2.2.2.1 d hd).1]; exact b2))
    ·
      exact absurd (by obtain ⟨d, hd, e, _⟩ := z; rw [e]; exact kix.of hd (by decide)) y
    ·
      refine k_istore X dL_law_1147 (by rw [hN]; decide) ?_
      refine k_lo (lo' := [(0, .ref b), (1, .ref (L (1, 0, 0))), (2, .ref (L (30, 0, 0))), (3, .ref (L (54, 0, 0))), (4, .int (nI (5 * i))), (5, .int (nI 2)), (6, .int (nI 0))]) ⟨rfl, rfl, rfl, rfl, rfl, rfl, rfl, trivial⟩ ?_
      exact lw_tailEx K2 (j := 2) (w := 15) (by decide) hM3 (by omega) (by omega) dL_law_1149 dL_law_1150 dL_law_1153 dL_law_1155 dL_law_1160 dL_law_1162 dL_law_1177 (by decide) (k _ _ S N M Q _ _ ⟨hX2.fm hFm, ⟨_, hM3⟩, ⟨_, hF2.fm hFm⟩, hs, hz⟩ (by omega) (by omega) (by omega))

set_option maxHeartbeats 4000000 in
set_option maxRecDepth 100000 in
theorem lw_send {Γ : kG} {E : kE} {A : Nat → Prop} {b n : Nat} {xs : Nat → Int32} (K : kLc Γ E A b n xs) {C : kC} {L : kL} {S : kI4} {N : kN3} {M : kM2} {Q : kQ2} (W : kLw E C L S N M Q) {i cells slots : Nat} (hi : 5 * i + 5 ≤ n) (hi5 : i < 512) (hq : Q 14 0 ≤ i) (hc : cells + 1000 ≤ 601024) (hs9 : slots + 100000 ≤ 7293034) (k : ∀ (C' : kC) (L' : kL) (S' : kI4) (N' : kN3) (M' : kM2) (Q' : kQ2) (cells' slots' : Nat), kLw E C' L' S' N' M' Q' → Q' 14 0 ≤ i + 1 → cells' + 6 * kSn N ≤ cells + 130 + 6 * kSn N' → slots' + 900 * kSn N ≤ slots + 4000 + 900 * kSn N' → kW Γ E A C' L' cells' slots' 1509 (kLo b L' i) []) : kW Γ E A C L cells slots 1180 (kLo b L i) [] := by
  have K2 := K
  obtain ⟨X, hN, hR, rd, ln, rt⟩ := K
  obtain ⟨hX, ⟨R, hM⟩, ⟨f8, hF⟩, hs, hz⟩ := W
  have h1 : Q 1 0 = N 1 0 0 := hs.1.1
  have hn40 : N 1 0 0 ≤ 40 := hs.1.2.1
  have kj : ∀ x, kix x (Q 1 0) ↔ kix x (N 1 0 0) := fun x => by rw [h1]
  obtain ⟨p1, ep1⟩ : ∃ p, xs (5 * i + 1) = p := ⟨_, rfl⟩
  obtain ⟨p2, ep2⟩ : ∃ p, xs (5 * i + 2) = p := ⟨_, rfl⟩
  obtain ⟨m0, hm100, hm0, hm9⟩ := ksend_m0 N p1 p2
  refine k_aload_n X dL_law_1180 rfl rfl ?_
  refine k_aload_n X dL_law_1181 rfl rfl ?_
  refine k_iload X dL_law_1182 rfl ?_
  refine k_iconst (v := nI 1) X dL_law_1184 (by decide) ?_
  refine k_iaddN X dL_law_1185 ?_
  refine rd _ _ _ _ _ _ _ _ (show 5 * i + 1 < n by omega) dL_law_1186 ?_
  refine k_rw (y := p1) ep1 ?_
  refine k_aload_n X dL_law_1187 rfl rfl ?_
  refine k_iload X dL_law_1188 rfl ?_
  refine k_iconst (v := nI 2) X dL_law_1190 (by decide) ?_
  refine k_iaddN X dL_law_1191 ?_
  refine rd _ _ _ _ _ _ _ _ (show 5 * i + 2 < n by omega) dL_law_1192 ?_
  refine k_rw (y := p2) ep2 ?_
  refine k_aload_n X dL_law_1193 rfl rfl ?_
  refine k_callSH (rest := []) X ksh_send kb_551 (h_send X.tr hX hs.ok hF hs.h54 p1 p2 m0 (fun d mo x1 x2 x3 x4 => Nat.le_of_eq (hm0 d mo x1 x2 x3 x4))) rfl rfl (Nat.le_of_ble_eq_true rfl) ⟨by rw [hR]; exact Nat.le_of_ble_eq_true rfl, by rw [hR]; exact Nat.le_of_ble_eq_true rfl⟩ ⟨by rw [hR]; exact (show cells + (2 + 6 * m0) ≤ 601024 by omega), by rw [hR]; exact (show slots + (12 + 900 * m0) ≤ 7293034 by omega)⟩ dL_law_1194 (fun v C9 L9 h9 => ?_)
  rcases h9 with ⟨rv, C1, f9, hp, rfl, rfl, hf9⟩ | ⟨rfl, z, rfl, rfl⟩ | ⟨rfl, z, rfl, rfl⟩
  ·
    obtain ⟨⟨d, hd, rfl, mo, g1, g2, rfl, c, S1, N1, hrun, ⟨⟩, hX1⟩, hFr, hL1⟩ := hp
    have hX2 := hX1.k54 (e := some (.inl (E.2.1 2, 1, .inr (.inl f9))))
    have hM2 := (hFr.m hM).k54 (e := some (.inl (E.2.1 2, 1, .inr (.inl f9))))
    have hF2 : kOt E (kup C1 (54, 0, 0) (some (.inl (E.2.1 2, 1, .inr (.inl f9))))) f9 := kup_s
    have em := hm0 d mo hd rfl g2 rfl
    refine k_istore X dL_law_1197 (by rw [hN]; decide) ?_
    refine k_lo (lo' := [(0, .ref b), (1, .ref (L9 (1, 0, 0))), (2, .ref (L9 (30, 0, 0))), (3, .ref (L9 (54, 0, 0))), (4, .int (nI (5 * i))), (5, .int (nI 0))]) ⟨rfl, kLR (hL1 (1, 0, 0) (by decide)), kLR (hFr (30, 0, 0) (show 30 ≤ 30 by decide)).2, kLR (hFr (54, 0, 0) (show 30 ≤ 54 by decide)).2, rfl, rfl, trivial⟩ ?_
    refine k_aload_n X dL_law_1199 rfl rfl ?_
    refine k_aload_n X dL_law_1200 rfl rfl ?_
    refine k_iload X dL_law_1201 rfl ?_
    refine k_iconst (v := nI 1) X dL_law_1203 (by decide) ?_
    refine k_iaddN X dL_law_1204 ?_
    refine rd _ _ _ _ _ _ _ _ (show 5 * i + 1 < n by omega) dL_law_1205 ?_
    refine k_rw (y := (nI d)) ep1 ?_
    refine k_aload_n X dL_law_1206 rfl rfl ?_
    refine k_iload X dL_law_1207 rfl ?_
    refine k_iconst (v := nI 2) X dL_law_1209 (by decide) ?_
    refine k_iaddN X dL_law_1210 ?_
    refine rd _ _ _ _ _ _ _ _ (show 5 * i + 2 < n by omega) dL_law_1211 ?_
    refine k_rw (y := (nI mo)) ep2 ?_
    refine k_callV (rest := []) X kv_X6_send kb_596 (m_send X.tr hM2 hs (nI d) (nI mo) (S1 := S1) (N1 := N1) (c := c) (fun d2 mo2 x1 x2 x3 x4 x5 => by have e := nI_d x2 hd x1; subst e; have e := nI_inj x5 (by omega) (by omega); subst e; exact hrun)) hM2.1 rfl rfl rfl rfl rfl (Nat.le_of_ble_eq_true rfl) ⟨by rw [hR]; exact Nat.le_of_ble_eq_true rfl, by rw [hR]; exact Nat.le_of_ble_eq_true rfl⟩ ⟨by rw [hR]; exact (show cells + (2 + 6 * m0) + 0 ≤ 601024 by omega), by rw [hR]; exact (show slots + (12 + 900 * m0) + 0 ≤ 7293034 by omega)⟩ dL_law_1212 (fun v C8 L8 g9 => ?_)
    obtain ⟨hcs, rfl, hFm⟩ := g9
    rcases hcs with ⟨M2, Q2, hs2, hz2, hq2, ⟨d2, mo2, b1, e2, b2, b3, e3⟩, rfl, hM3⟩ | ⟨y, rfl, hM3⟩ | ⟨b1, b2, rfl, hM3⟩
    ·
      refine k_istore X dL_law_1215 (by rw [hN]; decide) ?_
      have esn : kSn N1 = kSn N + m0 := (kSn.up hd (xSnd_n hrun).1 (xSnd_n hrun).2).trans (by rw [em])
      refine k_lo (lo' := [(0, .ref b), (1, .ref (L9 (1, 0, 0))), (2, .ref (L9 (30, 0, 0))), (3, .ref (L9 (54, 0, 0))), (4, .int (nI (5 * i))), (5, .int (nI 0)), (6, .int _)]) ⟨rfl, rfl, rfl, rfl, rfl, rfl, rfl, trivial⟩ ?_
      exact lw_tailOk K2 hM3 (hF2.fm hFm) (hf9.trans (congrArg Int32.toInt64 rfl)) (by omega) (by omega) dL_law_1217 dL_law_1218 dL_law_1221 dL_law_1223 dL_law_1228 dL_law_1230 dL_law_1233 dL_law_1234 dL_law_1235 dL_law_1236 dL_law_1238 dL_law_1239 dL_law_1240 dL_law_1245 (by decide) (k _ _ (w4 S1 12 0 0 0 (S1 12 0 0 0 + nI c)) N1 (w2 M2 24 0 (M2 24 0 + nI c)) Q2 _ _ ⟨hX2.fm hFm, ⟨_, hM3⟩, ⟨_, hF2.fm hFm⟩, hs2.s12 (nI c), (hz2 hz).of (w2_f (a := 24) (b := 7) (by decide))⟩ (by omega) (by rw [esn]; omega) (by rw [esn]; omega))
    ·
      exact absurd (kix.of hd (by decide)) y
    ·
      exact absurd (kin1h g1 g2) b2
  ·
    have hX2 := hX
    have hM2 := hM
    have hF2 := hF
    have em : m0 = 0 := hm9 fun w => by
      obtain ⟨d, mo, x1, x2, x3, x4, x5⟩ := w
      exact absurd (by rw [x2]; exact kix.of x1 (by decide)) z
    refine k_istore X dL_law_1197 (by rw [hN]; decide) ?_
    refine k_lo (lo' := [(0, .ref b), (1, .ref (L (1, 0, 0))), (2, .ref (L (30, 0, 0))), (3, .ref (L (54, 0, 0))), (4, .int (nI (5 * i))), (5, .int (nI 1))]) ⟨rfl, rfl, rfl, rfl, rfl, rfl, trivial⟩ ?_
    refine k_aload_n X dL_law_1199 rfl rfl ?_
    refine k_aload_n X dL_law_1200 rfl rfl ?_
    refine k_iload X dL_law_1201 rfl ?_
    refine k_iconst (v := nI 1) X dL_law_1203 (by decide) ?_
    refine k_iaddN X dL_law_1204 ?_
    refine rd _ _ _ _ _ _ _ _ (show 5 * i + 1 < n by omega) dL_law_1205 ?_
    refine k_rw (y := p1) ep1 ?_
    refine k_aload_n X dL_law_1206 rfl rfl ?_
    refine k_iload X dL_law_1207 rfl ?_
    refine k_iconst (v := nI 2) X dL_law_1209 (by decide) ?_
    refine k_iaddN X dL_law_1210 ?_
    refine rd _ _ _ _ _ _ _ _ (show 5 * i + 2 < n by omega) dL_law_1211 ?_
    refine k_rw (y := p2) ep2 ?_
    refine k_callV (rest := []) X kv_X6_send kb_596 (m_send X.tr hM2 hs p1 p2 (S1 := S) (N1 := N) (c := 0) (fun d2 mo2 x1 x2 x3 x4 x5 => absurd (by rw [x2]; exact kix.of x1 (by decide)) z)) hM2.1 rfl rfl rfl rfl rfl (Nat.le_of_ble_eq_true rfl) ⟨by rw [hR]; exact Nat.le_of_ble_eq_true rfl, by rw [hR]; exact Nat.le_of_ble_eq_true rfl⟩ ⟨by rw [hR]; exact (show cells + (2 + 6 * m0) + 0 ≤ 601024 by omega), by rw [hR]; exact (show slots + (12 + 900 * m0) + 0 ≤ 7293034 by omega)⟩ dL_law_1212 (fun v C8 L8 g9 => ?_)
    obtain ⟨hcs, rfl, hFm⟩ := g9
    rcases hcs with ⟨M2, Q2, hs2, hz2, hq2, ⟨d2, mo2, b1, e2, b2, b3, e3⟩, rfl, hM3⟩ | ⟨y, rfl, hM3⟩ | ⟨b1, b2, rfl, hM3⟩
    ·
      exact absurd (by rw [e2]; exact kix.of b1 (by decide)) z
    ·
      refine k_istore X dL_law_1215 (by rw [hN]; decide) ?_
      refine k_lo (lo' := [(0, .ref b), (1, .ref (L (1, 0, 0))), (2, .ref (L (30, 0, 0))), (3, .ref (L (54, 0, 0))), (4, .int (nI (5 * i))), (5, .int (nI 1)), (6, .int (nI 0))]) ⟨rfl, rfl, rfl, rfl, rfl, rfl, rfl, trivial⟩ ?_
      exact lw_tailEx K2 (j := 1) (w := 15) (by decide) hM3 (by omega) (by omega) dL_law_1217 dL_law_1218 dL_law_1221 dL_law_1223 dL_law_1228 dL_law_1230 dL_law_1245 (by decide) (k _ _ S N M Q _ _ ⟨hX2.fm hFm, ⟨_, hM3⟩, ⟨_, hF2.fm hFm⟩, hs, hz⟩ (by omega) (by omega) (by omega))
    ·
      exact absurd b1 z
  ·
    have hX2 := hX
    have hM2 := hM
    have hF2 := hF
    have em : m0 = 0 := hm9 fun w => by
      obtain ⟨d, mo, x1, x2, x3, x4, x5⟩ := w
      exact absurd (by rw [x5]; exact kin1h x3 x4) z.2
    refine k_istore X dL_law_1197 (by rw [hN]; decide) ?_
    refine k_lo (lo' := [(0, .ref b), (1, .ref (L (1, 0, 0))), (2, .ref (L (30, 0, 0))), (3, .ref (L (54, 0, 0))), (4, .int (nI (5 * i))), (5, .int (nI 2))]) ⟨rfl, rfl, rfl, rfl, rfl, rfl, trivial⟩ ?_
    refine k_aload_n X dL_law_1199 rfl rfl ?_
    refine k_aload_n X dL_law_1200 rfl rfl ?_
    refine k_iload X dL_law_1201 rfl ?_
    refine k_iconst (v := nI 1) X dL_law_1203 (by decide) ?_
    refine k_iaddN X dL_law_1204 ?_
    refine rd _ _ _ _ _ _ _ _ (show 5 * i + 1 < n by omega) dL_law_1205 ?_
    refine k_rw (y := p1) ep1 ?_
    refine k_aload_n X dL_law_1206 rfl rfl ?_
    refine k_iload X dL_law_1207 rfl ?_
    refine k_iconst (v := nI 2) X dL_law_1209 (by decide) ?_
    refine k_iaddN X dL_law_1210 ?_
    refine rd _ _ _ _ _ _ _ _ (show 5 * i + 2 < n by omega) dL_law_1211 ?_
    refine k_rw (y := p2) ep2 ?_
    refine k_callV (rest := []) X kv_X6_send kb_596 (m_send X.tr hM2 hs p1 p2 (S1 := S) (N1 := N) (c := 0) (fun d2 mo2 x1 x2 x3 x4 x5 => absurd (by rw [x5]; exact kin1h x3 x4) z.2)) hM2.1 rfl rfl rfl rfl rfl (Nat.le_of_ble_eq_true rfl) ⟨by rw [hR]; exact Nat.le_of_ble_eq_true rfl, by rw [hR]; exact Nat.le_of_ble_eq_true rfl⟩ ⟨by rw [hR]; exact (show cells + (2 + 6 * m0) + 0 ≤ 601024 by omega), by rw [hR]; exact (show slots + (12 + 900 * m0) + 0 ≤ 7293034 by omega)⟩ dL_law_1212 (fun v C8 L8 g9 => ?_)
    obtain ⟨hcs, rfl, hFm⟩ := g9
    rcases hcs with ⟨M2, Q2, hs2, hz2, hq2, ⟨d2, mo2, b1, e2, b2, b3, e3⟩, rfl, hM3⟩ | ⟨y, rfl, hM3⟩ | ⟨b1, b2, rfl, hM3⟩
    ·
      exact absurd (by rw [e3]; exact kin1h b2 b3) z.2
    ·
      exact absurd z.1 y
    ·
      refine k_istore X dL_law_1215 (by rw [hN]; decide) ?_
      refine k_lo (lo' := [(0, .ref b), (1, .ref (L (1, 0, 0))), (2, .ref (L (30, 0, 0))), (3, .ref (L (54, 0, 0))), (4, .int (nI (5 * i))), (5, .int (nI 2)), (6, .int (nI 0))]) ⟨rfl, rfl, rfl, rfl, rfl, rfl, rfl, trivial⟩ ?_
      exact lw_tailEx K2 (j := 2) (w := 15) (by decide) hM3 (by omega) (by omega) dL_law_1217 dL_law_1218 dL_law_1221 dL_law_1223 dL_law_1228 dL_law_1230 dL_law_1245 (by decide) (k _ _ S N M Q _ _ ⟨hX2.fm hFm, ⟨_, hM3⟩, ⟨_, hF2.fm hFm⟩, hs, hz⟩ (by omega) (by omega) (by omega))

set_option maxHeartbeats 4000000 in
set_option maxRecDepth 100000 in
theorem lw_waiting {Γ : kG} {E : kE} {A : Nat → Prop} {b n : Nat} {xs : Nat → Int32} (K : kLc Γ E A b n xs) {C : kC} {L : kL} {S : kI4} {N : kN3} {M : kM2} {Q : kQ2} (W : kLw E C L S N M Q) {i cells slots : Nat} (hi : 5 * i + 5 ≤ n) (hi5 : i < 512) (hq : Q 14 0 ≤ i) (hc : cells + 1000 ≤ 601024) (hs9 : slots + 100000 ≤ 7293034) (k : ∀ (C' : kC) (L' : kL) (S' : kI4) (N' : kN3) (M' : kM2) (Q' : kQ2) (cells' slots' : Nat), kLw E C' L' S' N' M' Q' → Q' 14 0 ≤ i + 1 → cells' + 6 * kSn N ≤ cells + 130 + 6 * kSn N' → slots' + 900 * kSn N ≤ slots + 4000 + 900 * kSn N' → kW Γ E A C' L' cells' slots' 1509 (kLo b L' i) []) : kW Γ E A C L cells slots 1248 (kLo b L i) [] := by
  have K2 := K
  obtain ⟨X, hN, hR, rd, ln, rt⟩ := K
  obtain ⟨hX, ⟨R, hM⟩, ⟨f8, hF⟩, hs, hz⟩ := W
  have h1 : Q 1 0 = N 1 0 0 := hs.1.1
  have hn40 : N 1 0 0 ≤ 40 := hs.1.2.1
  have kj : ∀ x, kix x (Q 1 0) ↔ kix x (N 1 0 0) := fun x => by rw [h1]
  obtain ⟨p1, ep1⟩ : ∃ p, xs (5 * i + 1) = p := ⟨_, rfl⟩
  refine k_aload_n X dL_law_1248 rfl rfl ?_
  refine k_aload_n X dL_law_1249 rfl rfl ?_
  refine k_iload X dL_law_1250 rfl ?_
  refine k_iconst (v := nI 1) X dL_law_1252 (by decide) ?_
  refine k_iaddN X dL_law_1253 ?_
  refine rd _ _ _ _ _ _ _ _ (show 5 * i + 1 < n by omega) dL_law_1254 ?_
  refine k_rw (y := p1) ep1 ?_
  refine k_aload_n X dL_law_1255 rfl rfl ?_
  refine k_callSH (rest := []) X ksh_waiting kb_614 (h_waiting X.tr hX hs.ok hF p1) rfl rfl (Nat.le_of_ble_eq_true rfl) ⟨by rw [hR]; exact Nat.le_of_ble_eq_true rfl, by rw [hR]; exact Nat.le_of_ble_eq_true rfl⟩ ⟨by rw [hR]; exact (show cells + 1 ≤ 601024 by omega), by rw [hR]; exact (show slots + 6 ≤ 7293034 by omega)⟩ dL_law_1256 (fun v C9 L9 h9 => ?_)
  rcases h9 with ⟨rv, C1, f9, hp, rfl, rfl, hf9⟩ | ⟨rfl, z, rfl, rfl⟩
  ·
    obtain ⟨⟨d, hd, rfl, ⟨⟩⟩, rfl, rfl⟩ := hp
    have hX2 := hX.k54 (e := some (.inl (E.2.1 2, 1, .inr (.inl f9))))
    have hM2 := hM.k54 (e := some (.inl (E.2.1 2, 1, .inr (.inl f9))))
    have hF2 : kOt E (kup C (54, 0, 0) (some (.inl (E.2.1 2, 1, .inr (.inl f9))))) f9 := kup_s
    refine k_istore X dL_law_1259 (by rw [hN]; decide) ?_
    refine k_lo (lo' := [(0, .ref b), (1, .ref (L (1, 0, 0))), (2, .ref (L (30, 0, 0))), (3, .ref (L (54, 0, 0))), (4, .int (nI (5 * i))), (5, .int (nI 0))]) ⟨rfl, rfl, rfl, rfl, rfl, rfl, trivial⟩ ?_
    refine k_aload_n X dL_law_1261 rfl rfl ?_
    refine k_aload_n X dL_law_1262 rfl rfl ?_
    refine k_iload X dL_law_1263 rfl ?_
    refine k_iconst (v := nI 1) X dL_law_1265 (by decide) ?_
    refine k_iaddN X dL_law_1266 ?_
    refine rd _ _ _ _ _ _ _ _ (show 5 * i + 1 < n by omega) dL_law_1267 ?_
    refine k_rw (y := (nI d)) ep1 ?_
    refine k_callV (rest := []) X kv_X6_waiting kb_621 (m_waiting X.tr hM2 (by omega) (nI d)) hM2.1 rfl rfl rfl rfl rfl (Nat.le_of_ble_eq_true rfl) ⟨by rw [hR]; exact Nat.le_of_ble_eq_true rfl, by rw [hR]; exact Nat.le_of_ble_eq_true rfl⟩ ⟨by rw [hR]; exact (show cells + 1 + 0 ≤ 601024 by omega), by rw [hR]; exact (show slots + 6 + 0 ≤ 7293034 by omega)⟩ dL_law_1268 (fun v C8 L8 g9 => ?_)
    obtain ⟨hcs, rfl, hFm⟩ := g9
    rcases hcs with ⟨d2, b1, e2, rfl, hM3⟩ | ⟨y, rfl, hM3⟩
    ·
      refine k_istore X dL_law_1271 (by rw [hN]; decide) ?_
      have ej := nI_d e2 hd b1
      subst ej
      refine k_lo (lo' := [(0, .ref b), (1, .ref (L (1, 0, 0))), (2, .ref (L (30, 0, 0))), (3, .ref (L (54, 0, 0))), (4, .int (nI (5 * i))), (5, .int (nI 0)), (6, .int _)]) ⟨rfl, rfl, rfl, rfl, rfl, rfl, rfl, trivial⟩ ?_
      exact lw_tailOk K2 hM3 (hF2.fm hFm) (hf9.trans (congrArg Int32.toInt64 (by rw [hs.wt hd]))) (by omega) (by omega) dL_law_1273 dL_law_1274 dL_law_1277 dL_law_1279 dL_law_1284 dL_law_1286 dL_law_1289 dL_law_1290 dL_law_1291 dL_law_1292 dL_law_1294 dL_law_1295 dL_law_1296 dL_law_1301 (by decide) (k _ _ S N M Q _ _ ⟨hX2.fm hFm, ⟨_, hM3⟩, ⟨_, hF2.fm hFm⟩, hs, hz⟩ (by omega) (by omega) (by omega))
    ·
      exact absurd (kix.of hd (by decide)) y
  ·
    have hX2 := hX
    have hM2 := hM
    have hF2 := hF
    refine k_istore X dL_law_1259 (by rw [hN]; decide) ?_
    refine k_lo (lo' := [(0, .ref b), (1, .ref (L (1, 0, 0))), (2, .ref (L (30, 0, 0))), (3, .ref (L (54, 0, 0))), (4, .int (nI (5 * i))), (5, .int (nI 1))]) ⟨rfl, rfl, rfl, rfl, rfl, rfl, trivial⟩ ?_
    refine k_aload_n X dL_law_1261 rfl rfl ?_
    refine k_aload_n X dL_law_1262 rfl rfl ?_
    refine k_iload X dL_law_1263 rfl ?_
    refine k_iconst (v := nI 1) X dL_law_1265 (by decide) ?_
    refine k_iaddN X dL_law_1266 ?_
    refine rd _ _ _ _ _ _ _ _ (show 5 * i + 1 < n by omega) dL_law_1267 ?_
    refine k_rw (y := p1) ep1 ?_
    refine k_callV (rest := []) X kv_X6_waiting kb_621 (m_waiting X.tr hM2 (by omega) p1) hM2.1 rfl rfl rfl rfl rfl (Nat.le_of_ble_eq_true rfl) ⟨by rw [hR]; exact Nat.le_of_ble_eq_true rfl, by rw [hR]; exact Nat.le_of_ble_eq_true rfl⟩ ⟨by rw [hR]; exact (show cells + 1 + 0 ≤ 601024 by omega), by rw [hR]; exact (show slots + 6 + 0 ≤ 7293034 by omega)⟩ dL_law_1268 (fun v C8 L8 g9 => ?_)
    obtain ⟨hcs, rfl, hFm⟩ := g9
    rcases hcs with ⟨d2, b1, e2, rfl, hM3⟩ | ⟨y, rfl, hM3⟩
    ·
      exact absurd (by rw [e2]; exact kix.of b1 (by decide)) z
    ·
      refine k_istore X dL_law_1271 (by rw [hN]; decide) ?_
      refine k_lo (lo' := [(0, .ref b), (1, .ref (L (1, 0, 0))), (2, .ref (L (30, 0, 0))), (3, .ref (L (54, 0, 0))), (4, .int (nI (5 * i))), (5, .int (nI 1)), (6, .int (nI 0))]) ⟨rfl, rfl, rfl, rfl, rfl, rfl, rfl, trivial⟩ ?_
      exact lw_tailEx K2 (j := 1) (w := 15) (by decide) hM3 (by omega) (by omega) dL_law_1273 dL_law_1274 dL_law_1277 dL_law_1279 dL_law_1284 dL_law_1286 dL_law_1301 (by decide) (k _ _ S N M Q _ _ ⟨hX2.fm hFm, ⟨_, hM3⟩, ⟨_, hF2.fm hFm⟩, hs, hz⟩ (by omega) (by omega) (by omega))

set_option maxHeartbeats 4000000 in
set_option maxRecDepth 100000 in
theorem lw_pile {Γ : kG} {E : kE} {A : Nat → Prop} {b n : Nat} {xs : Nat → Int32} (K : kLc Γ E A b n xs) {C : kC} {L : kL} {S : kI4} {N : kN3} {M : kM2} {Q : kQ2} (W : kLw E C L S N M Q) {i cells slots : Nat} (hi : 5 * i + 5 ≤ n) (hi5 : i < 512) (hq : Q 14 0 ≤ i) (hc : cells + 1000 ≤ 601024) (hs9 : slots + 100000 ≤ 7293034) (k : ∀ (C' : kC) (L' : kL) (S' : kI4) (N' : kN3) (M' : kM2) (Q' : kQ2) (cells' slots' : Nat), kLw E C' L' S' N' M' Q' → Q' 14 0 ≤ i + 1 → cells' + 6 * kSn N ≤ cells + 130 + 6 * kSn N' → slots' + 900 * kSn N ≤ slots + 4000 + 900 * kSn N' → kW Γ E A C' L' cells' slots' 1509 (kLo b L' i) []) : kW Γ E A C L cells slots 1304 (kLo b L i) [] := by
  have K2 := K
  obtain ⟨X, hN, hR, rd, ln, rt⟩ := K
  obtain ⟨hX, ⟨R, hM⟩, ⟨f8, hF⟩, hs, hz⟩ := W
  have h1 : Q 1 0 = N 1 0 0 := hs.1.1
  have hn40 : N 1 0 0 ≤ 40 := hs.1.2.1
  have kj : ∀ x, kix x (Q 1 0) ↔ kix x (N 1 0 0) := fun x => by rw [h1]
  obtain ⟨p1, ep1⟩ : ∃ p, xs (5 * i + 1) = p := ⟨_, rfl⟩
  refine k_aload_n X dL_law_1304 rfl rfl ?_
  refine k_aload_n X dL_law_1305 rfl rfl ?_
  refine k_iload X dL_law_1306 rfl ?_
  refine k_iconst (v := nI 1) X dL_law_1308 (by decide) ?_
  refine k_iaddN X dL_law_1309 ?_
  refine rd _ _ _ _ _ _ _ _ (show 5 * i + 1 < n by omega) dL_law_1310 ?_
  refine k_rw (y := p1) ep1 ?_
  refine k_aload_n X dL_law_1311 rfl rfl ?_
  refine k_callSH (rest := []) X ksh_pile kb_625 (h_pile X.tr hX hs.ok hF p1) rfl rfl (Nat.le_of_ble_eq_true rfl) ⟨by rw [hR]; exact Nat.le_of_ble_eq_true rfl, by rw [hR]; exact Nat.le_of_ble_eq_true rfl⟩ ⟨by rw [hR]; exact (show cells + 1 ≤ 601024 by omega), by rw [hR]; exact (show slots + 6 ≤ 7293034 by omega)⟩ dL_law_1312 (fun v C9 L9 h9 => ?_)
  rcases h9 with ⟨rv, C1, f9, hp, rfl, rfl, hf9⟩ | ⟨rfl, z, rfl, rfl⟩
  ·
    obtain ⟨⟨d, hd, rfl, ⟨⟩⟩, rfl, rfl⟩ := hp
    have hX2 := hX.k54 (e := some (.inl (E.2.1 2, 1, .inr (.inl f9))))
    have hM2 := hM.k54 (e := some (.inl (E.2.1 2, 1, .inr (.inl f9))))
    have hF2 : kOt E (kup C (54, 0, 0) (some (.inl (E.2.1 2, 1, .inr (.inl f9))))) f9 := kup_s
    refine k_istore X dL_law_1315 (by rw [hN]; decide) ?_
    refine k_lo (lo' := [(0, .ref b), (1, .ref (L (1, 0, 0))), (2, .ref (L (30, 0, 0))), (3, .ref (L (54, 0, 0))), (4, .int (nI (5 * i))), (5, .int (nI 0))]) ⟨rfl, rfl, rfl, rfl, rfl, rfl, trivial⟩ ?_
    refine k_aload_n X dL_law_1317 rfl rfl ?_
    refine k_aload_n X dL_law_1318 rfl rfl ?_
    refine k_iload X dL_law_1319 rfl ?_
    refine k_iconst (v := nI 1) X dL_law_1321 (by decide) ?_
    refine k_iaddN X dL_law_1322 ?_
    refine rd _ _ _ _ _ _ _ _ (show 5 * i + 1 < n by omega) dL_law_1323 ?_
    refine k_rw (y := (nI d)) ep1 ?_
    refine k_callV (rest := []) X kv_X6_pile kb_633 (m_pile X.tr hM2 (Nat.le_trans hs.q21 (by decide)) hs.h22 (nI d)) hM2.1 rfl rfl rfl rfl rfl (Nat.le_of_ble_eq_true rfl) ⟨by rw [hR]; exact Nat.le_of_ble_eq_true rfl, by rw [hR]; exact Nat.le_of_ble_eq_true rfl⟩ ⟨by rw [hR]; exact (show cells + 1 + 0 ≤ 601024 by omega), by rw [hR]; exact (show slots + 6 + 0 ≤ 7293034 by omega)⟩ dL_law_1324 (fun v C8 L8 g9 => ?_)
    obtain ⟨hcs, rfl, hFm⟩ := g9
    rcases hcs with ⟨d2, b1, e2, rfl, hM3⟩ | ⟨y, rfl, hM3⟩
    ·
      refine k_istore X dL_law_1327 (by rw [hN]; decide) ?_
      have ej := nI_d e2 hd b1
      subst ej
      refine k_lo (lo' := [(0, .ref b), (1, .ref (L (1, 0, 0))), (2, .ref (L (30, 0, 0))), (3, .ref (L (54, 0, 0))), (4, .int (nI (5 * i))), (5, .int (nI 0)), (6, .int _)]) ⟨rfl, rfl, rfl, rfl, rfl, rfl, rfl, trivial⟩ ?_
      exact lw_tailOk K2 hM3 (hF2.fm hFm) (hf9.trans (congrArg Int32.toInt64 (congrArg nI (hs.2.2.2.2.2.1.2.1 d hd).1))) (by omega) (by omega) dL_law_1329 dL_law_1330 dL_law_1333 dL_law_1335 dL_law_1340 dL_law_1342 dL_law_1345 dL_law_1346 dL_law_1347 dL_law_1348 dL_law_1350 dL_law_1351 dL_law_1352 dL_law_1357 (by decide) (k _ _ S N M Q _ _ ⟨hX2.fm hFm, ⟨_, hM3⟩, ⟨_, hF2.fm hFm⟩, hs, hz⟩ (by omega) (by omega) (by omega))
    ·
      exact absurd (kix.of hd (by decide)) y
  ·
    have hX2 := hX
    have hM2 := hM
    have hF2 := hF
    refine k_istore X dL_law_1315 (by rw [hN]; decide) ?_
    refine k_lo (lo' := [(0, .ref b), (1, .ref (L (1, 0, 0))), (2, .ref (L (30, 0, 0))), (3, .ref (L (54, 0, 0))), (4, .int (nI (5 * i))), (5, .int (nI 1))]) ⟨rfl, rfl, rfl, rfl, rfl, rfl, trivial⟩ ?_
    refine k_aload_n X dL_law_1317 rfl rfl ?_
    refine k_aload_n X dL_law_1318 rfl rfl ?_
    refine k_iload X dL_law_1319 rfl ?_
    refine k_iconst (v := nI 1) X dL_law_1321 (by decide) ?_
    refine k_iaddN X dL_law_1322 ?_
    refine rd _ _ _ _ _ _ _ _ (show 5 * i + 1 < n by omega) dL_law_1323 ?_
    refine k_rw (y := p1) ep1 ?_
    refine k_callV (rest := []) X kv_X6_pile kb_633 (m_pile X.tr hM2 (Nat.le_trans hs.q21 (by decide)) hs.h22 p1) hM2.1 rfl rfl rfl rfl rfl (Nat.le_of_ble_eq_true rfl) ⟨by rw [hR]; exact Nat.le_of_ble_eq_true rfl, by rw [hR]; exact Nat.le_of_ble_eq_true rfl⟩ ⟨by rw [hR]; exact (show cells + 1 + 0 ≤ 601024 by omega), by rw [hR]; exact (show slots + 6 + 0 ≤ 7293034 by omega)⟩ dL_law_1324 (fun v C8 L8 g9 => ?_)
    obtain ⟨hcs, rfl, hFm⟩ := g9
    rcases hcs with ⟨d2, b1, e2, rfl, hM3⟩ | ⟨y, rfl, hM3⟩
    ·
      exact absurd (by rw [e2]; exact kix.of b1 (by decide)) z
    ·
      refine k_istore X dL_law_1327 (by rw [hN]; decide) ?_
      refine k_lo (lo' := [(0, .ref b), (1, .ref (L (1, 0, 0))), (2, .ref (L (30, 0, 0))), (3, .ref (L (54, 0, 0))), (4, .int (nI (5 * i))), (5, .int (nI 1)), (6, .int (nI 0))]) ⟨rfl, rfl, rfl, rfl, rfl, rfl, rfl, trivial⟩ ?_
      exact lw_tailEx K2 (j := 1) (w := 15) (by decide) hM3 (by omega) (by omega) dL_law_1329 dL_law_1330 dL_law_1333 dL_law_1335 dL_law_1340 dL_law_1342 dL_law_1357 (by decide) (k _ _ S N M Q _ _ ⟨hX2.fm hFm, ⟨_, hM3⟩, ⟨_, hF2.fm hFm⟩, hs, hz⟩ (by omega) (by omega) (by omega))

set_option maxHeartbeats 4000000 in
set_option maxRecDepth 100000 in
theorem lw_reason {Γ : kG} {E : kE} {A : Nat → Prop} {b n : Nat} {xs : Nat → Int32} (K : kLc Γ E A b n xs) {C : kC} {L : kL} {S : kI4} {N : kN3} {M : kM2} {Q : kQ2} (W : kLw E C L S N M Q) {i cells slots : Nat} (hi : 5 * i + 5 ≤ n) (hi5 : i < 512) (hq : Q 14 0 ≤ i) (hc : cells + 1000 ≤ 601024) (hs9 : slots + 100000 ≤ 7293034) (k : ∀ (C' : kC) (L' : kL) (S' : kI4) (N' : kN3) (M' : kM2) (Q' : kQ2) (cells' slots' : Nat), kLw E C' L' S' N' M' Q' → Q' 14 0 ≤ i + 1 → cells' + 6 * kSn N ≤ cells + 130 + 6 * kSn N' → slots' + 900 * kSn N ≤ slots + 4000 + 900 * kSn N' → kW Γ E A C' L' cells' slots' 1509 (kLo b L' i) []) : kW Γ E A C L cells slots 1360 (kLo b L i) [] := by
  have K2 := K
  obtain ⟨X, hN, hR, rd, ln, rt⟩ := K
  obtain ⟨hX, ⟨R, hM⟩, ⟨f8, hF⟩, hs, hz⟩ := W
  have h1 : Q 1 0 = N 1 0 0 := hs.1.1
  have hn40 : N 1 0 0 ≤ 40 := hs.1.2.1
  have kj : ∀ x, kix x (Q 1 0) ↔ kix x (N 1 0 0) := fun x => by rw [h1]
  obtain ⟨p1, ep1⟩ : ∃ p, xs (5 * i + 1) = p := ⟨_, rfl⟩
  obtain ⟨p2, ep2⟩ : ∃ p, xs (5 * i + 2) = p := ⟨_, rfl⟩
  refine k_aload_n X dL_law_1360 rfl rfl ?_
  refine k_aload_n X dL_law_1361 rfl rfl ?_
  refine k_iload X dL_law_1362 rfl ?_
  refine k_iconst (v := nI 1) X dL_law_1364 (by decide) ?_
  refine k_iaddN X dL_law_1365 ?_
  refine rd _ _ _ _ _ _ _ _ (show 5 * i + 1 < n by omega) dL_law_1366 ?_
  refine k_rw (y := p1) ep1 ?_
  refine k_aload_n X dL_law_1367 rfl rfl ?_
  refine k_iload X dL_law_1368 rfl ?_
  refine k_iconst (v := nI 2) X dL_law_1370 (by decide) ?_
  refine k_iaddN X dL_law_1371 ?_
  refine rd _ _ _ _ _ _ _ _ (show 5 * i + 2 < n by omega) dL_law_1372 ?_
  refine k_rw (y := p2) ep2 ?_
  refine k_aload_n X dL_law_1373 rfl rfl ?_
  refine k_callSH (rest := []) X ksh_reason kb_641 (h_reason X.tr hX hs.ok hF p1 p2) rfl rfl (Nat.le_of_ble_eq_true rfl) ⟨by rw [hR]; exact Nat.le_of_ble_eq_true rfl, by rw [hR]; exact Nat.le_of_ble_eq_true rfl⟩ ⟨by rw [hR]; exact (show cells + 2 ≤ 601024 by omega), by rw [hR]; exact (show slots + 12 ≤ 7293034 by omega)⟩ dL_law_1374 (fun v C9 L9 h9 => ?_)
  rcases h9 with ⟨rv, C1, f9, hp, rfl, rfl, hf9⟩ | ⟨rfl, z, rfl, rfl⟩
  ·
    obtain ⟨⟨d, hd, rfl, i2, a2, rfl, ⟨⟩⟩, rfl, rfl⟩ := hp
    have hX2 := hX.k54 (e := some (.inl (E.2.1 2, 1, .inr (.inl f9))))
    have hM2 := hM.k54 (e := some (.inl (E.2.1 2, 1, .inr (.inl f9))))
    have hF2 : kOt E (kup C (54, 0, 0) (some (.inl (E.2.1 2, 1, .inr (.inl f9))))) f9 := kup_s
    refine k_istore X dL_law_1377 (by rw [hN]; decide) ?_
    refine k_lo (lo' := [(0, .ref b), (1, .ref (L (1, 0, 0))), (2, .ref (L (30, 0, 0))), (3, .ref (L (54, 0, 0))), (4, .int (nI (5 * i))), (5, .int (nI 0))]) ⟨rfl, rfl, rfl, rfl, rfl, rfl, trivial⟩ ?_
    refine k_aload_n X dL_law_1379 rfl rfl ?_
    refine k_aload_n X dL_law_1380 rfl rfl ?_
    refine k_iload X dL_law_1381 rfl ?_
    refine k_iconst (v := nI 1) X dL_law_1383 (by decide) ?_
    refine k_iaddN X dL_law_1384 ?_
    refine rd _ _ _ _ _ _ _ _ (show 5 * i + 1 < n by omega) dL_law_1385 ?_
    refine k_rw (y := (nI d)) ep1 ?_
    refine k_aload_n X dL_law_1386 rfl rfl ?_
    refine k_iload X dL_law_1387 rfl ?_
    refine k_iconst (v := nI 2) X dL_law_1389 (by decide) ?_
    refine k_iaddN X dL_law_1390 ?_
    refine rd _ _ _ _ _ _ _ _ (show 5 * i + 2 < n by omega) dL_law_1391 ?_
    refine k_rw (y := (nI i2)) ep2 ?_
    refine k_callV (rest := []) X kv_X6_reason kb_654 (m_reason X.tr hM2 (Nat.le_trans hs.q21 (by decide)) hs.h22 (nI d) (nI i2)) hM2.1 rfl rfl rfl rfl rfl (Nat.le_of_ble_eq_true rfl) ⟨by rw [hR]; exact Nat.le_of_ble_eq_true rfl, by rw [hR]; exact Nat.le_of_ble_eq_true rfl⟩ ⟨by rw [hR]; exact (show cells + 2 + 0 ≤ 601024 by omega), by rw [hR]; exact (show slots + 12 + 0 ≤ 7293034 by omega)⟩ dL_law_1392 (fun v C8 L8 g9 => ?_)
    obtain ⟨hcs, rfl, hFm⟩ := g9
    rcases hcs with ⟨d2, b1, e2, r, r1, r2, r3, rfl, hM3⟩ | ⟨y, rfl, hM3⟩ | ⟨d2, b1, e2, y, rfl, hM3⟩
    ·
      refine k_istore X dL_law_1395 (by rw [hN]; decide) ?_
      have ej := nI_d e2 hd b1
      subst ej
      refine k_lo (lo' := [(0, .ref b), (1, .ref (L (1, 0, 0))), (2, .ref (L (30, 0, 0))), (3, .ref (L (54, 0, 0))), (4, .int (nI (5 * i))), (5, .int (nI 0)), (6, .int _)]) ⟨rfl, rfl, rfl, rfl, rfl, rfl, rfl, trivial⟩ ?_
      exact lw_tailOk K2 hM3 (hF2.fm hFm) (hf9.trans (congrArg Int32.toInt64 (hs.rf hd r1 r2 a2 r3).1.symm)) (by omega) (by omega) dL_law_1397 dL_law_1398 dL_law_1401 dL_law_1403 dL_law_1408 dL_law_1410 dL_law_1413 dL_law_1414 dL_law_1415 dL_law_1416 dL_law_1418 dL_law_1419 dL_law_1420 dL_law_1425 (by decide) (k _ _ S N M Q _ _ ⟨hX2.fm hFm, ⟨_, hM3⟩, ⟨_, hF2.fm hFm⟩, hs, hz⟩ (by omega) (by omega) (by omega))
    ·
      exact absurd (kix.of hd (by decide)) y
    ·
      have ej := nI_d e2 hd b1
      subst ej
      exact (hs.rfEx hd a2 y).elim
  ·
    have hX2 := hX
    have hM2 := hM
    have hF2 := hF
    refine k_istore X dL_law_1377 (by rw [hN]; decide) ?_
    refine k_lo (lo' := [(0, .ref b), (1, .ref (L (1, 0, 0))), (2, .ref (L (30, 0, 0))), (3, .ref (L (54, 0, 0))), (4, .int (nI (5 * i))), (5, .int (nI 1))]) ⟨rfl, rfl, rfl, rfl, rfl, rfl, trivial⟩ ?_
    refine k_aload_n X dL_law_1379 rfl rfl ?_
    refine k_aload_n X dL_law_1380 rfl rfl ?_
    refine k_iload X dL_law_1381 rfl ?_
    refine k_iconst (v := nI 1) X dL_law_1383 (by decide) ?_
    refine k_iaddN X dL_law_1384 ?_
    refine rd _ _ _ _ _ _ _ _ (show 5 * i + 1 < n by omega) dL_law_1385 ?_
    refine k_rw (y := p1) ep1 ?_
    refine k_aload_n X dL_law_1386 rfl rfl ?_
    refine k_iload X dL_law_1387 rfl ?_
    refine k_iconst (v := nI 2) X dL_law_1389 (by decide) ?_
    refine k_iaddN X dL_law_1390 ?_
    refine rd _ _ _ _ _ _ _ _ (show 5 * i + 2 < n by omega) dL_law_1391 ?_
    refine k_rw (y := p2) ep2 ?_
    refine k_callV (rest := []) X kv_X6_reason kb_654 (m_reason X.tr hM2 (Nat.le_trans hs.q21 (by decide)) hs.h22 p1 p2) hM2.1 rfl rfl rfl rfl rfl (Nat.le_of_ble_eq_true rfl) ⟨by rw [hR]; exact Nat.le_of_ble_eq_true rfl, by rw [hR]; exact Nat.le_of_ble_eq_true rfl⟩ ⟨by rw [hR]; exact (show cells + 2 + 0 ≤ 601024 by omega), by rw [hR]; exact (show slots + 12 + 0 ≤ 7293034 by omega)⟩ dL_law_1392 (fun v C8 L8 g9 => ?_)
    obtain ⟨hcs, rfl, hFm⟩ := g9
    rcases hcs with ⟨d2, b1, e2, r, r1, r2, r3, rfl, hM3⟩ | ⟨y, rfl, hM3⟩ | ⟨d2, b1, e2, y, rfl, hM3⟩
    ·
      rcases z with z | ⟨d, hd, e, z⟩
      · exact absurd (by rw [e2]; exact kix.of b1 (by decide)) z
      · have ej := nI_d (e.symm.trans e2) hd b1
        subst ej
        exact absurd (hs.rfIx hd r1 r2 r3) z
    ·
      refine k_istore X dL_law_1395 (by rw [hN]; decide) ?_
      refine k_lo (lo' := [(0, .ref b), (1, .ref (L (1, 0, 0))), (2, .ref (L (30, 0, 0))), (3, .ref (L (54, 0, 0))), (4, .int (nI (5 * i))), (5, .int (nI 1)), (6, .int (nI 0))]) ⟨rfl, rfl, rfl, rfl, rfl, rfl, rfl, trivial⟩ ?_
      exact lw_tailEx K2 (j := 1) (w := 15) (by decide) hM3 (by omega) (by omega) dL_law_1397 dL_law_1398 dL_law_1401 dL_law_1403 dL_law_1408 dL_law_1410 dL_law_1425 (by decide) (k _ _ S N M Q _ _ ⟨hX2.fm hFm, ⟨_, hM3⟩, ⟨_, hF2.fm hFm⟩, hs, hz⟩ (by omega) (by omega) (by omega))
    ·
      refine k_istore X dL_law_1395 (by rw [hN]; decide) ?_
      refine k_lo (lo' := [(0, .ref b), (1, .ref (L (1, 0, 0))), (2, .ref (L (30, 0, 0))), (3, .ref (L (54, 0, 0))), (4, .int (nI (5 * i))), (5, .int (nI 1)), (6, .int (nI 0))]) ⟨rfl, rfl, rfl, rfl, rfl, rfl, rfl, trivial⟩ ?_
      exact lw_tailEx K2 (j := 1) (w := 15) (by decide) hM3 (by omega) (by omega) dL_law_1397 dL_law_1398 dL_law_1401 dL_law_1403 dL_law_1408 dL_law_1410 dL_law_1425 (by decide) (k _ _ S N M Q _ _ ⟨hX2.fm hFm, ⟨_, hM3⟩, ⟨_, hF2.fm hFm⟩, hs, hz⟩ (by omega) (by omega) (by omega))

set_option maxHeartbeats 4000000 in
set_option maxRecDepth 100000 in
theorem lw_refusedValue {Γ : kG} {E : kE} {A : Nat → Prop} {b n : Nat} {xs : Nat → Int32} (K : kLc Γ E A b n xs) {C : kC} {L : kL} {S : kI4} {N : kN3} {M : kM2} {Q : kQ2} (W : kLw E C L S N M Q) {i cells slots : Nat} (hi : 5 * i + 5 ≤ n) (hi5 : i < 512) (hq : Q 14 0 ≤ i) (hc : cells + 1000 ≤ 601024) (hs9 : slots + 100000 ≤ 7293034) (k : ∀ (C' : kC) (L' : kL) (S' : kI4) (N' : kN3) (M' : kM2) (Q' : kQ2) (cells' slots' : Nat), kLw E C' L' S' N' M' Q' → Q' 14 0 ≤ i + 1 → cells' + 6 * kSn N ≤ cells + 130 + 6 * kSn N' → slots' + 900 * kSn N ≤ slots + 4000 + 900 * kSn N' → kW Γ E A C' L' cells' slots' 1509 (kLo b L' i) []) : kW Γ E A C L cells slots 1428 (kLo b L i) [] := by
  have K2 := K
  obtain ⟨X, hN, hR, rd, ln, rt⟩ := K
  obtain ⟨hX, ⟨R, hM⟩, ⟨f8, hF⟩, hs, hz⟩ := W
  have h1 : Q 1 0 = N 1 0 0 := hs.1.1
  have hn40 : N 1 0 0 ≤ 40 := hs.1.2.1
  have kj : ∀ x, kix x (Q 1 0) ↔ kix x (N 1 0 0) := fun x => by rw [h1]
  obtain ⟨p1, ep1⟩ : ∃ p, xs (5 * i + 1) = p := ⟨_, rfl⟩
  obtain ⟨p2, ep2⟩ : ∃ p, xs (5 * i + 2) = p := ⟨_, rfl⟩
  refine k_aload_n X dL_law_1428 rfl rfl ?_
  refine k_aload_n X dL_law_1429 rfl rfl ?_
  refine k_iload X dL_law_1430 rfl ?_
  refine k_iconst (v := nI 1) X dL_law_1432 (by decide) ?_
  refine k_iaddN X dL_law_1433 ?_
  refine rd _ _ _ _ _ _ _ _ (show 5 * i + 1 < n by omega) dL_law_1434 ?_
  refine k_rw (y := p1) ep1 ?_
  refine k_aload_n X dL_law_1435 rfl rfl ?_
  refine k_iload X dL_law_1436 rfl ?_
  refine k_iconst (v := nI 2) X dL_law_1438 (by decide) ?_
  refine k_iaddN X dL_law_1439 ?_
  refine rd _ _ _ _ _ _ _ _ (show 5 * i + 2 < n by omega) dL_law_1440 ?_
  refine k_rw (y := p2) ep2 ?_
  refine k_aload_n X dL_law_1441 rfl rfl ?_
  refine k_callSH (rest := []) X ksh_refusedValue kb_662 (h_refusedValue X.tr hX hs.ok hF p1 p2) rfl rfl (Nat.le_of_ble_eq_true rfl) ⟨by rw [hR]; exact Nat.le_of_ble_eq_true rfl, by rw [hR]; exact Nat.le_of_ble_eq_true rfl⟩ ⟨by rw [hR]; exact (show cells + 2 ≤ 601024 by omega), by rw [hR]; exact (show slots + 12 ≤ 7293034 by omega)⟩ dL_law_1442 (fun v C9 L9 h9 => ?_)
  rcases h9 with ⟨rv, C1, f9, hp, rfl, rfl, hf9⟩ | ⟨rfl, z, rfl, rfl⟩
  ·
    obtain ⟨⟨d, hd, rfl, i2, a2, rfl, ⟨⟩⟩, rfl, rfl⟩ := hp
    have hX2 := hX.k54 (e := some (.inl (E.2.1 2, 1, .inr (.inl f9))))
    have hM2 := hM.k54 (e := some (.inl (E.2.1 2, 1, .inr (.inl f9))))
    have hF2 : kOt E (kup C (54, 0, 0) (some (.inl (E.2.1 2, 1, .inr (.inl f9))))) f9 := kup_s
    refine k_istore X dL_law_1445 (by rw [hN]; decide) ?_
    refine k_lo (lo' := [(0, .ref b), (1, .ref (L (1, 0, 0))), (2, .ref (L (30, 0, 0))), (3, .ref (L (54, 0, 0))), (4, .int (nI (5 * i))), (5, .int (nI 0))]) ⟨rfl, rfl, rfl, rfl, rfl, rfl, trivial⟩ ?_
    refine k_aload_n X dL_law_1447 rfl rfl ?_
    refine k_aload_n X dL_law_1448 rfl rfl ?_
    refine k_iload X dL_law_1449 rfl ?_
    refine k_iconst (v := nI 1) X dL_law_1451 (by decide) ?_
    refine k_iaddN X dL_law_1452 ?_
    refine rd _ _ _ _ _ _ _ _ (show 5 * i + 1 < n by omega) dL_law_1453 ?_
    refine k_rw (y := (nI d)) ep1 ?_
    refine k_aload_n X dL_law_1454 rfl rfl ?_
    refine k_iload X dL_law_1455 rfl ?_
    refine k_iconst (v := nI 2) X dL_law_1457 (by decide) ?_
    refine k_iaddN X dL_law_1458 ?_
    refine rd _ _ _ _ _ _ _ _ (show 5 * i + 2 < n by omega) dL_law_1459 ?_
    refine k_rw (y := (nI i2)) ep2 ?_
    refine k_callV (rest := []) X kv_X6_refusedValue kb_669 (m_refusedValue X.tr hM2 (Nat.le_trans hs.q21 (by decide)) hs.h22 (nI d) (nI i2)) hM2.1 rfl rfl rfl rfl rfl (Nat.le_of_ble_eq_true rfl) ⟨by rw [hR]; exact Nat.le_of_ble_eq_true rfl, by rw [hR]; exact Nat.le_of_ble_eq_true rfl⟩ ⟨by rw [hR]; exact (show cells + 2 + 0 ≤ 601024 by omega), by rw [hR]; exact (show slots + 12 + 0 ≤ 7293034 by omega)⟩ dL_law_1460 (fun v C8 L8 g9 => ?_)
    obtain ⟨hcs, rfl, hFm⟩ := g9
    rcases hcs with ⟨d2, b1, e2, r, r1, r2, r3, rfl, hM3⟩ | ⟨y, rfl, hM3⟩ | ⟨d2, b1, e2, y, rfl, hM3⟩
    ·
      refine k_istore X dL_law_1463 (by rw [hN]; decide) ?_
      have ej := nI_d e2 hd b1
      subst ej
      refine k_lo (lo' := [(0, .ref b), (1, .ref (L (1, 0, 0))), (2, .ref (L (30, 0, 0))), (3, .ref (L (54, 0, 0))), (4, .int (nI (5 * i))), (5, .int (nI 0)), (6, .int _)]) ⟨rfl, rfl, rfl, rfl, rfl, rfl, rfl, trivial⟩ ?_
      exact lw_tailOk K2 hM3 (hF2.fm hFm) (hf9.trans (congrArg Int32.toInt64 (hs.rf hd r1 r2 a2 r3).2.symm)) (by omega) (by omega) dL_law_1465 dL_law_1466 dL_law_1469 dL_law_1471 dL_law_1476 dL_law_1478 dL_law_1481 dL_law_1482 dL_law_1483 dL_law_1484 dL_law_1486 dL_law_1487 dL_law_1488 dL_law_1493 (by decide) (k _ _ S N M Q _ _ ⟨hX2.fm hFm, ⟨_, hM3⟩, ⟨_, hF2.fm hFm⟩, hs, hz⟩ (by omega) (by omega) (by omega))
    ·
      exact absurd (kix.of hd (by decide)) y
    ·
      have ej := nI_d e2 hd b1
      subst ej
      exact (hs.rfEx hd a2 y).elim
  ·
    have hX2 := hX
    have hM2 := hM
    have hF2 := hF
    refine k_istore X dL_law_1445 (by rw [hN]; decide) ?_
    refine k_lo (lo' := [(0, .ref b), (1, .ref (L (1, 0, 0))), (2, .ref (L (30, 0, 0))), (3, .ref (L (54, 0, 0))), (4, .int (nI (5 * i))), (5, .int (nI 1))]) ⟨rfl, rfl, rfl, rfl, rfl, rfl, trivial⟩ ?_
    refine k_aload_n X dL_law_1447 rfl rfl ?_
    refine k_aload_n X dL_law_1448 rfl rfl ?_
    refine k_iload X dL_law_1449 rfl ?_
    refine k_iconst (v := nI 1) X dL_law_1451 (by decide) ?_
    refine k_iaddN X dL_law_1452 ?_
    refine rd _ _ _ _ _ _ _ _ (show 5 * i + 1 < n by omega) dL_law_1453 ?_
    refine k_rw (y := p1) ep1 ?_
    refine k_aload_n X dL_law_1454 rfl rfl ?_
    refine k_iload X dL_law_1455 rfl ?_
    refine k_iconst (v := nI 2) X dL_law_1457 (by decide) ?_
    refine k_iaddN X dL_law_1458 ?_
    refine rd _ _ _ _ _ _ _ _ (show 5 * i + 2 < n by omega) dL_law_1459 ?_
    refine k_rw (y := p2) ep2 ?_
    refine k_callV (rest := []) X kv_X6_refusedValue kb_669 (m_refusedValue X.tr hM2 (Nat.le_trans hs.q21 (by decide)) hs.h22 p1 p2) hM2.1 rfl rfl rfl rfl rfl (Nat.le_of_ble_eq_true rfl) ⟨by rw [hR]; exact Nat.le_of_ble_eq_true rfl, by rw [hR]; exact Nat.le_of_ble_eq_true rfl⟩ ⟨by rw [hR]; exact (show cells + 2 + 0 ≤ 601024 by omega), by rw [hR]; exact (show slots + 12 + 0 ≤ 7293034 by omega)⟩ dL_law_1460 (fun v C8 L8 g9 => ?_)
    obtain ⟨hcs, rfl, hFm⟩ := g9
    rcases hcs with ⟨d2, b1, e2, r, r1, r2, r3, rfl, hM3⟩ | ⟨y, rfl, hM3⟩ | ⟨d2, b1, e2, y, rfl, hM3⟩
    ·
      rcases z with z | ⟨d, hd, e, z⟩
      · exact absurd (by rw [e2]; exact kix.of b1 (by decide)) z
      · have ej := nI_d (e.symm.trans e2) hd b1
        subst ej
        exact absurd (hs.rfIx hd r1 r2 r3) z
    ·
      refine k_istore X dL_law_1463 (by rw [hN]; decide) ?_
      refine k_lo (lo' := [(0, .ref b), (1, .ref (L (1, 0, 0))), (2, .ref (L (30, 0, 0))), (3, .ref (L (54, 0, 0))), (4, .int (nI (5 * i))), (5, .int (nI 1)), (6, .int (nI 0))]) ⟨rfl, rfl, rfl, rfl, rfl, rfl, rfl, trivial⟩ ?_
      exact lw_tailEx K2 (j := 1) (w := 15) (by decide) hM3 (by omega) (by omega) dL_law_1465 dL_law_1466 dL_law_1469 dL_law_1471 dL_law_1476 dL_law_1478 dL_law_1493 (by decide) (k _ _ S N M Q _ _ ⟨hX2.fm hFm, ⟨_, hM3⟩, ⟨_, hF2.fm hFm⟩, hs, hz⟩ (by omega) (by omega) (by omega))
    ·
      refine k_istore X dL_law_1463 (by rw [hN]; decide) ?_
      refine k_lo (lo' := [(0, .ref b), (1, .ref (L (1, 0, 0))), (2, .ref (L (30, 0, 0))), (3, .ref (L (54, 0, 0))), (4, .int (nI (5 * i))), (5, .int (nI 1)), (6, .int (nI 0))]) ⟨rfl, rfl, rfl, rfl, rfl, rfl, rfl, trivial⟩ ?_
      exact lw_tailEx K2 (j := 1) (w := 15) (by decide) hM3 (by omega) (by omega) dL_law_1465 dL_law_1466 dL_law_1469 dL_law_1471 dL_law_1476 dL_law_1478 dL_law_1493 (by decide) (k _ _ S N M Q _ _ ⟨hX2.fm hFm, ⟨_, hM3⟩, ⟨_, hF2.fm hFm⟩, hs, hz⟩ (by omega) (by omega) (by omega))

set_option maxHeartbeats 4000000 in
set_option maxRecDepth 100000 in
theorem lw_done {Γ : kG} {E : kE} {A : Nat → Prop} {b n : Nat} {xs : Nat → Int32} (K : kLc Γ E A b n xs) {C : kC} {L : kL} {S : kI4} {N : kN3} {M : kM2} {Q : kQ2} (W : kLw E C L S N M Q) {i cells slots : Nat} (hi : 5 * i + 5 ≤ n) (hi5 : i < 512) (hq : Q 14 0 ≤ i) (hc : cells + 1000 ≤ 601024) (hs9 : slots + 100000 ≤ 7293034) (k : ∀ (C' : kC) (L' : kL) (S' : kI4) (N' : kN3) (M' : kM2) (Q' : kQ2) (cells' slots' : Nat), kLw E C' L' S' N' M' Q' → Q' 14 0 ≤ i + 1 → cells' + 6 * kSn N ≤ cells + 130 + 6 * kSn N' → slots' + 900 * kSn N ≤ slots + 4000 + 900 * kSn N' → kW Γ E A C' L' cells' slots' 1509 (kLo b L' i) []) : kW Γ E A C L cells slots 1496 (kLo b L i) [] := by
  obtain ⟨X, hN, hR, rd, ln, rt⟩ := K
  obtain ⟨hX, ⟨R, hM⟩, ⟨f8, hF⟩, hs, hz⟩ := W
  refine k_aload_n X dL_law_1496 rfl rfl ?_
  refine k_callV (rest := []) X kv_X5_done kb_673 (c_done X.tr hX hs.ok) hX.1.1.1 rfl rfl rfl rfl rfl (Nat.le_of_ble_eq_true rfl) ⟨by rw [hR]; exact Nat.le_of_ble_eq_true rfl, by rw [hR]; exact Nat.le_of_ble_eq_true rfl⟩ ⟨by rw [hR]; exact (show cells + 0 ≤ 601024 by omega), by rw [hR]; exact (show slots + 0 ≤ 7293034 by omega)⟩ dL_law_1497 (fun v C9 L9 h9 => ?_)
  obtain ⟨rfl, rfl, rfl⟩ := h9
  refine k_aload_n X dL_law_1500 rfl rfl ?_
  refine k_callV (rest := [.int _]) X kv_X6_done kb_677 (m_done X.tr hM) hM.1 rfl rfl rfl rfl rfl (Nat.le_of_ble_eq_true rfl) ⟨by rw [hR]; exact Nat.le_of_ble_eq_true rfl, by rw [hR]; exact Nat.le_of_ble_eq_true rfl⟩ ⟨by rw [hR]; exact (show cells + 0 + 0 ≤ 601024 by omega), by rw [hR]; exact (show slots + 0 + 0 ≤ 7293034 by omega)⟩ dL_law_1501 (fun v C8 L8 g9 => ?_)
  obtain ⟨rfl, rfl, hFm, hM3⟩ := g9
  refine k_icmp_eq (tgt := 1509) X dL_law_1504 (by decide) (fun c6 => ?_) (fun c6 => absurd hs.2.2.2.2.2.2 c6)
  exact k _ _ S N M Q _ _ ⟨hX.fm hFm, ⟨_, hM3⟩, ⟨_, hF.fm hFm⟩, hs, hz⟩ (by omega) (by omega) (by omega)
