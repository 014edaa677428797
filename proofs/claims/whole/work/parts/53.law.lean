theorem isX.fm {E : kE} {C C' : kC} {L : kL} {S : kI4} {N : kN3} (h : isX E C L S N) (hm : kFm C C') : isX E C' L S N := by
  refine ⟨h.1.keep (fun f i hf => hm _ (show f < 30 ∨ 53 < f by omega)) (fun _ _ _ => rfl) (fun _ _ _ _ => rfl) rfl, fun d hd => (h.2 d hd).keep (fun f k h1 h2 h3 h4 => hm _ (show f < 30 ∨ 53 < f by omega)) (fun _ _ _ _ _ _ => rfl) (fun _ _ _ _ _ => rfl) (fun _ _ _ _ => rfl)⟩
theorem isX.k54 {E : kE} {C : kC} {L : kL} {S : kI4} {N : kN3} {e : Option va_E} (h : isX E C L S N) : isX E (kup C (54, 0, 0) e) L S N := by
  refine ⟨h.1.keep (fun f i hf => kup_n (kne1 (by omega))) (fun _ _ _ => rfl) (fun _ _ _ _ => rfl) rfl, fun d hd => (h.2 d hd).keep (fun f k h1 h2 h3 h4 => kup_n (kne1 (by omega))) (fun _ _ _ _ _ _ => rfl) (fun _ _ _ _ _ => rfl) (fun _ _ _ _ => rfl)⟩
theorem kFr.m {E : kE} {C C' : kC} {L L' : kL} {R : Int32} {M : kM2} {Q : kQ2} (h : kFr C L C' L') (hM : isM E C L R M Q) : isM E C' L' R M Q := hM.keep (fun t h1 _ => (h t h1).1) (fun t h1 _ => (h t h1).2)
theorem isM.k54 {E : kE} {C : kC} {L : kL} {R : Int32} {M : kM2} {Q : kQ2} {e : Option va_E} (h : isM E C L R M Q) : isM E (kup C (54, 0, 0) e) L R M Q := h.keep (fun t _ h2 => kup_n (fun z => by rw [z] at h2; exact absurd h2 (by show ¬ 54 ≤ 53; decide))) (fun _ _ _ => rfl)
def kOt (E : kE) (C : kC) (f : Nat → Int64) : Prop := C (54, 0, 0) = some (.inl (E.2.1 2, 1, .inr (.inl f)))
theorem kOt.fm {E : kE} {C C' : kC} {f : Nat → Int64} (h : kOt E C f) (hm : kFm C C') : kOt E C' f := (hm (54, 0, 0) (show 54 < 30 ∨ 53 < 54 by decide)).trans h
/-- class and reference beside each other -/
def kLw (E : kE) (C : kC) (L : kL) (S : kI4) (N : kN3) (M : kM2) (Q : kQ2) : Prop := isX E C L S N ∧ (∃ R, isM E C L R M Q) ∧ (∃ f, kOt E C f) ∧ kSim S N M Q ∧ kZ M
def kSn (N : kN3) : Nat := N 4 0 0 + N 4 1 0 + N 4 2 0 + N 4 3 0
theorem kSn.cg {N N' : kN3} (h : ∀ d, N' 4 d 0 = N 4 d 0) : kSn N' = kSn N := by
  unfold kSn
  rw [h 0, h 1, h 2, h 3]
theorem kSn.up {N N' : kN3} {d n : Nat} (hd : d < 4) (h : N' 4 d 0 = N 4 d 0 + n) (ho : ∀ e, e ≠ d → N' 4 e 0 = N 4 e 0) : kSn N' = kSn N + n := by
  unfold kSn
  rcases (show d = 0 ∨ d = 1 ∨ d = 2 ∨ d = 3 by omega) with rfl | rfl | rfl | rfl
  · rw [h, ho 1 (by decide), ho 2 (by decide), ho 3 (by decide)]
    omega
  · rw [h, ho 0 (by decide), ho 2 (by decide), ho 3 (by decide)]
    omega
  · rw [h, ho 0 (by decide), ho 1 (by decide), ho 3 (by decide)]
    omega
  · rw [h, ho 0 (by decide), ho 1 (by decide), ho 2 (by decide)]
    omega
theorem kSim.sn {S : kI4} {N : kN3} {M : kM2} {Q : kQ2} (h : kSim S N M Q) : kSn N ≤ 2048 := by
  have z : ∀ d, d < 4 → N 4 d 0 ≤ 512 := fun d hd => Nat.le_trans (h.2.2.2.2.1.2.1 d hd).2 (Nat.le_trans (h.n3 d hd) h.q14)
  have z0 := z 0 (by decide)
  have z1 := z 1 (by decide)
  have z2 := z 2 (by decide)
  have z3 := z 3 (by decide)
  unfold kSn
  omega
abbrev kLo (b : Nat) (L : kL) (i : Nat) : List (Nat × Value) := [(0, .ref b), (1, .ref (L (1, 0, 0))), (2, .ref (L (30, 0, 0))), (3, .ref (L (54, 0, 0))), (4, .int (nI (5 * i)))]
/-- the law's own frame: its code, the script, its end -/
def kLc (Γ : kG) (E : kE) (A : Nat → Prop) (b n : Nat) (xs : Nat → Int32) : Prop :=
  kX Γ E A cL_law RL ∧ kNl Γ = 7 ∧ kRm Γ = room_1 ∧
  (∀ (C : kC) (L : kL) (cells slots pc : Nat) (lo : List (Nat × Value)) (rest : List Value) (i : Nat), i < n → decode cL_law pc = .ok (.iaload, 1) → kW Γ E A C L cells slots (pc + 1) lo (.int (xs i) :: rest) → kW Γ E A C L cells slots pc lo (.int (nI i) :: .ref b :: rest)) ∧
  (∀ (C : kC) (L : kL) (cells slots pc : Nat) (lo : List (Nat × Value)) (rest : List Value), decode cL_law pc = .ok (.arraylength, 1) → kW Γ E A C L cells slots (pc + 1) lo (.int (nI n) :: rest) → kW Γ E A C L cells slots pc lo (.ref b :: rest)) ∧
  (∀ (C : kC) (L : kL) (cells slots pc : Nat) (lo : List (Nat × Value)), cells ≤ 601024 → slots ≤ 7293034 → decode cL_law pc = .ok (.ireturn, 1) → kW Γ E A C L cells slots pc lo [.int (nI 1)])
section KT
variable {Γ : kG} {E : kE} {A : Nat → Prop} {cc : ByteArray} {own : String} {C : kC} {L : kL} {cells slots pc : Nat} {lo : List (Nat × Value)} {rest : List Value}
theorem k_tableIn (X : kX Γ E A cc own) {dflt lo9 hi9 : Int} {offs : Array Int} {len : Nat} {x : Int32} {off : Int} {tgt : Nat} (hdg : decode cc pc = .ok (.tableswitch dflt lo9 hi9 offs, len)) (h1 : ¬ x.toInt < lo9) (h2 : ¬ hi9 < x.toInt) (ho : offs[(x.toInt - lo9).toNat]? = some off) (ht : (pc : Int) + off = (tgt : Int)) (k : kW Γ E A C L cells slots tgt lo rest) : kW Γ E A C L cells slots pc lo (.int x :: rest) := by
  obtain ⟨p, l, e, R, s, m, args, below, meth, c, Q, nL⟩ := Γ
  obtain ⟨hx, hb, hml, hown, hts, hAm, hlk, htr⟩ := X
  exact fun H locs ls hp hS hl => lv_tableIn hx hb hdg h1 h2 ho ht (k H locs ls hp hS hl)
theorem k_tableOut (X : kX Γ E A cc own) {dflt lo9 hi9 : Int} {offs : Array Int} {len : Nat} {x : Int32} {tgt : Nat} (hdg : decode cc pc = .ok (.tableswitch dflt lo9 hi9 offs, len)) (h : x.toInt < lo9 ∨ hi9 < x.toInt) (ht : (pc : Int) + dflt = (tgt : Int)) (k : kW Γ E A C L cells slots tgt lo rest) : kW Γ E A C L cells slots pc lo (.int x :: rest) := by
  obtain ⟨p, l, e, R, s, m, args, below, meth, c, Q, nL⟩ := Γ
  obtain ⟨hx, hb, hml, hown, hts, hAm, hlk, htr⟩ := X
  exact fun H locs ls hp hS hl => lv_tableOut hx hb hdg h ht (k H locs ls hp hS hl)
end KT
theorem lgc0 {x y : Int64} (h : x = y) : lg_cmp x y = 0 := by
  rw [h]
  simp [lg_cmp]
theorem kand31 (y : Int32) : ∃ n, n < 32 ∧ y &&& nI 31 = nI n := by
  refine ⟨(y &&& nI 31).toBitVec.toNat, ?_, ?_⟩
  · rw [Int32.toBitVec_and, BitVec.toNat_and]
    exact Nat.lt_of_le_of_lt Nat.and_le_right (by decide)
  · apply Int32.toBitVec_inj.mp
    show (y &&& nI 31).toBitVec = BitVec.ofNat 32 (y &&& nI 31).toBitVec.toNat
    simp
theorem ksw22 : ∀ n, n < 32 → 22 ≤ n → (21 : Int) < (nI n).toInt := by decide +kernel
/-- the loop's guard -/
theorem kgd {n i : Nat} (hn : n ≤ 2560) (hi : 5 * i ≤ 2560) : nI n - nI 5 < nI (5 * i) ↔ n < 5 * i + 5 := by
  by_cases h : 5 ≤ n
  · rw [pk_sub h, nI_ltI (by omega) (by omega)]
    omega
  · have z : nI n - nI 5 < 0 := by
      rcases (show n = 0 ∨ n = 1 ∨ n = 2 ∨ n = 3 ∨ n = 4 by omega) with rfl | rfl | rfl | rfl | rfl <;> decide
    exact ⟨fun _ => by omega, fun _ => Int32.lt_of_lt_of_le z (nI_pos' (by omega))⟩
/-- behind both calls: nothing was refused, the answers are the same -/
theorem lw_tailOk {Γ : kG} {E : kE} {A : Nat → Prop} {b n : Nat} {xs : Nat → Int32} (K : kLc Γ E A b n xs) {C : kC} {L : kL} {M : kM2} {Q : kQ2} {i cells slots : Nat} {mv : Int32} {f9 : Nat → Int64} {p0 : Nat} (hM : isM E C L (nI 0) M Q) (hF : kOt E C f9) (hv : f9 0 = mv.toInt64) (hc : cells ≤ 601024) (hs : slots ≤ 7293034)
    (d0 : decode cL_law p0 = .ok (.aload_n 2, 1)) (d1 : decode cL_law (p0 + 1) = .ok (.invokevirtual 90, 3)) (d4 : decode cL_law (p0 + 4) = .ok (.iload 5, 2)) (d6 : decode cL_law (p0 + 6) = .ok (.if_icmp .eq 5, 3)) (d11 : decode cL_law (p0 + 11) = .ok (.iload 5, 2)) (d13 : decode cL_law (p0 + 13) = .ok (.ifCond .ne 15, 3)) (d16 : decode cL_law (p0 + 16) = .ok (.aload_n 3, 1)) (d17 : decode cL_law (p0 + 17) = .ok (.iconst 0, 1)) (d18 : decode cL_law (p0 + 18) = .ok (.laload, 1)) (d19 : decode cL_law (p0 + 19) = .ok (.iload 6, 2)) (d21 : decode cL_law (p0 + 21) = .ok (.i2l, 1)) (d22 : decode cL_law (p0 + 22) = .ok (.lcmp, 1)) (d23 : decode cL_law (p0 + 23) = .ok (.ifCond .eq 5, 3)) {off : Int} (d28 : decode cL_law (p0 + 28) = .ok (.goto off, 3)) (ht : ((p0 + 28 : Nat) : Int) + off = ((1509 : Nat) : Int))
    (k : kW Γ E A C L cells slots 1509 (kLo b L i) []) : kW Γ E A C L cells slots p0 [(0, .ref b), (1, .ref (L (1, 0, 0))), (2, .ref (L (30, 0, 0))), (3, .ref (L (54, 0, 0))), (4, .int (nI (5 * i))), (5, .int (nI 0)), (6, .int mv)] [] := by
  obtain ⟨X, hN, hR, rd, ln, rt⟩ := K
  refine k_aload_n X d0 rfl rfl ?_
  refine k_callV (rest := []) X kv_X6_thrown kb_192 (m_thrown X.tr hM) hM.1 rfl rfl rfl rfl rfl (Nat.le_of_ble_eq_true rfl) ⟨by rw [hR]; exact Nat.le_of_ble_eq_true rfl, by rw [hR]; exact Nat.le_of_ble_eq_true rfl⟩ ⟨by rw [hR]; exact hc, by rw [hR]; exact hs⟩ d1 (fun v C9 L9 h9 => ?_)
  obtain ⟨rfl, rfl, rfl⟩ := h9
  refine k_iload X d4 rfl ?_
  refine k_icmp_eq (tgt := p0 + 11) X d6 (by omega) (fun c6 => ?_) (fun c6 => absurd rfl c6)
  refine k_iload X d11 rfl ?_
  refine k_if_ne (tgt := p0 + 28) X d13 (by omega) (fun c13 => absurd rfl c13) (fun c13 => ?_)
  refine k_aload_n X d16 rfl rfl ?_
  refine k_iconst (v := nI 0) X d17 (by decide) ?_
  refine k_lald (t := (54, 0, 0)) X hF rfl (vp_in_nI (by decide) (by decide)) d18 ?_
  refine k_iload X d19 rfl ?_
  refine k_i2l X d21 ?_
  refine k_lcmp X d22 ?_
  refine k_if_eq (tgt := p0 + 28) X d23 (by omega) (fun c23 => ?_) (fun c23 => absurd (lgc0 (by rw [show (nI 0).toNatClampNeg = 0 from by decide]; exact hv)) c23)
  refine k_goto (tgt := 1509) X d28 ht ?_
  exact k_lo (lo' := kLo b L i) ⟨rfl, rfl, rfl, rfl, rfl, trivial⟩ k
/-- behind both calls: both refuse, for the same reason -/
theorem lw_tailEx {Γ : kG} {E : kE} {A : Nat → Prop} {b n : Nat} {xs : Nat → Int32} (K : kLc Γ E A b n xs) {C : kC} {L : kL} {M : kM2} {Q : kQ2} {i cells slots : Nat} {mv : Int32} {p0 j w : Nat} (hj : 1 ≤ j ∧ j ≤ 3) (hM : isM E C L (nI j) M Q) (hc : cells ≤ 601024) (hs : slots ≤ 7293034)
    (d0 : decode cL_law p0 = .ok (.aload_n 2, 1)) (d1 : decode cL_law (p0 + 1) = .ok (.invokevirtual 90, 3)) (d4 : decode cL_law (p0 + 4) = .ok (.iload 5, 2)) (d6 : decode cL_law (p0 + 6) = .ok (.if_icmp .eq 5, 3)) (d11 : decode cL_law (p0 + 11) = .ok (.iload 5, 2)) (d13 : decode cL_law (p0 + 13) = .ok (.ifCond .ne (w : Int), 3)) {off : Int} (d28 : decode cL_law (p0 + 13 + w) = .ok (.goto off, 3)) (ht : ((p0 + 13 + w : Nat) : Int) + off = ((1509 : Nat) : Int))
    (k : kW Γ E A C L cells slots 1509 (kLo b L i) []) : kW Γ E A C L cells slots p0 [(0, .ref b), (1, .ref (L (1, 0, 0))), (2, .ref (L (30, 0, 0))), (3, .ref (L (54, 0, 0))), (4, .int (nI (5 * i))), (5, .int (nI j)), (6, .int mv)] [] := by
  obtain ⟨X, hN, hR, rd, ln, rt⟩ := K
  refine k_aload_n X d0 rfl rfl ?_
  refine k_callV (rest := []) X kv_X6_thrown kb_192 (m_thrown X.tr hM) hM.1 rfl rfl rfl rfl rfl (Nat.le_of_ble_eq_true rfl) ⟨by rw [hR]; exact Nat.le_of_ble_eq_true rfl, by rw [hR]; exact Nat.le_of_ble_eq_true rfl⟩ ⟨by rw [hR]; exact hc, by rw [hR]; exact hs⟩ d1 (fun v C9 L9 h9 => ?_)
  obtain ⟨rfl, rfl, rfl⟩ := h9
  refine k_iload X d4 rfl ?_
  refine k_icmp_eq (tgt := p0 + 11) X d6 (by omega) (fun c6 => ?_) (fun c6 => absurd rfl c6)
  refine k_iload X d11 rfl ?_
  refine k_if_ne (tgt := p0 + 13 + w) X d13 (by omega) (fun c13 => ?_) (fun c13 => absurd (nI_inj (show nI j = nI 0 from c13) (by omega) (by decide)) (by omega))
  refine k_goto (tgt := 1509) X d28 ht ?_
  exact k_lo (lo' := kLo b L i) ⟨rfl, rfl, rfl, rfl, rfl, trivial⟩ k
theorem kSim.hf {S : kI4} {N : kN3} {M : kM2} {Q : kQ2} (h : kSim S N M Q) {d : Nat} (hd : d < 4) {x r : Int32} {o : Option kT} (hf : kHf S N d x o) (hn : mNm M Q d x r) : (∃ k, k < N 2 d 0 ∧ x = nI (1000 + k) ∧ S 9 d k 0 = -1 ∧ r = nI (1000 + k) ∧ o = some (18, d, k)) ∨ (∃ n, n < N 1 0 0 ∧ r = nI n ∧ S 5 d n 0 = nI 1 ∧ o = some (16, d, n) ∧ (nI n = x ∨ ∃ k, k < N 2 d 0 ∧ x = nI (1000 + k) ∧ S 9 d k 0 ≠ -1 ∧ nI n = S 9 d k 0)) ∨ (o = none ∧ (∀ n, n < N 1 0 0 → r = nI n → S 5 d n 0 = nI 0) ∧ ∀ k, k < N 2 d 0 → r ≠ nI (1000 + k)) := by
  have hb : N 2 d 0 ≤ 512 := Nat.le_trans (h.n2 d hd) h.q14
  have hn40 : N 1 0 0 ≤ 40 := h.1.2.1
  obtain ⟨hq, -, -, h4, -⟩ := h.2.2.2.1 d hd
  have h3 := (h.2.2.1 d hd).2
  rcases hf with ⟨k, k1, k0, k2, rfl⟩ | ⟨hne, r2, hc, hcase⟩
  · refine Or.inl ⟨k, k1, k0, k2, ?_, rfl⟩
    rcases hn with ⟨i, i1, i2, i3, i4⟩ | ⟨_, i4⟩
    · rw [hq] at i1
      have e := kown_inj (k0.symm.trans i2) (by omega) (by omega)
      subst e
      rw [(h4 k k1).1] at i3
      exact absurd k2 i3
    · exact i4.trans k0
  · right
    have er : r2 = r ∧ (r = x ∨ ∃ k, k < N 2 d 0 ∧ x = nI (1000 + k) ∧ S 9 d k 0 ≠ -1 ∧ r = S 9 d k 0) ∧ ∀ k, k < N 2 d 0 → r ≠ nI (1000 + k) := by
      rcases hc with ⟨k, k1, k0, k2⟩ | ⟨k1, e2⟩
      · have k9 := hne k k1 k0
        have e : S 9 d k 0 = r := by
          rcases hn with ⟨i, i1, i2, i3, i4⟩ | ⟨i1, i4⟩
          · rw [hq] at i1
            have e := kown_inj (k0.symm.trans i2) (by omega) (by omega)
            subst e
            exact ((h4 k k1).1.symm).trans i4.symm
          · exact absurd ((h4 k k1).1.symm.trans (i1 k (by rw [hq]; exact k1) k0)) k9
        refine ⟨k2.trans e, Or.inr ⟨k, k1, k0, k9, e.symm⟩, fun j hj w => ?_⟩
        rcases (h4 k k1).2.1 with z | ⟨i, i1, i2⟩
        · exact k9 z
        · rw [← e, i2] at w
          have := nI_inj w (by omega) (by omega)
          omega
      · rcases hn with ⟨i, i1, i2, i3, i4⟩ | ⟨i1, i4⟩
        · rw [hq] at i1
          exact absurd i2 (k1 i i1)
        · exact ⟨e2.trans i4.symm, Or.inl i4, fun j hj w => k1 j hj (i4.symm.trans w)⟩
    obtain ⟨e1, e2, e3⟩ := er
    subst e1
    rcases hcase with ⟨n, n1, n2, n3, n4⟩ | ⟨n1, rfl⟩
    · rcases (h3 n n1).2 with z | ⟨z1, z2, z3, -⟩
      · exact absurd z n3
      · rcases n4 with ⟨-, rfl⟩ | ⟨w, -⟩
        · exact Or.inl ⟨n, z2, n2, z1, rfl, by rw [← n2]; exact e2⟩
        · exact absurd w z3
    · exact Or.inr ⟨rfl, fun n hn2 w => n1 n (by omega) w, e3⟩
theorem kSim.hs {S : kI4} {N : kN3} {M : kM2} {Q : kQ2} (h : kSim S N M Q) {d b : Nat} (hd : d < 4) {x : Int32} {o : Option kT} (hf : kHf S N d x o) (hh : mHs M Q d x b) : (o = none ∧ nI b = nI 0) ∨ ((∃ t, o = some t) ∧ nI b = nI 1) := by
  have hb : N 2 d 0 ≤ 512 := Nat.le_trans (h.n2 d hd) h.q14
  have hn40 : N 1 0 0 ≤ 40 := h.1.2.1
  have hq1 : Q 1 0 = N 1 0 0 := h.1.1
  have hq : Q 10 d = N 2 d 0 := (h.2.2.2.1 d hd).1
  obtain ⟨r, hn, hc⟩ := hh
  rcases h.hf hd hf hn with ⟨k, k1, k2, k3, k4, k5⟩ | ⟨n, n1, n2, n3, n4, n5⟩ | ⟨e1, e2, e3⟩
  · refine Or.inr ⟨⟨_, k5⟩, ?_⟩
    rcases hc with ⟨i, i1, i2, i3⟩ | ⟨i1, ⟨i2, _⟩ | ⟨_, i2⟩⟩
    · have := nI_inj (k4.symm.trans i2) (by omega) (by omega)
      omega
    · rw [i2]
    · exact absurd k4 (i2 k (by rw [hq]; exact k1))
  · refine Or.inr ⟨⟨_, n4⟩, ?_⟩
    rcases hc with ⟨i, i1, i2, i3⟩ | ⟨i1, _⟩
    · have e := nI_inj (n2.symm.trans i2) (by omega) (by omega)
      subst e
      rw [((h.2.2.1 d hd).2 n (by omega)).1, n3] at i3
      exact i3.symm
    · rw [n2] at i1
      exact absurd (kix.of (by omega) (by omega)) i1
  · refine Or.inl ⟨e1, ?_⟩
    rcases hc with ⟨i, i1, i2, i3⟩ | ⟨i1, ⟨_, k, k1, k2⟩ | ⟨i2, _⟩⟩
    · rw [((h.2.2.1 d hd).2 i (by omega)).1, e2 i (by omega) i2] at i3
      exact i3.symm
    · exact absurd k2 (e3 k (by rw [← hq]; exact k1))
    · rw [i2]
theorem kSim.hA {S : kI4} {N : kN3} {M : kM2} {Q : kQ2} (h : kSim S N M Q) {d ff fS kk n : Nat} (hd : d < 4) {x : Int32} (hf : kHf S N d x (some (ff, d, kk))) (hk : kFh N d ff fS kk) (hn : mNm M Q d x (nI n)) (hnq : n < Q 1 0) : (ff = 16 ∧ fS = 8 ∧ kk = n) ∧ S 5 d n 0 = nI 1 ∧ (nI n = x ∨ ∃ k, k < N 2 d 0 ∧ x = nI (1000 + k) ∧ S 9 d k 0 ≠ -1 ∧ nI n = S 9 d k 0) := by
  have hb : N 2 d 0 ≤ 512 := Nat.le_trans (h.n2 d hd) h.q14
  have hn40 : N 1 0 0 ≤ 40 := h.1.2.1
  have hq1 : Q 1 0 = N 1 0 0 := h.1.1
  rcases h.hf hd hf hn with ⟨k, k1, k2, k3, k4, k5⟩ | ⟨n2, n1, e2, n3, n4, n5⟩ | ⟨e1, _⟩
  · have := nI_inj k4 (by omega) (by omega)
    omega
  · have e := nI_inj e2 (by omega) (by omega)
    subst e
    cases n4
    rcases hk with ⟨_, k2, _⟩ | ⟨k1, _⟩
    · exact ⟨⟨rfl, k2, rfl⟩, n3, n5⟩
    · exact absurd k1 (by decide)
  · cases e1
theorem kSim.hB {S : kI4} {N : kN3} {M : kM2} {Q : kQ2} (h : kSim S N M Q) {d ff fS kk k : Nat} (hd : d < 4) {x : Int32} (hf : kHf S N d x (some (ff, d, kk))) (hk : kFh N d ff fS kk) (hn : mNm M Q d x (nI (1000 + k))) (hkq : k < Q 10 d) : (ff = 18 ∧ fS = 10 ∧ kk = k) ∧ nI (1000 + k) = x := by
  have hb : N 2 d 0 ≤ 512 := Nat.le_trans (h.n2 d hd) h.q14
  have hn40 : N 1 0 0 ≤ 40 := h.1.2.1
  have hq : Q 10 d = N 2 d 0 := (h.2.2.2.1 d hd).1
  rcases h.hf hd hf hn with ⟨i, k1, k2, k3, k4, k5⟩ | ⟨n2, n1, e2, n3, n4, n5⟩ | ⟨e1, _⟩
  · have e := kown_inj k4 (by omega) (by omega)
    subst e
    cases k5
    rcases hk with ⟨k1, _⟩ | ⟨_, k9, _⟩
    · exact absurd k1 (by decide)
    · exact ⟨⟨rfl, k9, rfl⟩, k2.symm⟩
  · have := nI_inj e2 (by omega) (by omega)
    omega
  · cases e1
theorem kSim.hN {S : kI4} {N : kN3} {M : kM2} {Q : kQ2} (h : kSim S N M Q) {d : Nat} (hd : d < 4) {x : Int32} (hf : kHf S N d x none) : (∀ n, n < Q 1 0 → mNm M Q d x (nI n) → M 7 (40 * d + n) ≠ nI 1) ∧ ∀ k, k < Q 10 d → ¬ mNm M Q d x (nI (1000 + k)) := by
  have hq1 : Q 1 0 = N 1 0 0 := h.1.1
  have hn40 : N 1 0 0 ≤ 40 := h.1.2.1
  have hq : Q 10 d = N 2 d 0 := (h.2.2.2.1 d hd).1
  refine ⟨fun n hn hm w => ?_, fun k hk hm => ?_⟩
  · rcases h.hf hd hf hm with ⟨k, k1, k2, k3, k4, k5⟩ | ⟨n2, n1, e2, n3, n4, n5⟩ | ⟨_, e2, e3⟩
    · cases k5
    · cases n4
    · rw [((h.2.2.1 d hd).2 n (by omega)).1, e2 n (by omega) rfl] at w
      exact absurd w (by decide)
  · rcases h.hf hd hf hm with ⟨k, k1, k2, k3, k4, k5⟩ | ⟨n2, n1, e2, n3, n4, n5⟩ | ⟨_, e2, e3⟩
    · cases k5
    · cases n4
    · exact e3 k (by rw [← hq]; exact hk) rfl
theorem kSim.v8 {S : kI4} {N : kN3} {M : kM2} {Q : kQ2} (h : kSim S N M Q) {d n f0 : Nat} (hd : d < 4) (hn : n < 40) (hf : f0 ≤ 1) (h5 : S 5 d n 0 = nI 1) : M 8 (2 * (40 * d + n) + f0) = S 8 d n f0 := by
  rcases ((h.2.2.1 d hd).2 n hn).2 with z | ⟨_, _, _, z⟩
  · rw [h5] at z
    exact absurd z (by decide)
  · exact (z f0 (by omega)).1
theorem kSim.v10 {S : kI4} {N : kN3} {M : kM2} {Q : kQ2} (h : kSim S N M Q) {d k f0 : Nat} (hd : d < 4) (hk : k < Q 10 d) (hf : f0 ≤ 1) : M 12 (2 * (600 * d + k) + f0) = S 10 d k f0 := (((h.2.2.2.1 d hd).2.2.2.1 k (by rw [← (h.2.2.2.1 d hd).1]; exact hk)).2.2 f0 (by omega)).1
theorem kval {S : kI4} {fS a b f0 : Nat} (h0 : f0 ≤ 1) : (if nI f0 = nI 0 then S fS a b 0 else S fS a b 1) = S fS a b f0 := by
  rcases (show f0 = 0 ∨ f0 = 1 by omega) with rfl | rfl
  · exact if_pos rfl
  · exact if_neg (by decide)
theorem kin01 {f0 : Nat} (h : f0 ≤ 1) : kin (nI f0) (nI 0) (nI 1) := ⟨nI_pos (by omega), nI_le h (by decide)⟩
theorem kfx {f0 : Nat} {x : Int32} (h : kin x (nI 0) (if nI f0 = nI 0 then nI 2 else nI 10000)) : f0 = 0 → kin x (nI 0) (nI 2) := fun e => by
  subst e
  exact h
/-- the refusal at a place, class and reference -/
theorem kSim.rf {S : kI4} {N : kN3} {M : kM2} {Q : kQ2} (h : kSim S N M Q) {d r i : Nat} (hd : d < 4) (hr : r < Q 21 0) (h1 : mRf M Q d r = 1) (hi : i < N 5 d 0) (e : nI (kcn (mRf M Q d) r) = nI i) : M 23 r = S 11 d (N 6 d i) 4 ∧ M 18 (Q 22 r) = S 11 d (N 6 d i) 2 := by
  have h6 := h.2.2.2.2.2.1
  have hq := h.q21
  have h5 : N 5 d 0 ≤ 512 := by
    have := (h6.2.1 d hd).1
    have w := kcn_le (fun _ => krf_le) (f := kRf (M 15) (Q 22) d) (Q 21 0)
    omega
  have hw : M 15 (Q 22 r) = nI d := by
    by_cases z : M 15 (Q 22 r) = nI d
    · exact z
    · exact absurd ((show mRf M Q d r = 0 from if_neg z).symm.trans h1) (by decide)
  have hle : kcn (mRf M Q d) r ≤ r := kcn_le (fun _ => mRf_le) r
  have ei : kcn (mRf M Q d) r = i := nI_inj e (by omega) (by omega)
  obtain ⟨g0, g⟩ := h6.2.2 r hr
  obtain ⟨g1, g2, g3⟩ := g d hd hw
  have e6 : N 6 d i = kcn (kDv (M 15) d) (Q 22 r) := by
    rw [← ei]
    exact g1
  rw [e6]
  refine ⟨g3, ?_⟩
  obtain ⟨e, he, b1, c1, c2, c3, c4, c5⟩ := h.2.2.2.2.1.2.2.1 (Q 22 r) g0
  have ee : e = d := nI_d (b1.symm.trans hw) he hd
  subst ee
  exact c2
theorem kSim.rfEx {S : kI4} {N : kN3} {M : kM2} {Q : kQ2} (h : kSim S N M Q) {d i : Nat} (hd : d < 4) (hi : i < N 5 d 0) (hy : nI i < 0 ∨ ∀ r, r < Q 21 0 → mRf M Q d r = 1 → ¬ nI (kcn (mRf M Q d) r) = nI i) : False := by
  have h6 := h.2.2.2.2.2.1
  rcases hy with y | y
  · have := (h6.2.1 d hd).1
    have w := kcn_le (fun _ => krf_le) (f := kRf (M 15) (Q 22) d) (Q 21 0)
    have hq := h.q21
    exact nI_pos (by omega) y
  · rw [(h6.2.1 d hd).1] at hi
    obtain ⟨r, r1, r2, r3⟩ := kcn_ex (fun _ => krf_le) hi
    exact y r r1 r2 (congrArg nI r3)
theorem kSim.rfIx {S : kI4} {N : kN3} {M : kM2} {Q : kQ2} (h : kSim S N M Q) {d r : Nat} {pl : Int32} (hd : d < 4) (hr : r < Q 21 0) (h1 : mRf M Q d r = 1) (e : nI (kcn (mRf M Q d) r) = pl) : kix pl (N 5 d 0) := by
  have h6 := h.2.2.2.2.2.1
  have w := kcn_le (fun _ => krf_le) (f := kRf (M 15) (Q 22) d) (Q 21 0)
  have hq := h.q21
  have hlt : kcn (mRf M Q d) r < N 5 d 0 := by
    rw [(h6.2.1 d hd).1]
    exact kcn_lt hr h1
  have h5 := (h6.2.1 d hd).1
  rw [← e]
  exact kix.of hlt (by omega)
theorem xStep_n4 {S S' : kI4} {N N' : kN3} {d b : Nat} (h : xStep S N d b S' N') : ∀ e, e ≠ d → N' 4 e 0 = N 4 e 0 := by
  obtain ⟨r, S1, N1, hd, hr⟩ := h
  intro e he
  have e4 : N1 4 e 0 = N 4 e 0 := (xDel_n hd 4 e 0 (by decide) (by decide)).trans (w3_n (by omega))
  rcases hr with ⟨_, _, _, rfl⟩ | ⟨_, _, _, rfl⟩
  · exact e4
  · rw [nRef_n (f := 4) (by decide)]
    exact e4
theorem xSnd_n {S : kI4} {N : kN3} {d : Nat} : ∀ {n c : Nat} {S' : kI4} {N' : kN3}, xSnd S N d n c S' N' → N' 4 d 0 = N 4 d 0 + n ∧ ∀ e, e ≠ d → N' 4 e 0 = N 4 e 0
  | 0, c, S', N', h => by
    rw [h.2.2]
    exact ⟨rfl, fun _ _ => rfl⟩
  | n + 1, c, S', N', h => by
    obtain ⟨c1, S1, N1, b, h1, h2, _⟩ := h
    have ih := xSnd_n h1
    have e := (xStep_n h2).1
    exact ⟨by rw [e, ih.1]; omega, fun e he => (xStep_n4 h2 e he).trans (ih.2 e he)⟩
theorem xCps_n4 {q : kI4 × kN3} {d : Nat} {z : Int32} : ∀ i e, (xCps q d z i).2 4 e 0 = q.2 4 e 0
  | 0, _ => rfl
  | i + 1, e => by
    have ih := xCps_n4 (q := q) (d := d) (z := z) i e
    show (xCp (xCps q d z i) d z i).2 4 e 0 = q.2 4 e 0
    unfold xCp
    split
    · exact (nHold_o (by decide)).trans ih
    · exact ih
theorem xFetch_n4 {S : kI4} {N : kN3} {d : Nat} : ∀ e, (xFetch (S, N) d).2 4 e 0 = N 4 e 0 := fun e => (xCps_n4 _ e).trans ((xCps_n4 _ e).trans (xCps_n4 _ e))
theorem kSim.s12 {S : kI4} {N : kN3} {M : kM2} {Q : kQ2} (h : kSim S N M Q) (x : Int32) : kSim (w4 S 12 0 0 0 (S 12 0 0 0 + x)) N (w2 M 24 0 (M 24 0 + x)) Q := by
  obtain ⟨h1, h2, h3, h4, h5, h6, h7⟩ := h
  refine ⟨(by rw [w4_f (f' := 1) (by decide), w4_f (f' := 2) (by decide), w4_f (f' := 3) (by decide), w2_f (a := 24) (b := 2) (by decide), w2_f (a := 24) (b := 3) (by decide), w2_f (a := 24) (b := 4) (by decide), w2_f (a := 24) (b := 5) (by decide)]; exact h1), (by rw [w4_f (f' := 4) (by decide), w2_f (a := 24) (b := 6) (by decide)]; exact h2), (by rw [w4_f (f' := 5) (by decide), w4_f (f' := 6) (by decide), w4_f (f' := 8) (by decide), w2_f (a := 24) (b := 7) (by decide), w2_f (a := 24) (b := 8) (by decide), w2_f (a := 24) (b := 9) (by decide)]; exact h3), (by rw [w4_f (f' := 7) (by decide), w4_f (f' := 9) (by decide), w4_f (f' := 10) (by decide), w2_f (a := 24) (b := 11) (by decide), w2_f (a := 24) (b := 12) (by decide), w2_f (a := 24) (b := 13) (by decide)]; exact h4), (by rw [w4_f (f' := 9) (by decide), w4_f (f' := 11) (by decide), w2_f (a := 24) (b := 15) (by decide), w2_f (a := 24) (b := 16) (by decide), w2_f (a := 24) (b := 17) (by decide), w2_f (a := 24) (b := 18) (by decide), w2_f (a := 24) (b := 19) (by decide), w2_f (a := 24) (b := 20) (by decide)]; exact h5), (by rw [w4_f (f' := 11) (by decide), w2_f (a := 24) (b := 15) (by decide), w2_f (a := 24) (b := 20) (by decide), w2_f (a := 24) (b := 23) (by decide)]; exact h6), ?_⟩
  rw [w4_s, w2_s, h7]
