def kWp (N : kN3) (e : Nat) : Nat := (N 3 e 0 - N 4 e 0) + N 5 e 0
def kA3 (N : kN3) : Nat := N 3 0 0 + N 3 1 0 + N 3 2 0 + N 3 3 0
theorem kge_m1 {j : Nat} (h : j < 2 ^ 31) : ¬ nI j < -1 := fun z => nI_pos h (Int32.lt_trans z (by decide))
theorem kle_m1 {j : Nat} (h : j < 2 ^ 31) : ¬ nI j ≤ -1 := fun z => nI_pos h (Int32.lt_of_le_of_lt z (by decide))
theorem kMq_1 {s9 : kR2} {k : Nat} (h : s9 k 0 = -1) (a : Nat) : a + kcn (kMq s9) k + 1 = a + kcn (kMq s9) (k + 1) := by
  show _ = a + (kcn (kMq s9) k + kMq s9 k)
  rw [show kMq s9 k = 1 from if_pos h]
  rfl
theorem kMq_0 {s9 : kR2} {k : Nat} (h : ¬ s9 k 0 = -1) (a : Nat) : a + kcn (kMq s9) k + 0 = a + kcn (kMq s9) (k + 1) := by
  show _ = a + (kcn (kMq s9) k + kMq s9 k)
  rw [show kMq s9 k = 0 from if_neg h]
  rfl
theorem kOq_1 {S : kI4} {d k : Nat} (h : S 9 d k 0 = -1) : kOq S d k = 1 := if_pos h
theorem kOq_j {S : kI4} {d k j : Nat} (h : ¬ S 9 d k 0 = -1) (h2 : S 9 d k 0 = nI j) (hj : j < 2 ^ 31) : kOq S d k = kCq (S 5 d) j := by
  unfold kOq
  rw [if_neg h, h2, nI_clamp hj]
theorem kOv_j {S : kI4} {d k j f : Nat} (h : ¬ S 9 d k 0 = -1) (h2 : S 9 d k 0 = nI j) (hj : j < 2 ^ 31) : kOv S d k f = kHv S d j f := by
  unfold kOv
  rw [if_neg h, h2, nI_clamp hj]
theorem kheld {S : kI4} {N : kN3} {T d : Nat} (V : vS S N T) (hd : d < 4) : nI (kcn (kCq (S 5 d)) (N 1 0 0) + kcn (kMq (S 9 d)) (N 2 d 0)) = S 6 d 0 0 + S 7 d 0 0 := by
  obtain ⟨_, h2, h3, _⟩ := V.2.2 d hd
  rw [h2.2, h3.2, nI_add, kcn_out (m := N 1 0 0) V.1 (fun i h h40 => ?_)]
  rcases h2.1 i h40 with z | z
  · exact if_pos z
  · omega
theorem kDn_sum {S : kI4} {N : kN3} {T : Nat} (hO : okX S N) (V : vS S N T) : kDn N + kcn (kWp N) 4 = kA3 N := by
  have e : kcn (kWp N) 4 = 0 + kWp N 0 + kWp N 1 + kWp N 2 + kWp N 3 := rfl
  have a0 := V.h5 (show 0 < 4 by decide)
  have a1 := V.h5 (show 1 < 4 by decide)
  have a2 := V.h5 (show 2 < 4 by decide)
  have a3 := V.h5 (show 3 < 4 by decide)
  have b0 := (hO.2 0 (by decide)).2.2.1
  have b1 := (hO.2 1 (by decide)).2.2.1
  have b2 := (hO.2 2 (by decide)).2.2.1
  have b3 := (hO.2 3 (by decide)).2.2.1
  rw [e]
  unfold kDn kWp kA3
  omega
set_option maxHeartbeats 4000000 in
set_option maxRecDepth 100000 in
theorem ha_A {Γ : kG} {E : kE} {A : Nat → Prop} {C : kC} {L : kL} {S : kI4} {N : kN3} (X : kX Γ E A cL_holdsAll RL) (hN : kNl Γ = 11) (hR : kRm Γ = ({ frames := 11, cells := 3900, slots := 23500, locals := 280 } : Room)) (hX : isX E C L S N) (hO : okX S N) {T : Nat} (V : vS S N T) (hT : T ≤ 10000) {f : Nat → Int32} (hna : kNa E C f) (hn2 : ∀ d, d < 4 → f d = nI (N 2 d 0)) (hB : ∀ d, d < 4 → N 3 d 0 ≤ 50) {x : Int32} {d s3 : Nat} (hd : d < 4) : ∀ (m k cells slots : Nat), k + m = N 1 0 0 → cells + 1 * m ≤ 3900 → slots + 6 * m ≤ 23500 → (∀ c s, c ≤ cells + 1 * m → s ≤ slots + 6 * m → kW Γ E A C L c s 75 [(0, .ref (L (1, 0, 0))), (1, .ref (L (200, 0, 0))), (2, .int x), (3, .int (nI s3)), (4, .int (nI 0)), (5, .int (nI 1)), (6, .int (nI d)), (7, .int (nI (kcn (kCq (S 5 d)) (N 1 0 0))))] []) → kW Γ E A C L cells slots 47 [(0, .ref (L (1, 0, 0))), (1, .ref (L (200, 0, 0))), (2, .int x), (3, .int (nI s3)), (4, .int (nI 0)), (5, .int (nI 1)), (6, .int (nI d)), (7, .int (nI (kcn (kCq (S 5 d)) k))), (8, .int (nI k))] [] := by
  have hj := hO.1
  intro m
  induction m with
  | zero =>
    intro k cells slots hk hc hs kk
    have hk0 : k = N 1 0 0 := by omega
    subst hk0
    refine k_iload X dL_holdsAll_47 rfl ?_
    refine k_aload_n X dL_holdsAll_49 rfl rfl ?_
    refine k_callV (rest := [.int (nI (N 1 0 0))]) X kv_X5_jobs kb_59 (c_jobs X.tr hX hO) hX.1.1.1 rfl rfl rfl rfl rfl (Nat.le_of_ble_eq_true rfl) ⟨by rw [hR]; exact Nat.le_of_ble_eq_true rfl, by rw [hR]; exact Nat.le_of_ble_eq_true rfl⟩ ⟨by rw [hR]; dsimp only; omega, by rw [hR]; dsimp only; omega⟩ dL_holdsAll_50 (fun v50 C9 L9 h9 => ?_)
    obtain ⟨rfl, rfl, rfl⟩ := h9
    refine k_icmp_ge (tgt := 75) X dL_holdsAll_53 (by decide) (fun c53 => ?_) (fun c53 => absurd (nI_le (by omega) (by omega)) c53)
    refine k_lo (lo' := [(0, .ref (L (1, 0, 0))), (1, .ref (L (200, 0, 0))), (2, .int x), (3, .int (nI s3)), (4, .int (nI 0)), (5, .int (nI 1)), (6, .int (nI d)), (7, .int (nI (kcn (kCq (S 5 d)) (N 1 0 0))))]) ⟨rfl, rfl, rfl, rfl, rfl, rfl, rfl, rfl, trivial⟩ ?_
    exact kk _ _ (by omega) (by omega)
  | succ m ih =>
    intro k cells slots hk hc hs kk
    have hlt : k < N 1 0 0 := by omega
    refine k_iload X dL_holdsAll_47 rfl ?_
    refine k_aload_n X dL_holdsAll_49 rfl rfl ?_
    refine k_callV (rest := [.int (nI k)]) X kv_X5_jobs kb_59 (c_jobs X.tr hX hO) hX.1.1.1 rfl rfl rfl rfl rfl (Nat.le_of_ble_eq_true rfl) ⟨by rw [hR]; exact Nat.le_of_ble_eq_true rfl, by rw [hR]; exact Nat.le_of_ble_eq_true rfl⟩ ⟨by rw [hR]; dsimp only; omega, by rw [hR]; dsimp only; omega⟩ dL_holdsAll_50 (fun v50 C9 L9 h9 => ?_)
    obtain ⟨rfl, rfl, rfl⟩ := h9
    refine k_icmp_ge (tgt := 75) X dL_holdsAll_53 (by decide) (fun c53 => absurd c53 (nI_ge (by omega) (by omega))) (fun c53 => ?_)
    refine k_iload X dL_holdsAll_56 rfl ?_
    refine k_aload_n X dL_holdsAll_58 rfl rfl ?_
    refine k_iload X dL_holdsAll_59 rfl ?_
    refine k_iload X dL_holdsAll_61 rfl ?_
    refine k_callSH (rest := [.int (nI (kcn (kCq (S 5 d)) k))]) X ksh_holds kb_420 (g_holds X.tr hX hO V hd hlt) rfl rfl (Nat.le_of_ble_eq_true rfl) ⟨by rw [hR]; exact Nat.le_of_ble_eq_true rfl, by rw [hR]; exact Nat.le_of_ble_eq_true rfl⟩ ⟨by rw [hR]; dsimp only; omega, by rw [hR]; dsimp only; omega⟩ dL_holdsAll_63 (fun v63 C9 L9 h9 => ?_)
    obtain ⟨rfl, rfl, rfl⟩ := h9
    refine k_iaddN X dL_holdsAll_66 ?_
    refine k_istore X dL_holdsAll_67 (by rw [hN]; decide) ?_
    refine k_iinc (v := (nI (k + 1))) X dL_holdsAll_69 rfl (by rw [show Int32.ofInt 1 = nI 1 from by decide, nI_add]) (by rw [hN]; decide) ?_
    refine k_goto (tgt := 47) X dL_holdsAll_72 (by decide) ?_
    refine k_lo (lo' := [(0, .ref (L (1, 0, 0))), (1, .ref (L (200, 0, 0))), (2, .int x), (3, .int (nI s3)), (4, .int (nI 0)), (5, .int (nI 1)), (6, .int (nI d)), (7, .int (nI (kcn (kCq (S 5 d)) (k + 1)))), (8, .int (nI (k + 1)))]) ⟨rfl, rfl, rfl, rfl, rfl, rfl, rfl, rfl, rfl, trivial⟩ ?_
    exact ih (k + 1) _ _ (by omega) (by omega) (by omega) (fun c s h1 h2 => kk c s (by omega) (by omega))

set_option maxHeartbeats 4000000 in
set_option maxRecDepth 100000 in
theorem ha_B {Γ : kG} {E : kE} {A : Nat → Prop} {C : kC} {L : kL} {S : kI4} {N : kN3} (X : kX Γ E A cL_holdsAll RL) (hN : kNl Γ = 11) (hR : kRm Γ = ({ frames := 11, cells := 3900, slots := 23500, locals := 280 } : Room)) (hX : isX E C L S N) (hO : okX S N) {T : Nat} (V : vS S N T) (hT : T ≤ 10000) {f : Nat → Int32} (hna : kNa E C f) (hn2 : ∀ d, d < 4 → f d = nI (N 2 d 0)) (hB : ∀ d, d < 4 → N 3 d 0 ≤ 50) {x : Int32} {d s3 : Nat} (hd : d < 4) : ∀ (m k cells slots : Nat), k + m = N 2 d 0 → cells + 10 * m ≤ 3900 → slots + 60 * m ≤ 23500 → (∀ c s, c ≤ cells + 10 * m → s ≤ slots + 60 * m → kW Γ E A C L c s 217 [(0, .ref (L (1, 0, 0))), (1, .ref (L (200, 0, 0))), (2, .int x), (3, .int (nI s3)), (4, .int (nI 0)), (5, .int (nI 1)), (6, .int (nI d)), (7, .int (nI (kcn (kCq (S 5 d)) (N 1 0 0) + kcn (kMq (S 9 d)) (N 2 d 0))))] []) → kW Γ E A C L cells slots 78 [(0, .ref (L (1, 0, 0))), (1, .ref (L (200, 0, 0))), (2, .int x), (3, .int (nI s3)), (4, .int (nI 0)), (5, .int (nI 1)), (6, .int (nI d)), (7, .int (nI (kcn (kCq (S 5 d)) (N 1 0 0) + kcn (kMq (S 9 d)) k))), (8, .int (nI k))] [] := by
  have hj := hO.1
  have hb := hB d hd
  have hm := V.m2 hd
  intro m
  induction m with
  | zero =>
    intro k cells slots hk hc hs kk
    have hk0 : k = N 2 d 0 := by omega
    subst hk0
    refine k_iload X dL_holdsAll_78 rfl ?_
    refine k_aload_n X dL_holdsAll_80 rfl rfl ?_
    refine k_iload X dL_holdsAll_81 rfl ?_
    refine k_iald X hna rfl (pk_in d 4 hd) dL_holdsAll_83 ?_
    refine k_rw (y := nI (N 2 d 0)) (by rw [nI_clamp (by omega)]; exact hn2 d hd) ?_
    refine k_icmp_ge (tgt := 217) X dL_holdsAll_84 (by decide) (fun c84 => ?_) (fun c84 => absurd (nI_le (by omega) (by omega)) c84)
    refine k_lo (lo' := [(0, .ref (L (1, 0, 0))), (1, .ref (L (200, 0, 0))), (2, .int x), (3, .int (nI s3)), (4, .int (nI 0)), (5, .int (nI 1)), (6, .int (nI d)), (7, .int (nI (kcn (kCq (S 5 d)) (N 1 0 0) + kcn (kMq (S 9 d)) (N 2 d 0))))]) ⟨rfl, rfl, rfl, rfl, rfl, rfl, rfl, rfl, trivial⟩ ?_
    exact kk _ _ (by omega) (by omega)
  | succ m ih =>
    intro k cells slots hk hc hs kk
    have hlt : k < N 2 d 0 := by omega
    refine k_iload X dL_holdsAll_78 rfl ?_
    refine k_aload_n X dL_holdsAll_80 rfl rfl ?_
    refine k_iload X dL_holdsAll_81 rfl ?_
    refine k_iald X hna rfl (pk_in d 4 hd) dL_holdsAll_83 ?_
    refine k_rw (y := nI (N 2 d 0)) (by rw [nI_clamp (by omega)]; exact hn2 d hd) ?_
    refine k_icmp_ge (tgt := 217) X dL_holdsAll_84 (by decide) (fun c84 => absurd c84 (nI_ge (by omega) (by omega))) (fun c84 => ?_)
    refine k_iload X dL_holdsAll_87 rfl ?_
    refine k_if_eq (tgt := 217) X dL_holdsAll_89 (by decide) (fun c89 => absurd c89 (by decide)) (fun c89 => ?_)
    refine k_aload_n X dL_holdsAll_92 rfl rfl ?_
    refine k_iload X dL_holdsAll_93 rfl ?_
    refine k_sipush (v := (nI 1000)) X dL_holdsAll_95 (by decide) ?_
    refine k_iload X dL_holdsAll_98 rfl ?_
    refine k_iaddN X dL_holdsAll_100 ?_
    refine k_callSH (rest := []) X ksh_numberOf kb_434 (g_number X.tr hX hO hd hlt) rfl rfl (Nat.le_of_ble_eq_true rfl) ⟨by rw [hR]; exact Nat.le_of_ble_eq_true rfl, by rw [hR]; exact Nat.le_of_ble_eq_true rfl⟩ ⟨by rw [hR]; dsimp only; omega, by rw [hR]; dsimp only; omega⟩ dL_holdsAll_101 (fun v101 C9 L9 h9 => ?_)
    obtain ⟨rfl, rfl, rfl⟩ := h9
    refine k_istore X dL_holdsAll_104 (by rw [hN]; decide) ?_
    refine k_aload_n X dL_holdsAll_106 rfl rfl ?_
    refine k_iload X dL_holdsAll_107 rfl ?_
    refine k_sipush (v := (nI 1000)) X dL_holdsAll_109 (by decide) ?_
    refine k_iload X dL_holdsAll_112 rfl ?_
    refine k_iaddN X dL_holdsAll_114 ?_
    refine k_callSH (rest := []) X ksh_holds kb_420 (g_own X.tr hX hO V hd hlt) rfl rfl (Nat.le_of_ble_eq_true rfl) ⟨by rw [hR]; exact Nat.le_of_ble_eq_true rfl, by rw [hR]; exact Nat.le_of_ble_eq_true rfl⟩ ⟨by rw [hR]; dsimp only; omega, by rw [hR]; dsimp only; omega⟩ dL_holdsAll_115 (fun v115 C9 L9 h9 => ?_)
    obtain ⟨rfl, rfl, rfl⟩ := h9
    refine k_istore X dL_holdsAll_118 (by rw [hN]; decide) ?_
    refine k_iload X dL_holdsAll_120 rfl ?_
    refine k_iload X dL_holdsAll_122 rfl ?_
    refine k_iconst (v := (-1)) X dL_holdsAll_124 (by decide) ?_
    refine k_icmp_ne (tgt := 132) X dL_holdsAll_125 (by decide) (fun c125 => ?_) (fun c125 => ?_)
    ·
      obtain ⟨j, hj1, hj2⟩ := hf_own V hd hlt c125
      refine k_iconst (v := (nI 0)) X dL_holdsAll_132 (by decide) ?_
      refine k_iaddN X dL_holdsAll_133 ?_
      refine k_rw (y := nI (kcn (kCq (S 5 d)) (N 1 0 0) + kcn (kMq (S 9 d)) (k + 1))) (congrArg nI (kMq_0 c125 _)) ?_
      refine k_istore X dL_holdsAll_134 (by rw [hN]; decide) ?_
      refine k_iload X dL_holdsAll_136 rfl ?_
      refine k_iconst (v := (-1)) X dL_holdsAll_138 (by decide) ?_
      refine k_icmp_lt (tgt := 208) X dL_holdsAll_139 (by decide) (fun c139 => absurd c139 (by rw [hj2]; exact kge_m1 (by omega))) (fun c139 => ?_)
      refine k_iload X dL_holdsAll_142 rfl ?_
      refine k_aload_n X dL_holdsAll_144 rfl rfl ?_
      refine k_callV (rest := [.int (S 9 d k 0)]) X kv_X5_jobs kb_59 (c_jobs X.tr hX hO) hX.1.1.1 rfl rfl rfl rfl rfl (Nat.le_of_ble_eq_true rfl) ⟨by rw [hR]; exact Nat.le_of_ble_eq_true rfl, by rw [hR]; exact Nat.le_of_ble_eq_true rfl⟩ ⟨by rw [hR]; dsimp only; omega, by rw [hR]; dsimp only; omega⟩ dL_holdsAll_145 (fun v145 C9 L9 h9 => ?_)
      obtain ⟨rfl, rfl, rfl⟩ := h9
      refine k_icmp_ge (tgt := 208) X dL_holdsAll_148 (by decide) (fun c148 => absurd c148 (by rw [hj2]; exact nI_ge (by omega) (by omega))) (fun c148 => ?_)
      refine k_iload X dL_holdsAll_151 rfl ?_
      refine k_iconst (v := (-1)) X dL_holdsAll_153 (by decide) ?_
      refine k_icmp_ne (tgt := 166) X dL_holdsAll_154 (by decide) (fun c154 => ?_) (fun c154 => absurd c154 c125)
      refine k_iload X dL_holdsAll_166 rfl ?_
      refine k_aload_n X dL_holdsAll_168 rfl rfl ?_
      refine k_iload X dL_holdsAll_169 rfl ?_
      refine k_iload X dL_holdsAll_171 rfl ?_
      refine k_rw (y := nI j) hj2 ?_
      refine k_callSH (rest := [.int (nI (kOq S d k))]) X ksh_holds kb_420 (g_holds X.tr hX hO V hd hj1) rfl rfl (Nat.le_of_ble_eq_true rfl) ⟨by rw [hR]; exact Nat.le_of_ble_eq_true rfl, by rw [hR]; exact Nat.le_of_ble_eq_true rfl⟩ ⟨by rw [hR]; dsimp only; omega, by rw [hR]; dsimp only; omega⟩ dL_holdsAll_173 (fun v173 C9 L9 h9 => ?_)
      obtain ⟨rfl, rfl, rfl⟩ := h9
      refine k_icmp_ne (tgt := 208) X dL_holdsAll_176 (by decide) (fun c176 => absurd c176 (fun z => z (congrArg nI (kOq_j c125 hj2 (by omega))))) (fun c176 => ?_)
      refine k_aload_n X dL_holdsAll_179 rfl rfl ?_
      refine k_iload X dL_holdsAll_180 rfl ?_
      refine k_iload X dL_holdsAll_182 rfl ?_
      refine k_rw (y := nI j) hj2 ?_
      refine k_iconst (v := (nI 0)) X dL_holdsAll_184 (by decide) ?_
      refine k_callSH (rest := []) X ksh_heldValue kb_427 (g_hv0 X.tr hX hO V hd hj1) rfl rfl (Nat.le_of_ble_eq_true rfl) ⟨by rw [hR]; exact Nat.le_of_ble_eq_true rfl, by rw [hR]; exact Nat.le_of_ble_eq_true rfl⟩ ⟨by rw [hR]; dsimp only; omega, by rw [hR]; dsimp only; omega⟩ dL_holdsAll_185 (fun v185 C9 L9 h9 => ?_)
      obtain ⟨rfl, rfl, rfl⟩ := h9
      refine k_aload_n X dL_holdsAll_188 rfl rfl ?_
      refine k_iload X dL_holdsAll_189 rfl ?_
      refine k_sipush (v := (nI 1000)) X dL_holdsAll_191 (by decide) ?_
      refine k_iload X dL_holdsAll_194 rfl ?_
      refine k_iaddN X dL_holdsAll_196 ?_
      refine k_iconst (v := (nI 0)) X dL_holdsAll_197 (by decide) ?_
      refine k_callSH (rest := [.int (kHv S d j 0)]) X ksh_heldValue kb_427 (g_ov0 X.tr hX hO V hd hlt) rfl rfl (Nat.le_of_ble_eq_true rfl) ⟨by rw [hR]; exact Nat.le_of_ble_eq_true rfl, by rw [hR]; exact Nat.le_of_ble_eq_true rfl⟩ ⟨by rw [hR]; dsimp only; omega, by rw [hR]; dsimp only; omega⟩ dL_holdsAll_198 (fun v198 C9 L9 h9 => ?_)
      obtain ⟨rfl, rfl, rfl⟩ := h9
      refine k_icmp_ne (tgt := 208) X dL_holdsAll_201 (by decide) (fun c201 => absurd c201 (fun z => z (kOv_j c125 hj2 (by omega)).symm)) (fun c201 => ?_)
      refine k_iconst (v := (nI 1)) X dL_holdsAll_204 (by decide) ?_
      refine k_goto (tgt := 209) X dL_holdsAll_205 (by decide) ?_
      refine k_istore X dL_holdsAll_209 (by rw [hN]; decide) ?_
      refine k_iinc (v := (nI (k + 1))) X dL_holdsAll_211 rfl (by rw [show Int32.ofInt 1 = nI 1 from by decide, nI_add]) (by rw [hN]; decide) ?_
      refine k_goto (tgt := 78) X dL_holdsAll_214 (by decide) ?_
      refine k_lo (lo' := [(0, .ref (L (1, 0, 0))), (1, .ref (L (200, 0, 0))), (2, .int x), (3, .int (nI s3)), (4, .int (nI 0)), (5, .int (nI 1)), (6, .int (nI d)), (7, .int (nI (kcn (kCq (S 5 d)) (N 1 0 0) + kcn (kMq (S 9 d)) (k + 1)))), (8, .int (nI (k + 1)))]) ⟨rfl, rfl, rfl, rfl, rfl, rfl, rfl, rfl, rfl, trivial⟩ ?_
      exact ih (k + 1) _ _ (by omega) (by omega) (by omega) (fun c s h1 h2 => kk c s (by omega) (by omega))
    ·
      refine k_iconst (v := (nI 1)) X dL_holdsAll_128 (by decide) ?_
      refine k_goto (tgt := 133) X dL_holdsAll_129 (by decide) ?_
      refine k_iaddN X dL_holdsAll_133 ?_
      refine k_rw (y := nI (kcn (kCq (S 5 d)) (N 1 0 0) + kcn (kMq (S 9 d)) (k + 1))) (congrArg nI (kMq_1 c125 _)) ?_
      refine k_istore X dL_holdsAll_134 (by rw [hN]; decide) ?_
      refine k_iload X dL_holdsAll_136 rfl ?_
      refine k_iconst (v := (-1)) X dL_holdsAll_138 (by decide) ?_
      refine k_icmp_lt (tgt := 208) X dL_holdsAll_139 (by decide) (fun c139 => absurd c139 (by rw [c125]; decide)) (fun c139 => ?_)
      refine k_iload X dL_holdsAll_142 rfl ?_
      refine k_aload_n X dL_holdsAll_144 rfl rfl ?_
      refine k_callV (rest := [.int (S 9 d k 0)]) X kv_X5_jobs kb_59 (c_jobs X.tr hX hO) hX.1.1.1 rfl rfl rfl rfl rfl (Nat.le_of_ble_eq_true rfl) ⟨by rw [hR]; exact Nat.le_of_ble_eq_true rfl, by rw [hR]; exact Nat.le_of_ble_eq_true rfl⟩ ⟨by rw [hR]; dsimp only; omega, by rw [hR]; dsimp only; omega⟩ dL_holdsAll_145 (fun v145 C9 L9 h9 => ?_)
      obtain ⟨rfl, rfl, rfl⟩ := h9
      refine k_icmp_ge (tgt := 208) X dL_holdsAll_148 (by decide) (fun c148 => absurd c148 (by rw [c125]; exact kle_m1 (by omega))) (fun c148 => ?_)
      refine k_iload X dL_holdsAll_151 rfl ?_
      refine k_iconst (v := (-1)) X dL_holdsAll_153 (by decide) ?_
      refine k_icmp_ne (tgt := 166) X dL_holdsAll_154 (by decide) (fun c154 => absurd c154 (fun z => z c125)) (fun c154 => ?_)
      refine k_iload X dL_holdsAll_157 rfl ?_
      refine k_iconst (v := (nI 1)) X dL_holdsAll_159 (by decide) ?_
      refine k_icmp_ne (tgt := 208) X dL_holdsAll_160 (by decide) (fun c160 => absurd c160 (fun z => z (congrArg nI (kOq_1 c125)))) (fun c160 => ?_)
      refine k_goto (tgt := 204) X dL_holdsAll_163 (by decide) ?_
      refine k_iconst (v := (nI 1)) X dL_holdsAll_204 (by decide) ?_
      refine k_goto (tgt := 209) X dL_holdsAll_205 (by decide) ?_
      refine k_istore X dL_holdsAll_209 (by rw [hN]; decide) ?_
      refine k_iinc (v := (nI (k + 1))) X dL_holdsAll_211 rfl (by rw [show Int32.ofInt 1 = nI 1 from by decide, nI_add]) (by rw [hN]; decide) ?_
      refine k_goto (tgt := 78) X dL_holdsAll_214 (by decide) ?_
      refine k_lo (lo' := [(0, .ref (L (1, 0, 0))), (1, .ref (L (200, 0, 0))), (2, .int x), (3, .int (nI s3)), (4, .int (nI 0)), (5, .int (nI 1)), (6, .int (nI d)), (7, .int (nI (kcn (kCq (S 5 d)) (N 1 0 0) + kcn (kMq (S 9 d)) (k + 1)))), (8, .int (nI (k + 1)))]) ⟨rfl, rfl, rfl, rfl, rfl, rfl, rfl, rfl, rfl, trivial⟩ ?_
      exact ih (k + 1) _ _ (by omega) (by omega) (by omega) (fun c s h1 h2 => kk c s (by omega) (by omega))

set_option maxHeartbeats 4000000 in
set_option maxRecDepth 100000 in
theorem ha_C {Γ : kG} {E : kE} {A : Nat → Prop} {C : kC} {L : kL} {S : kI4} {N : kN3} (X : kX Γ E A cL_holdsAll RL) (hN : kNl Γ = 11) (hR : kRm Γ = ({ frames := 11, cells := 3900, slots := 23500, locals := 280 } : Room)) (hX : isX E C L S N) (hO : okX S N) {T : Nat} (V : vS S N T) (hT : T ≤ 10000) {f : Nat → Int32} (hna : kNa E C f) (hn2 : ∀ d, d < 4 → f d = nI (N 2 d 0)) (hB : ∀ d, d < 4 → N 3 d 0 ≤ 50) {x : Int32} {d s3 h7 : Nat} (hd : d < 4) : ∀ (m k cells slots : Nat), k + m = N 5 d 0 → cells + 6 * m + 1 ≤ 3900 → slots + 36 * m + 6 ≤ 23500 → (∀ c s, c ≤ cells + 6 * m + 1 → s ≤ slots + 36 * m + 6 → kW Γ E A C L c s 319 [(0, .ref (L (1, 0, 0))), (1, .ref (L (200, 0, 0))), (2, .int x), (3, .int (nI s3)), (4, .int (nI 0)), (5, .int (nI 1)), (6, .int (nI d))] []) → kW Γ E A C L cells slots 243 [(0, .ref (L (1, 0, 0))), (1, .ref (L (200, 0, 0))), (2, .int x), (3, .int (nI s3)), (4, .int (nI 0)), (5, .int (nI 1)), (6, .int (nI d)), (7, .int (nI h7)), (8, .int (nI k))] [] := by
  have hj := hO.1
  have hb := hB d hd
  have h5 := V.h5 hd
  have h4 := (hO.2 d hd).2.2.1
  intro m
  induction m with
  | zero =>
    intro k cells slots hk hc hs kk
    refine k_iload X dL_holdsAll_243 rfl ?_
    refine k_aload_n X dL_holdsAll_245 rfl rfl ?_
    refine k_iload X dL_holdsAll_246 rfl ?_
    refine k_callSH (rest := [.int (nI k)]) X ksh_pile kb_442 (g_pile X.tr hX hO hd) rfl rfl (Nat.le_of_ble_eq_true rfl) ⟨by rw [hR]; exact Nat.le_of_ble_eq_true rfl, by rw [hR]; exact Nat.le_of_ble_eq_true rfl⟩ ⟨by rw [hR]; dsimp only; omega, by rw [hR]; dsimp only; omega⟩ dL_holdsAll_248 (fun v248 C9 L9 h9 => ?_)
    obtain ⟨rfl, rfl, rfl⟩ := h9
    refine k_icmp_ge (tgt := 319) X dL_holdsAll_251 (by decide) (fun c251 => ?_) (fun c251 => absurd (nI_le (by omega) (by omega)) c251)
    refine k_lo (lo' := [(0, .ref (L (1, 0, 0))), (1, .ref (L (200, 0, 0))), (2, .int x), (3, .int (nI s3)), (4, .int (nI 0)), (5, .int (nI 1)), (6, .int (nI d))]) ⟨rfl, rfl, rfl, rfl, rfl, rfl, rfl, trivial⟩ ?_
    exact kk _ _ (by omega) (by omega)
  | succ m ih =>
    intro k cells slots hk hc hs kk
    have hlt : k < N 5 d 0 := by omega
    obtain ⟨hr0, r, hr1, hr2, hr3⟩ := (V.2.2 d hd).2.2.2.2.2 k hlt
    obtain ⟨⟨q, hq1, hq2⟩, _⟩ := V.act hd hr0
    refine k_iload X dL_holdsAll_243 rfl ?_
    refine k_aload_n X dL_holdsAll_245 rfl rfl ?_
    refine k_iload X dL_holdsAll_246 rfl ?_
    refine k_callSH (rest := [.int (nI k)]) X ksh_pile kb_442 (g_pile X.tr hX hO hd) rfl rfl (Nat.le_of_ble_eq_true rfl) ⟨by rw [hR]; exact Nat.le_of_ble_eq_true rfl, by rw [hR]; exact Nat.le_of_ble_eq_true rfl⟩ ⟨by rw [hR]; dsimp only; omega, by rw [hR]; dsimp only; omega⟩ dL_holdsAll_248 (fun v248 C9 L9 h9 => ?_)
    obtain ⟨rfl, rfl, rfl⟩ := h9
    refine k_icmp_ge (tgt := 319) X dL_holdsAll_251 (by decide) (fun c251 => absurd c251 (nI_ge (by omega) (by omega))) (fun c251 => ?_)
    refine k_iload X dL_holdsAll_254 rfl ?_
    refine k_if_eq (tgt := 319) X dL_holdsAll_256 (by decide) (fun c256 => absurd c256 (by decide)) (fun c256 => ?_)
    refine k_aload_n X dL_holdsAll_259 rfl rfl ?_
    refine k_iload X dL_holdsAll_260 rfl ?_
    refine k_iload X dL_holdsAll_262 rfl ?_
    refine k_callSH (rest := []) X ksh_reason kb_450 (g_reason X.tr hX hO hd hlt) rfl rfl (Nat.le_of_ble_eq_true rfl) ⟨by rw [hR]; exact Nat.le_of_ble_eq_true rfl, by rw [hR]; exact Nat.le_of_ble_eq_true rfl⟩ ⟨by rw [hR]; dsimp only; omega, by rw [hR]; dsimp only; omega⟩ dL_holdsAll_264 (fun v264 C9 L9 h9 => ?_)
    obtain ⟨rfl, rfl, rfl⟩ := h9
    refine k_rw (y := nI r) hr2 ?_
    refine k_istore X dL_holdsAll_267 (by rw [hN]; decide) ?_
    refine k_iload X dL_holdsAll_269 rfl ?_
    refine k_if_lt (tgt := 310) X dL_holdsAll_271 (by decide) (fun c271 => absurd c271 (nI_pos (by omega))) (fun c271 => ?_)
    refine k_iload X dL_holdsAll_274 rfl ?_
    refine k_iconst (v := (nI 3)) X dL_holdsAll_276 (by decide) ?_
    refine k_icmp_gt (tgt := 310) X dL_holdsAll_277 (by decide) (fun c277 => absurd c277 (nI_nlt hr1 (by decide))) (fun c277 => ?_)
    refine k_aload_n X dL_holdsAll_280 rfl rfl ?_
    refine k_iload X dL_holdsAll_281 rfl ?_
    refine k_iload X dL_holdsAll_283 rfl ?_
    refine k_callSH (rest := []) X ksh_refusedValue kb_463 (g_refused X.tr hX hO hd hlt) rfl rfl (Nat.le_of_ble_eq_true rfl) ⟨by rw [hR]; exact Nat.le_of_ble_eq_true rfl, by rw [hR]; exact Nat.le_of_ble_eq_true rfl⟩ ⟨by rw [hR]; dsimp only; omega, by rw [hR]; dsimp only; omega⟩ dL_holdsAll_285 (fun v285 C9 L9 h9 => ?_)
    obtain ⟨rfl, rfl, rfl⟩ := h9
    refine k_rw (y := nI q) hq2 ?_
    refine k_if_lt (tgt := 310) X dL_holdsAll_288 (by decide) (fun c288 => absurd c288 (nI_pos (by omega))) (fun c288 => ?_)
    refine k_iload X dL_holdsAll_291 rfl ?_
    refine k_iconst (v := (nI 3)) X dL_holdsAll_293 (by decide) ?_
    refine k_icmp_ne (tgt := 306) X dL_holdsAll_294 (by decide) (fun c294 => ?_) (fun c294 => ?_)
    ·
      refine k_iconst (v := (nI 1)) X dL_holdsAll_306 (by decide) ?_
      refine k_goto (tgt := 311) X dL_holdsAll_307 (by decide) ?_
      refine k_istore X dL_holdsAll_311 (by rw [hN]; decide) ?_
      refine k_iinc (v := (nI (k + 1))) X dL_holdsAll_313 rfl (by rw [show Int32.ofInt 1 = nI 1 from by decide, nI_add]) (by rw [hN]; decide) ?_
      refine k_goto (tgt := 243) X dL_holdsAll_316 (by decide) ?_
      refine k_lo (lo' := [(0, .ref (L (1, 0, 0))), (1, .ref (L (200, 0, 0))), (2, .int x), (3, .int (nI s3)), (4, .int (nI 0)), (5, .int (nI 1)), (6, .int (nI d)), (7, .int (nI h7)), (8, .int (nI (k + 1)))]) ⟨rfl, rfl, rfl, rfl, rfl, rfl, rfl, rfl, rfl, trivial⟩ ?_
      exact ih (k + 1) _ _ (by omega) (by omega) (by omega) (fun c s h1 h2 => kk c s (by omega) (by omega))
    ·
      have h40 : N 1 0 0 = 40 := hr3 (nI_inj c294 (by omega) (by decide))
      refine k_aload_n X dL_holdsAll_297 rfl rfl ?_
      refine k_callV (rest := []) X kv_X5_jobs kb_59 (c_jobs X.tr hX hO) hX.1.1.1 rfl rfl rfl rfl rfl (Nat.le_of_ble_eq_true rfl) ⟨by rw [hR]; exact Nat.le_of_ble_eq_true rfl, by rw [hR]; exact Nat.le_of_ble_eq_true rfl⟩ ⟨by rw [hR]; dsimp only; omega, by rw [hR]; dsimp only; omega⟩ dL_holdsAll_298 (fun v298 C9 L9 h9 => ?_)
      obtain ⟨rfl, rfl, rfl⟩ := h9
      refine k_bipush (v := (nI 40)) X dL_holdsAll_301 (by decide) ?_
      refine k_icmp_ne (tgt := 310) X dL_holdsAll_303 (by decide) (fun c303 => absurd c303 (fun z => z (by rw [h40]))) (fun c303 => ?_)
      refine k_iconst (v := (nI 1)) X dL_holdsAll_306 (by decide) ?_
      refine k_goto (tgt := 311) X dL_holdsAll_307 (by decide) ?_
      refine k_istore X dL_holdsAll_311 (by rw [hN]; decide) ?_
      refine k_iinc (v := (nI (k + 1))) X dL_holdsAll_313 rfl (by rw [show Int32.ofInt 1 = nI 1 from by decide, nI_add]) (by rw [hN]; decide) ?_
      refine k_goto (tgt := 243) X dL_holdsAll_316 (by decide) ?_
      refine k_lo (lo' := [(0, .ref (L (1, 0, 0))), (1, .ref (L (200, 0, 0))), (2, .int x), (3, .int (nI s3)), (4, .int (nI 0)), (5, .int (nI 1)), (6, .int (nI d)), (7, .int (nI h7)), (8, .int (nI (k + 1)))]) ⟨rfl, rfl, rfl, rfl, rfl, rfl, rfl, rfl, rfl, trivial⟩ ?_
      exact ih (k + 1) _ _ (by omega) (by omega) (by omega) (fun c s h1 h2 => kk c s (by omega) (by omega))

set_option maxHeartbeats 4000000 in
set_option maxRecDepth 100000 in
theorem ha_D {Γ : kG} {E : kE} {A : Nat → Prop} {C : kC} {L : kL} {S : kI4} {N : kN3} (X : kX Γ E A cL_holdsAll RL) (hN : kNl Γ = 11) (hR : kRm Γ = ({ frames := 11, cells := 3900, slots := 23500, locals := 280 } : Room)) (hX : isX E C L S N) (hO : okX S N) {T : Nat} (V : vS S N T) (hT : T ≤ 10000) {f : Nat → Int32} (hna : kNa E C f) (hn2 : ∀ d, d < 4 → f d = nI (N 2 d 0)) (hB : ∀ d, d < 4 → N 3 d 0 ≤ 50) {x : Int32}  : ∀ (m d cells slots : Nat), d + m = 4 → cells + 850 * m ≤ 3900 → slots + 5100 * m ≤ 23500 → (∀ c s, c ≤ cells + 850 * m → s ≤ slots + 5100 * m → kW Γ E A C L c s 325 [(0, .ref (L (1, 0, 0))), (1, .ref (L (200, 0, 0))), (2, .int x), (3, .int (nI (kDn N + kcn (kWp N) 4))), (4, .int (nI 0)), (5, .int (nI 1))] []) → kW Γ E A C L cells slots 14 [(0, .ref (L (1, 0, 0))), (1, .ref (L (200, 0, 0))), (2, .int x), (3, .int (nI (kDn N + kcn (kWp N) d))), (4, .int (nI 0)), (5, .int (nI 1)), (6, .int (nI d))] [] := by
  intro m
  induction m with
  | zero =>
    intro d cells slots hk hc hs kk
    have hk0 : d = 4 := by omega
    subst hk0
    refine k_iload X dL_holdsAll_14 rfl ?_
    refine k_iconst (v := (nI 4)) X dL_holdsAll_16 (by decide) ?_
    refine k_icmp_ge (tgt := 325) X dL_holdsAll_17 (by decide) (fun c17 => ?_) (fun c17 => absurd (nI_le (by omega) (by omega)) c17)
    refine k_lo (lo' := [(0, .ref (L (1, 0, 0))), (1, .ref (L (200, 0, 0))), (2, .int x), (3, .int (nI (kDn N + kcn (kWp N) 4))), (4, .int (nI 0)), (5, .int (nI 1))]) ⟨rfl, rfl, rfl, rfl, rfl, rfl, trivial⟩ ?_
    exact kk _ _ (by omega) (by omega)
  | succ m ih =>
    intro d cells slots hk hc hs kk
    have hlt : d < 4 := by omega
    have hj := hO.1
    have hb := hB d hlt
    have hm := V.m2 hlt
    have h5 := V.h5 hlt
    have h4 := (hO.2 d hlt).2.2.1
    refine k_iload X dL_holdsAll_14 rfl ?_
    refine k_iconst (v := (nI 4)) X dL_holdsAll_16 (by decide) ?_
    refine k_icmp_ge (tgt := 325) X dL_holdsAll_17 (by decide) (fun c17 => absurd c17 (nI_ge (by omega) (by omega))) (fun c17 => ?_)
    refine k_iload X dL_holdsAll_20 rfl ?_
    refine k_if_eq (tgt := 325) X dL_holdsAll_22 (by decide) (fun c22 => absurd c22 (by decide)) (fun c22 => ?_)
    refine k_iconst (v := (nI 0)) X dL_holdsAll_25 (by decide) ?_
    refine k_istore X dL_holdsAll_26 (by rw [hN]; decide) ?_
    refine k_iload_n X dL_holdsAll_28 rfl rfl ?_
    refine k_aload_n X dL_holdsAll_29 rfl rfl ?_
    refine k_iload X dL_holdsAll_30 rfl ?_
    refine k_callSH (rest := [.int (nI (kDn N + kcn (kWp N) d))]) X ksh_waiting kb_324 (g_waiting X.tr hX hO hlt) rfl rfl (Nat.le_of_ble_eq_true rfl) ⟨by rw [hR]; exact Nat.le_of_ble_eq_true rfl, by rw [hR]; exact Nat.le_of_ble_eq_true rfl⟩ ⟨by rw [hR]; dsimp only; omega, by rw [hR]; dsimp only; omega⟩ dL_holdsAll_32 (fun v32 C9 L9 h9 => ?_)
    obtain ⟨rfl, rfl, rfl⟩ := h9
    refine k_aload_n X dL_holdsAll_35 rfl rfl ?_
    refine k_iload X dL_holdsAll_36 rfl ?_
    refine k_callSH (rest := [.int (nI (N 3 d 0 - N 4 d 0)), .int (nI (kDn N + kcn (kWp N) d))]) X ksh_pile kb_442 (g_pile X.tr hX hO hlt) rfl rfl (Nat.le_of_ble_eq_true rfl) ⟨by rw [hR]; exact Nat.le_of_ble_eq_true rfl, by rw [hR]; exact Nat.le_of_ble_eq_true rfl⟩ ⟨by rw [hR]; dsimp only; omega, by rw [hR]; dsimp only; omega⟩ dL_holdsAll_38 (fun v38 C9 L9 h9 => ?_)
    obtain ⟨rfl, rfl, rfl⟩ := h9
    refine k_iaddN X dL_holdsAll_41 ?_
    refine k_iaddN X dL_holdsAll_42 ?_
    refine k_rw (y := nI (kDn N + kcn (kWp N) (d + 1))) (congrArg nI (Nat.add_assoc _ _ _)) ?_
    refine k_istore_n X dL_holdsAll_43 rfl (by rw [hN]; decide) ?_
    refine k_iconst (v := (nI 0)) X dL_holdsAll_44 (by decide) ?_
    refine k_istore X dL_holdsAll_45 (by rw [hN]; decide) ?_
    refine k_lo (lo' := [(0, .ref (L (1, 0, 0))), (1, .ref (L (200, 0, 0))), (2, .int x), (3, .int (nI (kDn N + kcn (kWp N) (d + 1)))), (4, .int (nI 0)), (5, .int (nI 1)), (6, .int (nI d)), (7, .int (nI (kcn (kCq (S 5 d)) 0))), (8, .int (nI 0))]) ⟨rfl, rfl, rfl, rfl, rfl, rfl, rfl, rfl, rfl, trivial⟩ ?_
    refine ha_A X hN hR hX hO V hT hna hn2 hB (x := x) hlt (N 1 0 0) 0 _ _ (by omega) (by omega) (by omega) (fun c7 s7 h71 h72 => ?_)
    refine k_iconst (v := (nI 0)) X dL_holdsAll_75 (by decide) ?_
    refine k_istore X dL_holdsAll_76 (by rw [hN]; decide) ?_
    refine k_lo (lo' := [(0, .ref (L (1, 0, 0))), (1, .ref (L (200, 0, 0))), (2, .int x), (3, .int (nI (kDn N + kcn (kWp N) (d + 1)))), (4, .int (nI 0)), (5, .int (nI 1)), (6, .int (nI d)), (7, .int (nI (kcn (kCq (S 5 d)) (N 1 0 0) + kcn (kMq (S 9 d)) 0))), (8, .int (nI 0))]) ⟨rfl, rfl, rfl, rfl, rfl, rfl, rfl, rfl, rfl, trivial⟩ ?_
    refine ha_B X hN hR hX hO V hT hna hn2 hB (x := x) hlt (N 2 d 0) 0 _ _ (by omega) (by omega) (by omega) (fun c8 s8 h81 h82 => ?_)
    refine k_iload X dL_holdsAll_217 rfl ?_
    refine k_if_eq (tgt := 237) X dL_holdsAll_219 (by decide) (fun c219 => absurd c219 (by decide)) (fun c219 => ?_)
    refine k_iload X dL_holdsAll_222 rfl ?_
    refine k_aload_n X dL_holdsAll_224 rfl rfl ?_
    refine k_iload X dL_holdsAll_225 rfl ?_
    refine k_callSH (rest := [.int (nI (kcn (kCq (S 5 d)) (N 1 0 0) + kcn (kMq (S 9 d)) (N 2 d 0)))]) X ksh_held kb_413 (g_held X.tr hX hO hlt) rfl rfl (Nat.le_of_ble_eq_true rfl) ⟨by rw [hR]; exact Nat.le_of_ble_eq_true rfl, by rw [hR]; exact Nat.le_of_ble_eq_true rfl⟩ ⟨by rw [hR]; dsimp only; omega, by rw [hR]; dsimp only; omega⟩ dL_holdsAll_227 (fun v227 C9 L9 h9 => ?_)
    obtain ⟨rfl, rfl, rfl⟩ := h9
    refine k_icmp_ne (tgt := 237) X dL_holdsAll_230 (by decide) (fun c230 => absurd c230 (fun z => z (kheld V hlt))) (fun c230 => ?_)
    refine k_iconst (v := (nI 1)) X dL_holdsAll_233 (by decide) ?_
    refine k_goto (tgt := 238) X dL_holdsAll_234 (by decide) ?_
    refine k_istore X dL_holdsAll_238 (by rw [hN]; decide) ?_
    refine k_iconst (v := (nI 0)) X dL_holdsAll_240 (by decide) ?_
    refine k_istore X dL_holdsAll_241 (by rw [hN]; decide) ?_
    refine k_lo (lo' := [(0, .ref (L (1, 0, 0))), (1, .ref (L (200, 0, 0))), (2, .int x), (3, .int (nI (kDn N + kcn (kWp N) (d + 1)))), (4, .int (nI 0)), (5, .int (nI 1)), (6, .int (nI d)), (7, .int (nI (kcn (kCq (S 5 d)) (N 1 0 0) + kcn (kMq (S 9 d)) (N 2 d 0)))), (8, .int (nI 0))]) ⟨rfl, rfl, rfl, rfl, rfl, rfl, rfl, rfl, rfl, trivial⟩ ?_
    refine ha_C X hN hR hX hO V hT hna hn2 hB (x := x) hlt (N 5 d 0) 0 _ _ (by omega) (by omega) (by omega) (fun c9 s9 h91 h92 => ?_)
    refine k_iinc (v := (nI (d + 1))) X dL_holdsAll_319 rfl (by rw [show Int32.ofInt 1 = nI 1 from by decide, nI_add]) (by rw [hN]; decide) ?_
    refine k_goto (tgt := 14) X dL_holdsAll_322 (by decide) ?_
    refine k_lo (lo' := [(0, .ref (L (1, 0, 0))), (1, .ref (L (200, 0, 0))), (2, .int x), (3, .int (nI (kDn N + kcn (kWp N) (d + 1)))), (4, .int (nI 0)), (5, .int (nI 1)), (6, .int (nI (d + 1)))]) ⟨rfl, rfl, rfl, rfl, rfl, rfl, rfl, trivial⟩ ?_
    exact ih (d + 1) _ _ (by omega) (by omega) (by omega) (fun c s h1 h2 => kk c s (by omega) (by omega))

set_option maxHeartbeats 4000000 in
set_option maxRecDepth 100000 in
theorem ha_E {Γ : kG} {E : kE} {A : Nat → Prop} {C : kC} {L : kL} {S : kI4} {N : kN3} (X : kX Γ E A cL_holdsAll RL) (hN : kNl Γ = 11) (hR : kRm Γ = ({ frames := 11, cells := 3900, slots := 23500, locals := 280 } : Room)) (hX : isX E C L S N) (hO : okX S N) {T : Nat} (V : vS S N T) (hT : T ≤ 10000) {f : Nat → Int32} (hna : kNa E C f) (hn2 : ∀ d, d < 4 → f d = nI (N 2 d 0)) (hB : ∀ d, d < 4 → N 3 d 0 ≤ 50) {x : Int32} {s3 : Nat} : ∀ (m k Z cells slots : Nat), k + m = N 1 0 0 → Z ≤ 20000 * k → cells + 12 * m ≤ 3900 → slots + 72 * m ≤ 23500 → (∀ Z c s, Z ≤ 20000 * 40 → c ≤ cells + 12 * m → s ≤ slots + 72 * m → kW Γ E A C L c s 416 [(0, .ref (L (1, 0, 0))), (1, .ref (L (200, 0, 0))), (2, .int x), (3, .int (nI s3)), (4, .int (nI Z)), (5, .int (nI 1))] []) → kW Γ E A C L cells slots 328 [(0, .ref (L (1, 0, 0))), (1, .ref (L (200, 0, 0))), (2, .int x), (3, .int (nI s3)), (4, .int (nI Z)), (5, .int (nI 1)), (6, .int (nI k))] [] := by
  have hj := hO.1
  intro m
  induction m with
  | zero =>
    intro k Z cells slots hk he hc hs kk
    refine k_iload X dL_holdsAll_328 rfl ?_
    refine k_aload_n X dL_holdsAll_330 rfl rfl ?_
    refine k_callV (rest := [.int (nI k)]) X kv_X5_jobs kb_59 (c_jobs X.tr hX hO) hX.1.1.1 rfl rfl rfl rfl rfl (Nat.le_of_ble_eq_true rfl) ⟨by rw [hR]; exact Nat.le_of_ble_eq_true rfl, by rw [hR]; exact Nat.le_of_ble_eq_true rfl⟩ ⟨by rw [hR]; dsimp only; omega, by rw [hR]; dsimp only; omega⟩ dL_holdsAll_331 (fun v331 C9 L9 h9 => ?_)
    obtain ⟨rfl, rfl, rfl⟩ := h9
    refine k_icmp_ge (tgt := 416) X dL_holdsAll_334 (by decide) (fun c334 => ?_) (fun c334 => absurd (nI_le (by omega) (by omega)) c334)
    refine k_lo (lo' := [(0, .ref (L (1, 0, 0))), (1, .ref (L (200, 0, 0))), (2, .int x), (3, .int (nI s3)), (4, .int (nI Z)), (5, .int (nI 1))]) ⟨rfl, rfl, rfl, rfl, rfl, rfl, trivial⟩ ?_
    exact kk Z _ _ (by omega) (by omega) (by omega)
  | succ m ih =>
    intro k Z cells slots hk he hc hs kk
    have hlt : k < N 1 0 0 := by omega
    obtain ⟨⟨a0, x0, b0⟩, ⟨a1, x1, b1⟩, ⟨a2, x2, b2⟩, ⟨a3, x3, b3⟩⟩ := V.2.1 k hlt
    have kk2 : ∀ Z c s, Z ≤ 20000 * 40 → c ≤ cells + 12 + 12 * m → s ≤ slots + 72 + 72 * m → kW Γ E A C L c s 416 [(0, .ref (L (1, 0, 0))), (1, .ref (L (200, 0, 0))), (2, .int x), (3, .int (nI s3)), (4, .int (nI Z)), (5, .int (nI 1))] [] := fun Z c s h0 h1 h2 => kk Z c s h0 (by omega) (by omega)
    refine k_iload X dL_holdsAll_328 rfl ?_
    refine k_aload_n X dL_holdsAll_330 rfl rfl ?_
    refine k_callV (rest := [.int (nI k)]) X kv_X5_jobs kb_59 (c_jobs X.tr hX hO) hX.1.1.1 rfl rfl rfl rfl rfl (Nat.le_of_ble_eq_true rfl) ⟨by rw [hR]; exact Nat.le_of_ble_eq_true rfl, by rw [hR]; exact Nat.le_of_ble_eq_true rfl⟩ ⟨by rw [hR]; dsimp only; omega, by rw [hR]; dsimp only; omega⟩ dL_holdsAll_331 (fun v331 C9 L9 h9 => ?_)
    obtain ⟨rfl, rfl, rfl⟩ := h9
    refine k_icmp_ge (tgt := 416) X dL_holdsAll_334 (by decide) (fun c334 => absurd c334 (nI_ge (by omega) (by omega))) (fun c334 => ?_)
    refine k_iload X dL_holdsAll_337 rfl ?_
    refine k_if_eq (tgt := 416) X dL_holdsAll_339 (by decide) (fun c339 => absurd c339 (by decide)) (fun c339 => ?_)
    refine k_iload X dL_holdsAll_342 rfl ?_
    refine k_aload_n X dL_holdsAll_344 rfl rfl ?_
    refine k_iload X dL_holdsAll_345 rfl ?_
    refine k_iconst (v := (nI 0)) X dL_holdsAll_347 (by decide) ?_
    refine k_callSH (rest := [.int (nI Z)]) X ksh_version kb_406 (g_version0 X.tr hX hO hlt) rfl rfl (Nat.le_of_ble_eq_true rfl) ⟨by rw [hR]; exact Nat.le_of_ble_eq_true rfl, by rw [hR]; exact Nat.le_of_ble_eq_true rfl⟩ ⟨by rw [hR]; dsimp only; omega, by rw [hR]; dsimp only; omega⟩ dL_holdsAll_348 (fun v348 C9 L9 h9 => ?_)
    obtain ⟨rfl, rfl, rfl⟩ := h9
    refine k_rw (y := nI a2) b2 ?_
    refine k_aload_n X dL_holdsAll_351 rfl rfl ?_
    refine k_iload X dL_holdsAll_352 rfl ?_
    refine k_iconst (v := (nI 1)) X dL_holdsAll_354 (by decide) ?_
    refine k_callSH (rest := [.int (nI a2), .int (nI Z)]) X ksh_version kb_406 (g_version1 X.tr hX hO hlt) rfl rfl (Nat.le_of_ble_eq_true rfl) ⟨by rw [hR]; exact Nat.le_of_ble_eq_true rfl, by rw [hR]; exact Nat.le_of_ble_eq_true rfl⟩ ⟨by rw [hR]; dsimp only; omega, by rw [hR]; dsimp only; omega⟩ dL_holdsAll_355 (fun v355 C9 L9 h9 => ?_)
    obtain ⟨rfl, rfl, rfl⟩ := h9
    refine k_rw (y := nI a3) b3 ?_
    refine k_iaddN X dL_holdsAll_358 ?_
    refine k_iaddN X dL_holdsAll_359 ?_
    refine k_istore X dL_holdsAll_360 (by rw [hN]; decide) ?_
    refine k_aload_n X dL_holdsAll_362 rfl rfl ?_
    refine k_iload X dL_holdsAll_363 rfl ?_
    refine k_iconst (v := (nI 0)) X dL_holdsAll_365 (by decide) ?_
    refine k_callSH (rest := []) X ksh_value kb_395 (g_value0 X.tr hX hO hlt) rfl rfl (Nat.le_of_ble_eq_true rfl) ⟨by rw [hR]; exact Nat.le_of_ble_eq_true rfl, by rw [hR]; exact Nat.le_of_ble_eq_true rfl⟩ ⟨by rw [hR]; dsimp only; omega, by rw [hR]; dsimp only; omega⟩ dL_holdsAll_366 (fun v366 C9 L9 h9 => ?_)
    obtain ⟨rfl, rfl, rfl⟩ := h9
    refine k_rw (y := nI a0) b0 ?_
    refine k_if_lt (tgt := 407) X dL_holdsAll_369 (by decide) (fun c369 => absurd c369 (nI_pos (by omega))) (fun c369 => ?_)
    refine k_aload_n X dL_holdsAll_372 rfl rfl ?_
    refine k_iload X dL_holdsAll_373 rfl ?_
    refine k_iconst (v := (nI 0)) X dL_holdsAll_375 (by decide) ?_
    refine k_callSH (rest := []) X ksh_value kb_395 (g_value0 X.tr hX hO hlt) rfl rfl (Nat.le_of_ble_eq_true rfl) ⟨by rw [hR]; exact Nat.le_of_ble_eq_true rfl, by rw [hR]; exact Nat.le_of_ble_eq_true rfl⟩ ⟨by rw [hR]; dsimp only; omega, by rw [hR]; dsimp only; omega⟩ dL_holdsAll_376 (fun v376 C9 L9 h9 => ?_)
    obtain ⟨rfl, rfl, rfl⟩ := h9
    refine k_rw (y := nI a0) b0 ?_
    refine k_iconst (v := (nI 2)) X dL_holdsAll_379 (by decide) ?_
    refine k_icmp_gt (tgt := 407) X dL_holdsAll_380 (by decide) (fun c380 => absurd c380 (nI_nlt x0 (by decide))) (fun c380 => ?_)
    refine k_aload_n X dL_holdsAll_383 rfl rfl ?_
    refine k_iload X dL_holdsAll_384 rfl ?_
    refine k_iconst (v := (nI 1)) X dL_holdsAll_386 (by decide) ?_
    refine k_callSH (rest := []) X ksh_value kb_395 (g_value1 X.tr hX hO hlt) rfl rfl (Nat.le_of_ble_eq_true rfl) ⟨by rw [hR]; exact Nat.le_of_ble_eq_true rfl, by rw [hR]; exact Nat.le_of_ble_eq_true rfl⟩ ⟨by rw [hR]; dsimp only; omega, by rw [hR]; dsimp only; omega⟩ dL_holdsAll_387 (fun v387 C9 L9 h9 => ?_)
    obtain ⟨rfl, rfl, rfl⟩ := h9
    refine k_rw (y := nI a1) b1 ?_
    refine k_if_lt (tgt := 407) X dL_holdsAll_390 (by decide) (fun c390 => absurd c390 (nI_pos (by omega))) (fun c390 => ?_)
    refine k_aload_n X dL_holdsAll_393 rfl rfl ?_
    refine k_iload X dL_holdsAll_394 rfl ?_
    refine k_iconst (v := (nI 0)) X dL_holdsAll_396 (by decide) ?_
    refine k_callSH (rest := []) X ksh_version kb_406 (g_version0 X.tr hX hO hlt) rfl rfl (Nat.le_of_ble_eq_true rfl) ⟨by rw [hR]; exact Nat.le_of_ble_eq_true rfl, by rw [hR]; exact Nat.le_of_ble_eq_true rfl⟩ ⟨by rw [hR]; dsimp only; omega, by rw [hR]; dsimp only; omega⟩ dL_holdsAll_397 (fun v397 C9 L9 h9 => ?_)
    obtain ⟨rfl, rfl, rfl⟩ := h9
    refine k_rw (y := nI a2) b2 ?_
    refine k_if_lt (tgt := 407) X dL_holdsAll_400 (by decide) (fun c400 => absurd c400 (nI_pos (by omega))) (fun c400 => ?_)
    refine k_iconst (v := (nI 1)) X dL_holdsAll_403 (by decide) ?_
    refine k_goto (tgt := 408) X dL_holdsAll_404 (by decide) ?_
    refine k_istore X dL_holdsAll_408 (by rw [hN]; decide) ?_
    refine k_iinc (v := (nI (k + 1))) X dL_holdsAll_410 rfl (by rw [show Int32.ofInt 1 = nI 1 from by decide, nI_add]) (by rw [hN]; decide) ?_
    refine k_goto (tgt := 328) X dL_holdsAll_413 (by decide) ?_
    refine k_lo (lo' := [(0, .ref (L (1, 0, 0))), (1, .ref (L (200, 0, 0))), (2, .int x), (3, .int (nI s3)), (4, .int (nI (Z + (a2 + a3)))), (5, .int (nI 1)), (6, .int (nI (k + 1)))]) ⟨rfl, rfl, rfl, rfl, rfl, rfl, rfl, trivial⟩ ?_
    exact ih (k + 1) (Z + (a2 + a3)) _ _ (by omega) (by omega) (by omega) (by omega) kk2

set_option maxHeartbeats 4000000 in
set_option maxRecDepth 100000 in
theorem l_holdsAll {l : Launch} (htr : l.stackTraces = false) {E : kE} {A : Nat → Prop} {C : kC} {L : kL} {S : kI4} {N : kN3} (hX : isX E C L S N) (hO : okX S N) {T : Nat} (V : vS S N T) (hT : T ≤ 10000) {f : Nat → Int32} (hna : kNa E C f) (hn2 : ∀ d, d < 4 → f d = nI (N 2 d 0)) (hB : ∀ d, d < 4 → N 3 d 0 ≤ 50) (hdn : S 12 0 0 0 = nI (kDn N)) : kM l yL_holdsAll cL_holdsAll 11 (some .boolean) 11 280 3900 23500 E A C L [.ref (L (1, 0, 0)), .ref (L (200, 0, 0)), .int (nI (kA3 N))] (fun v C' L' => v = some (.int (nI 1)) ∧ L = L' ∧ C = C') := by
  have hj := hO.1
  refine kM.of htr (by decide) (Nat.le_of_ble_eq_true rfl) (fun Γ hl hR hN hnm X hE => ?_)
  refine k_lo (lo' := [(0, .ref (L (1, 0, 0))), (1, .ref (L (200, 0, 0))), (2, .int (nI (kA3 N)))]) ⟨rfl, rfl, rfl, trivial⟩ ?_
  refine k_aload_n X dL_holdsAll_0 rfl rfl ?_
  refine k_callV (rest := []) X kv_X5_done kb_473 (c_done X.tr hX hO) hX.1.1.1 rfl rfl rfl rfl rfl (Nat.le_of_ble_eq_true rfl) ⟨by rw [hR]; exact Nat.le_of_ble_eq_true rfl, by rw [hR]; exact Nat.le_of_ble_eq_true rfl⟩ ⟨by rw [hR]; dsimp only; omega, by rw [hR]; dsimp only; omega⟩ dL_holdsAll_1 (fun v1 C9 L9 h9 => ?_)
  obtain ⟨rfl, rfl, rfl⟩ := h9
  refine k_rw (y := nI (kDn N + kcn (kWp N) 0)) hdn ?_
  refine k_istore_n X dL_holdsAll_4 rfl (by rw [hN]; decide) ?_
  refine k_iconst (v := (nI 0)) X dL_holdsAll_5 (by decide) ?_
  refine k_istore X dL_holdsAll_6 (by rw [hN]; decide) ?_
  refine k_iconst (v := (nI 1)) X dL_holdsAll_8 (by decide) ?_
  refine k_istore X dL_holdsAll_9 (by rw [hN]; decide) ?_
  refine k_iconst (v := (nI 0)) X dL_holdsAll_11 (by decide) ?_
  refine k_istore X dL_holdsAll_12 (by rw [hN]; decide) ?_
  refine k_lo (lo' := [(0, .ref (L (1, 0, 0))), (1, .ref (L (200, 0, 0))), (2, .int (nI (kA3 N))), (3, .int (nI (kDn N + kcn (kWp N) 0))), (4, .int (nI 0)), (5, .int (nI 1)), (6, .int (nI 0))]) ⟨rfl, rfl, rfl, rfl, rfl, rfl, rfl, trivial⟩ ?_
  refine ha_D X hN hR hX hO V hT hna hn2 hB (x := nI (kA3 N)) 4 0 _ _ (by omega) (by omega) (by omega) (fun c8 s8 h81 h82 => ?_)
  refine k_iconst (v := (nI 0)) X dL_holdsAll_325 (by decide) ?_
  refine k_istore X dL_holdsAll_326 (by rw [hN]; decide) ?_
  refine k_lo (lo' := [(0, .ref (L (1, 0, 0))), (1, .ref (L (200, 0, 0))), (2, .int (nI (kA3 N))), (3, .int (nI (kDn N + kcn (kWp N) 4))), (4, .int (nI 0)), (5, .int (nI 1)), (6, .int (nI 0))]) ⟨rfl, rfl, rfl, rfl, rfl, rfl, rfl, trivial⟩ ?_
  refine ha_E X hN hR hX hO V hT hna hn2 hB (x := nI (kA3 N)) (N 1 0 0) 0 0 _ _ (by omega) (by omega) (by omega) (by omega) (fun Z c9 s9 hZ h91 h92 => ?_)
  refine k_iload X dL_holdsAll_416 rfl ?_
  refine k_if_eq (tgt := 435) X dL_holdsAll_418 (by decide) (fun c418 => absurd c418 (by decide)) (fun c418 => ?_)
  refine k_iload_n X dL_holdsAll_421 rfl rfl ?_
  refine k_iload_n X dL_holdsAll_422 rfl rfl ?_
  refine k_icmp_ne (tgt := 435) X dL_holdsAll_423 (by decide) (fun c423 => absurd c423 (fun z => z (congrArg nI (kDn_sum hO V)))) (fun c423 => ?_)
  refine k_iload X dL_holdsAll_426 rfl ?_
  refine k_if_lt (tgt := 435) X dL_holdsAll_428 (by decide) (fun c428 => absurd c428 (nI_pos (by omega))) (fun c428 => ?_)
  refine k_iconst (v := (nI 1)) X dL_holdsAll_431 (by decide) ?_
  refine k_goto (tgt := 436) X dL_holdsAll_432 (by decide) ?_
  exact k_zret X hE kz1 dL_holdsAll_436 (by first | omega | exact Nat.le_of_ble_eq_true rfl | (dsimp only; omega)) (by first | omega | exact Nat.le_of_ble_eq_true rfl | (dsimp only; omega)) ⟨rfl, rfl, rfl⟩
