theorem a_add {l : Launch} (htr : l.stackTraces = false) {E : kE} {A : Nat → Prop} {C : kC} {L : kL} {S : kI4} {N : kN3} (hX : isX E C L S N) (hO : okX S N) {x : Nat} (hx : x % 16 < 2) : kMH l yL_adds cL_adds 4 (some .int) [(0, 6, 7, 13), (0, 6, 11, 16)] 8 193 6 110 E A C L [.ref (L (1, 0, 0)), .int (nI (aD x)), .int (nI (x / 16 / 4 % 10))] (fun v C' L' => ∃ r S' N', v = some (.int r) ∧ kAct8 S N x r S' N' ∧ isX E C' L' S' N' ∧ kFr C L C' L' ∧ L' (1, 0, 0) = L (1, 0, 0)) := by
  have hj := hO.1
  have hd := aD_lt x
  refine (h_add htr hX hO (nI (aD x)) (nI (x / 16 / 4 % 10))).imp (fun v C' L' h => ?_)
  have h10 := Nat.mod_lt (x / 16 / 4) (show 0 < 10 by decide)
  rcases h with h | h | h
  · obtain ⟨⟨_, a1, a2, a3⟩, a4, a5⟩ := h
    exact ⟨_, _, _, a2, Or.inl (⟨hx, Or.inl ⟨a1, rfl, rfl, rfl⟩⟩), a3, a4, a5 _ (Nat.le_refl 1)⟩
  · obtain ⟨_, b, _⟩ := h
    exact absurd ⟨kin_ok (by omega) (by decide), kin_ok (by omega) (by decide)⟩ b
  · obtain ⟨a1, b, rfl, rfl⟩ := h
    exact ⟨_, _, _, a1, Or.inl (⟨hx, Or.inr ⟨b.2.2, rfl, rfl, rfl⟩⟩), hX, kFr.rf, rfl⟩

theorem a_give {l : Launch} (htr : l.stackTraces = false) {E : kE} {A : Nat → Prop} {C : kC} {L : kL} {S : kI4} {N : kN3} (hX : isX E C L S N) (hO : okX S N) {x : Nat} (hx : x % 16 = 2) : kMH l yL_gives cL_gives 4 (some .int) [(0, 6, 7, 22), (0, 6, 11, 13)] 8 128 2 12 E A C L [.ref (L (1, 0, 0)), .int (nI (aJ N x)), .int (nI (x / 16 / 160 % 4))] (fun v C' L' => ∃ r S' N', v = some (.int r) ∧ kAct8 S N x r S' N' ∧ isX E C' L' S' N' ∧ kFr C L C' L' ∧ L' (1, 0, 0) = L (1, 0, 0)) := by
  have hj := hO.1
  have hd := aD_lt x
  refine (h_give htr hX hO (nI (aJ N x)) (nI (x / 16 / 160 % 4))).imp (fun v C' L' h => ?_)
  have h4 := Nat.mod_lt (x / 16 / 160) (show 0 < 4 by decide)
  rcases h with h | h | h
  · obtain ⟨⟨i, a1, a2, _, a3, a4⟩, rfl, a5⟩ := h
    have z : aJ N x = i := nI_inj a2 (by rcases Nat.eq_zero_or_pos (N 1 0 0) with z | z <;> (first | omega | (unfold aJ; rw [if_neg (by omega)]; have := Nat.mod_lt (x / 16 / 4) z; omega))) (by omega)
    subst z
    exact ⟨_, _, _, a3, Or.inr (Or.inl (⟨hx, Or.inl ⟨a1, rfl, rfl, rfl⟩⟩)), a4, a5, rfl⟩
  · obtain ⟨a1, b, rfl, rfl⟩ := h
    exact ⟨_, _, _, a1, Or.inr (Or.inl (⟨hx, Or.inr ⟨fun z => b (kix.of z (by omega)), rfl, rfl, rfl⟩⟩)), hX, kFr.rf, rfl⟩
  · obtain ⟨_, b, _⟩ := h
    exact absurd (kin_ok (by omega) (by decide)) b.2

theorem a_set {l : Launch} (htr : l.stackTraces = false) {E : kE} {A : Nat → Prop} {C : kC} {L : kL} {S : kI4} {N : kN3} (hX : isX E C L S N) (hO : okX S N) {x : Nat} (hx : x % 16 = 3 ∨ x % 16 = 4) : kMH l yL_sets cL_sets 5 (some .int) [(0, 7, 8, 22), (0, 7, 13, 13)] 10 169 3 18 E A C L [.ref (L (1, 0, 0)), .int (nI (aJ N x)), .int (nI (aF x)), .int (nI (aV x))] (fun v C' L' => ∃ r S' N', v = some (.int r) ∧ kAct8 S N x r S' N' ∧ isX E C' L' S' N' ∧ kFr C L C' L' ∧ L' (1, 0, 0) = L (1, 0, 0)) := by
  have hj := hO.1
  have hd := aD_lt x
  refine (h_set htr hX hO (nI (aJ N x)) (nI (aF x)) (nI (aV x))).imp (fun v C' L' h => ?_)
  have h4 := Nat.mod_lt (x / 16 / 160) (show 0 < 4 by decide)
  rcases h with h | h | h
  · obtain ⟨⟨i, a1, a2, _, a3, a4⟩, rfl, a5⟩ := h
    have z : aJ N x = i := nI_inj a2 (by rcases Nat.eq_zero_or_pos (N 1 0 0) with z | z <;> (first | omega | (unfold aJ; rw [if_neg (by omega)]; have := Nat.mod_lt (x / 16 / 4) z; omega))) (by omega)
    subst z
    exact ⟨_, _, _, a3, Or.inr (Or.inr (Or.inl (⟨hx, Or.inl ⟨a1, rfl, rfl, rfl⟩⟩))), a4, a5, rfl⟩
  · obtain ⟨a1, b, rfl, rfl⟩ := h
    exact ⟨_, _, _, a1, Or.inr (Or.inr (Or.inl (⟨hx, Or.inr ⟨fun z => b (kix.of z (by omega)), rfl, rfl, rfl⟩⟩))), hX, kFr.rf, rfl⟩
  · obtain ⟨_, b, _⟩ := h
    exact absurd (aV_kin x) b.2

theorem a_room {l : Launch} (htr : l.stackTraces = false) {E : kE} {A : Nat → Prop} {C : kC} {L : kL} {S : kI4} {N : kN3} (hX : isX E C L S N) (hO : okX S N) {x : Nat} (hx : x % 16 = 5) : kMH l yL_rooms cL_rooms 4 (some .int) [(0, 6, 7, 22), (0, 6, 11, 13)] 8 128 2 12 E A C L [.ref (L (1, 0, 0)), .int (nI (aD x)), .int (nI (x / 16 / 4 % 41))] (fun v C' L' => ∃ r S' N', v = some (.int r) ∧ kAct8 S N x r S' N' ∧ isX E C' L' S' N' ∧ kFr C L C' L' ∧ L' (1, 0, 0) = L (1, 0, 0)) := by
  have hj := hO.1
  have hd := aD_lt x
  refine (h_setRoom htr hX hO (nI (aD x)) (nI (x / 16 / 4 % 41))).imp (fun v C' L' h => ?_)
  have h41 := Nat.mod_lt (x / 16 / 4) (show 0 < 41 by decide)
  rcases h with h | h | h
  · obtain ⟨⟨e, a1, a2, _, a3, a4⟩, rfl, a5⟩ := h
    have z := nI_d a2 hd a1
    subst z
    exact ⟨_, _, _, a3, Or.inr (Or.inr (Or.inr (Or.inl (⟨hx, rfl, rfl, rfl⟩)))), a4, a5, rfl⟩
  · obtain ⟨_, b, _⟩ := h
    exact absurd (kix.of hd (by decide)) b
  · obtain ⟨_, b, _⟩ := h
    exact absurd (kin_ok (by omega) (by decide)) b.2

theorem a_fetch {l : Launch} (htr : l.stackTraces = false) {E : kE} {A : Nat → Prop} {C : kC} {L : kL} {S : kI4} {N : kN3} (hX : isX E C L S N) (hO : okX S N) {x : Nat} (hx : x % 16 = 6 ∨ x % 16 = 7) : kMH l yL_fetches cL_fetches 3 (some .int) [(0, 5, 6, 22)] 8 125 121 486 E A C L [.ref (L (1, 0, 0)), .int (nI (aD x))] (fun v C' L' => ∃ r S' N', v = some (.int r) ∧ kAct8 S N x r S' N' ∧ isX E C' L' S' N' ∧ kFr C L C' L' ∧ L' (1, 0, 0) = L (1, 0, 0)) := by
  have hj := hO.1
  have hd := aD_lt x
  refine (h_fetch htr hX hO (nI (aD x))).imp (fun v C' L' h => ?_)
  rcases h with h | h
  · obtain ⟨⟨e, a1, a2, a3, a4⟩, a5, a6⟩ := h
    have z := nI_d a2 hd a1
    subst z
    exact ⟨_, _, _, a3, Or.inr (Or.inr (Or.inr (Or.inr (Or.inl (⟨hx, rfl, rfl, rfl⟩))))), a4, a5, a6 _ (by decide)⟩
  · obtain ⟨_, b, _⟩ := h
    exact absurd (kix.of hd (by decide)) b

theorem a_chg {l : Launch} (htr : l.stackTraces = false) {E : kE} {A : Nat → Prop} {C : kC} {L : kL} {S : kI4} {N : kN3} (hX : isX E C L S N) (hO : okX S N) {x : Nat} (h512 : ∀ d, d < 4 → N 3 d 0 < 512) (hx : x % 16 = 8 ∨ x % 16 = 9 ∨ x % 16 = 10) : kMH l yL_changes cL_changes 6 (some .int) [(0, 9, 10, 22), (0, 9, 15, 13), (0, 9, 20, 16)] 10 221 6 830 E A C L [.ref (L (1, 0, 0)), .int (nI (aD x)), .int (nI (aJ N x)), .int (nI (aF x)), .int (nI (aV x))] (fun v C' L' => ∃ r S' N', v = some (.int r) ∧ kAct8 S N x r S' N' ∧ isX E C' L' S' N' ∧ kFr C L C' L' ∧ L' (1, 0, 0) = L (1, 0, 0)) := by
  have hj := hO.1
  have hd := aD_lt x
  refine (h_change htr hX hO h512 (nI (aD x)) (nI (aJ N x)) (nI (aF x)) (nI (aV x))).imp (fun v C' L' h => ?_)
  rcases h with h | h | h | h
  · obtain ⟨⟨e, a1, a2, _, ff, fS, kk, b1, b2, a3, a4⟩, a5, a6⟩ := h
    have z := nI_d a2 hd a1
    subst z
    exact ⟨_, _, _, a3, Or.inr (Or.inr (Or.inr (Or.inr (Or.inr (Or.inl (⟨hx, Or.inl ⟨ff, fS, kk, b1, b2, rfl, rfl, rfl⟩⟩)))))), a4, a5, a6 _ (Nat.le_refl 1)⟩
  · obtain ⟨_, b, _⟩ := h
    exact absurd (kix.of hd (by decide)) b
  · obtain ⟨_, b, _⟩ := h
    exact absurd (aV_kin x) b.2
  · obtain ⟨a3, ⟨e, a1, a2, _, b⟩, rfl, rfl⟩ := h
    have z := nI_d a2 hd a1
    subst z
    exact ⟨_, _, _, a3, Or.inr (Or.inr (Or.inr (Or.inr (Or.inr (Or.inl (⟨hx, Or.inr ⟨b, rfl, rfl, rfl⟩⟩)))))), hX, kFr.rf, rfl⟩

theorem a_own {l : Launch} (htr : l.stackTraces = false) {E : kE} {A : Nat → Prop} {C : kC} {L : kL} {S : kI4} {N : kN3} (hX : isX E C L S N) (hO : okX S N) {x : Nat} (h512 : ∀ d, d < 4 → N 3 d 0 < 512) (hx : x % 16 = 11) : kMH l yL_changes cL_changes 6 (some .int) [(0, 9, 10, 22), (0, 9, 15, 13), (0, 9, 20, 16)] 10 221 6 830 E A C L [.ref (L (1, 0, 0)), .int (nI (aD x)), .int (nI (1000 + aO N x)), .int (nI (aF x)), .int (nI (aV x))] (fun v C' L' => ∃ r S' N', v = some (.int r) ∧ kAct8 S N x r S' N' ∧ isX E C' L' S' N' ∧ kFr C L C' L' ∧ L' (1, 0, 0) = L (1, 0, 0)) := by
  have hj := hO.1
  have hd := aD_lt x
  refine (h_change htr hX hO h512 (nI (aD x)) (nI (1000 + aO N x)) (nI (aF x)) (nI (aV x))).imp (fun v C' L' h => ?_)
  rcases h with h | h | h | h
  · obtain ⟨⟨e, a1, a2, _, ff, fS, kk, b1, b2, a3, a4⟩, a5, a6⟩ := h
    have z := nI_d a2 hd a1
    subst z
    exact ⟨_, _, _, a3, Or.inr (Or.inr (Or.inr (Or.inr (Or.inr (Or.inr (Or.inl (⟨hx, Or.inl ⟨ff, fS, kk, b1, b2, rfl, rfl, rfl⟩⟩))))))), a4, a5, a6 _ (Nat.le_refl 1)⟩
  · obtain ⟨_, b, _⟩ := h
    exact absurd (kix.of hd (by decide)) b
  · obtain ⟨_, b, _⟩ := h
    exact absurd (aV_kin x) b.2
  · obtain ⟨a3, ⟨e, a1, a2, _, b⟩, rfl, rfl⟩ := h
    have z := nI_d a2 hd a1
    subst z
    exact ⟨_, _, _, a3, Or.inr (Or.inr (Or.inr (Or.inr (Or.inr (Or.inr (Or.inl (⟨hx, Or.inr ⟨b, rfl, rfl, rfl⟩⟩))))))), hX, kFr.rf, rfl⟩

theorem a_make {l : Launch} (htr : l.stackTraces = false) {E : kE} {A : Nat → Prop} {C : kC} {L : kL} {S : kI4} {N : kN3} (hX : isX E C L S N) (hO : okX S N) {x : Nat} (h512 : ∀ d, d < 4 → N 2 d 0 < 512 ∧ N 3 d 0 < 512) (hx : x % 16 = 12) : kMH l yL_makes cL_makes 4 (some .int) [(0, 6, 7, 22), (0, 6, 11, 13)] 9 216 7 1620 E A C L [.ref (L (1, 0, 0)), .int (nI (aD x)), .int (nI (x / 16 / 4 % 10))] (fun v C' L' => ∃ r S' N', v = some (.int r) ∧ kAct8 S N x r S' N' ∧ isX E C' L' S' N' ∧ kFr C L C' L' ∧ L' (1, 0, 0) = L (1, 0, 0)) := by
  have hj := hO.1
  have hd := aD_lt x
  refine (h_make htr hX hO h512 (nI (aD x)) (nI (x / 16 / 4 % 10))).imp (fun v C' L' h => ?_)
  have h10 := Nat.mod_lt (x / 16 / 4) (show 0 < 10 by decide)
  rcases h with h | h | h
  · obtain ⟨⟨e, a1, a2, _, a3, a4⟩, a5, a6⟩ := h
    have z := nI_d a2 hd a1
    subst z
    exact ⟨_, _, _, a3, Or.inr (Or.inr (Or.inr (Or.inr (Or.inr (Or.inr (Or.inr (Or.inl (⟨hx, rfl, rfl, rfl⟩)))))))), a4, a5, a6 _ (Nat.le_refl 1)⟩
  · obtain ⟨_, b, _⟩ := h
    exact absurd (kix.of hd (by decide)) b
  · obtain ⟨_, b, _⟩ := h
    exact absurd (kin_ok (by omega) (by decide)) b.2

theorem a_send {l : Launch} (htr : l.stackTraces = false) {E : kE} {A : Nat → Prop} {C : kC} {L : kL} {S : kI4} {N : kN3} (hX : isX E C L S N) (hO : okX S N) (h54 : ∀ d, d < 4 → N 5 d 0 ≤ N 4 d 0) {d mo : Nat} (hd : d < 4) (h1 : 1 ≤ mo) (h2 : mo ≤ 100) (m0 : Nat) (hm0 : min mo (N 3 d 0 - N 4 d 0) ≤ m0) : kMH l yL_sends cL_sends 4 (some .int) [(0, 6, 7, 22), (0, 6, 11, 13)] 10 245 (2 + 6 * m0) (12 + 900 * m0) E A C L [.ref (L (1, 0, 0)), .int (nI d), .int (nI mo)] (fun v C' L' => ∃ c S1 N', v = some (.int (nI c)) ∧ xSnd S N d (min mo (N 3 d 0 - N 4 d 0)) c S1 N' ∧ isX E C' L' (s12 S1 (S1 12 0 0 0 + nI c)) N' ∧ kFr C L C' L' ∧ L' (1, 0, 0) = L (1, 0, 0)) := by
  refine (h_send htr hX hO h54 (nI d) (nI mo) m0 (fun e q he e1 hq e2 => ?_)).imp (fun v C' L' h => ?_)
  · have z := nI_d e1 hd he
    have y := nI_inj e2 (by omega) (by omega)
    subst z; subst y
    exact hm0
  · rcases h with h | h | h
    · obtain ⟨⟨e, a1, a2, q, b1, b2, b3, c, S1, N1, a3, a4, a5⟩, a6, a7⟩ := h
      have z := nI_d a2 hd a1
      have y := nI_inj b3 (by omega) (by omega)
      subst z; subst y
      exact ⟨c, S1, N1, a4, a3, a5, a6, a7 _ (Nat.le_refl 1)⟩
    · obtain ⟨_, b, _⟩ := h
      exact absurd (kix.of hd (by decide)) b
    · obtain ⟨_, b, _⟩ := h
      exact absurd ⟨nI_nlt h1 (by omega), nI_le h2 (by decide)⟩ b.2

set_option maxHeartbeats 4000000 in
set_option maxRecDepth 100000 in
theorem ac_add {Γ : kG} {E : kE} {A : Nat → Prop} {C : kC} {L : kL} {S : kI4} {N : kN3} {x b sg : Nat} (X : kX Γ E A cL_act RL) (hN : kNl Γ = 13) (hR : kRm Γ = ({ frames := 11, cells := 130 + 9 * b, slots := 1700 + 918 * b, locals := 280 } : Room)) (hX : isX E C L S N) (hO : okX S N) {T : Nat} (V : vS S N T) {f : Nat → Int32} (hna : kNa E C f) (hn2 : ∀ d, d < 4 → f d = nI (N 2 d 0)) (hb : ∀ d, d < 4 → N 3 d 0 ≤ b) (hb5 : b < 500) (hx : x < 2 ^ 31) (hsg : sg < 2) (hE : kEnd Γ E A (fun v C' L' => ∃ r S' N', v = some (.int r) ∧ kAct8 S N x r S' N' ∧ isX E C' L' S' N' ∧ kFr C L C' L' ∧ L' (1, 0, 0) = L (1, 0, 0)) (130 + 9 * b) (1700 + 918 * b) (some .int)) (hc : x % 16 < 2) : kW Γ E A C L 0 0 168 [(0, .ref (L (1, 0, 0))), (1, .ref (L (200, 0, 0))), (2, .int (nI x)), (3, .int (nI sg)), (4, .int (nI (x / 16))), (5, .int (nI (aD x))), (6, .int (nI (aJ N x))), (7, .int (nI (1000 + aO N x))), (8, .int (nI (aF x))), (9, .int (nI (aV x)))] [] := by
  have h3b : ∀ d, d < 4 → N 3 d 0 < 512 := fun d hd => by have := hb d hd; omega
  have h23b : ∀ d, d < 4 → N 2 d 0 < 512 ∧ N 3 d 0 < 512 := fun d hd => ⟨by have := hb d hd; have := V.m2 hd; omega, h3b d hd⟩
  refine k_aload_n X dL_act_168 rfl rfl ?_
  refine k_iload X dL_act_169 rfl ?_
  refine k_iload X dL_act_171 rfl ?_
  refine k_iconst (v := (nI 4)) X dL_act_173 (by decide) ?_
  refine k_idivN X (by omega) (by omega) (by omega) dL_act_174 ?_
  refine k_bipush (v := (nI 10)) X dL_act_175 (by decide) ?_
  refine k_iremN X (by omega) (by omega) (by omega) dL_act_177 ?_
  refine k_callSH (rest := []) X ksh_add kb_68 (a_add X.tr hX hO hc) rfl rfl (Nat.le_of_ble_eq_true rfl) ⟨by rw [hR]; exact Nat.le_of_ble_eq_true rfl, by rw [hR]; exact Nat.le_of_ble_eq_true rfl⟩ ⟨by rw [hR]; dsimp only; omega, by rw [hR]; dsimp only; omega⟩ dL_act_178 (fun v178 C9 L9 h9 => ?_)
  obtain ⟨r, S2, N2, rfl, h1, h2, h3, h4⟩ := h9
  exact k_iret X hE dL_act_181 (by first | omega | exact Nat.le_of_ble_eq_true rfl | (dsimp only; omega)) (by first | omega | exact Nat.le_of_ble_eq_true rfl | (dsimp only; omega)) ⟨r, S2, N2, rfl, h1, h2, h3, h4⟩

set_option maxHeartbeats 4000000 in
set_option maxRecDepth 100000 in
theorem ac_give {Γ : kG} {E : kE} {A : Nat → Prop} {C : kC} {L : kL} {S : kI4} {N : kN3} {x b sg : Nat} (X : kX Γ E A cL_act RL) (hN : kNl Γ = 13) (hR : kRm Γ = ({ frames := 11, cells := 130 + 9 * b, slots := 1700 + 918 * b, locals := 280 } : Room)) (hX : isX E C L S N) (hO : okX S N) {T : Nat} (V : vS S N T) {f : Nat → Int32} (hna : kNa E C f) (hn2 : ∀ d, d < 4 → f d = nI (N 2 d 0)) (hb : ∀ d, d < 4 → N 3 d 0 ≤ b) (hb5 : b < 500) (hx : x < 2 ^ 31) (hsg : sg < 2) (hE : kEnd Γ E A (fun v C' L' => ∃ r S' N', v = some (.int r) ∧ kAct8 S N x r S' N' ∧ isX E C' L' S' N' ∧ kFr C L C' L' ∧ L' (1, 0, 0) = L (1, 0, 0)) (130 + 9 * b) (1700 + 918 * b) (some .int)) (hc : x % 16 = 2) : kW Γ E A C L 0 0 182 [(0, .ref (L (1, 0, 0))), (1, .ref (L (200, 0, 0))), (2, .int (nI x)), (3, .int (nI sg)), (4, .int (nI (x / 16))), (5, .int (nI (aD x))), (6, .int (nI (aJ N x))), (7, .int (nI (1000 + aO N x))), (8, .int (nI (aF x))), (9, .int (nI (aV x)))] [] := by
  have h3b : ∀ d, d < 4 → N 3 d 0 < 512 := fun d hd => by have := hb d hd; omega
  have h23b : ∀ d, d < 4 → N 2 d 0 < 512 ∧ N 3 d 0 < 512 := fun d hd => ⟨by have := hb d hd; have := V.m2 hd; omega, h3b d hd⟩
  refine k_aload_n X dL_act_182 rfl rfl ?_
  refine k_iload X dL_act_183 rfl ?_
  refine k_iload X dL_act_185 rfl ?_
  refine k_sipush (v := (nI 160)) X dL_act_187 (by decide) ?_
  refine k_idivN X (by omega) (by omega) (by omega) dL_act_190 ?_
  refine k_iconst (v := (nI 4)) X dL_act_191 (by decide) ?_
  refine k_iremN X (by omega) (by omega) (by omega) dL_act_192 ?_
  refine k_callSH (rest := []) X ksh_give kb_158 (a_give X.tr hX hO hc) rfl rfl (Nat.le_of_ble_eq_true rfl) ⟨by rw [hR]; exact Nat.le_of_ble_eq_true rfl, by rw [hR]; exact Nat.le_of_ble_eq_true rfl⟩ ⟨by rw [hR]; dsimp only; omega, by rw [hR]; dsimp only; omega⟩ dL_act_193 (fun v193 C9 L9 h9 => ?_)
  obtain ⟨r, S2, N2, rfl, h1, h2, h3, h4⟩ := h9
  exact k_iret X hE dL_act_196 (by first | omega | exact Nat.le_of_ble_eq_true rfl | (dsimp only; omega)) (by first | omega | exact Nat.le_of_ble_eq_true rfl | (dsimp only; omega)) ⟨r, S2, N2, rfl, h1, h2, h3, h4⟩

set_option maxHeartbeats 4000000 in
set_option maxRecDepth 100000 in
theorem ac_set {Γ : kG} {E : kE} {A : Nat → Prop} {C : kC} {L : kL} {S : kI4} {N : kN3} {x b sg : Nat} (X : kX Γ E A cL_act RL) (hN : kNl Γ = 13) (hR : kRm Γ = ({ frames := 11, cells := 130 + 9 * b, slots := 1700 + 918 * b, locals := 280 } : Room)) (hX : isX E C L S N) (hO : okX S N) {T : Nat} (V : vS S N T) {f : Nat → Int32} (hna : kNa E C f) (hn2 : ∀ d, d < 4 → f d = nI (N 2 d 0)) (hb : ∀ d, d < 4 → N 3 d 0 ≤ b) (hb5 : b < 500) (hx : x < 2 ^ 31) (hsg : sg < 2) (hE : kEnd Γ E A (fun v C' L' => ∃ r S' N', v = some (.int r) ∧ kAct8 S N x r S' N' ∧ isX E C' L' S' N' ∧ kFr C L C' L' ∧ L' (1, 0, 0) = L (1, 0, 0)) (130 + 9 * b) (1700 + 918 * b) (some .int)) (hc : x % 16 = 3 ∨ x % 16 = 4) : kW Γ E A C L 0 0 197 [(0, .ref (L (1, 0, 0))), (1, .ref (L (200, 0, 0))), (2, .int (nI x)), (3, .int (nI sg)), (4, .int (nI (x / 16))), (5, .int (nI (aD x))), (6, .int (nI (aJ N x))), (7, .int (nI (1000 + aO N x))), (8, .int (nI (aF x))), (9, .int (nI (aV x)))] [] := by
  have h3b : ∀ d, d < 4 → N 3 d 0 < 512 := fun d hd => by have := hb d hd; omega
  have h23b : ∀ d, d < 4 → N 2 d 0 < 512 ∧ N 3 d 0 < 512 := fun d hd => ⟨by have := hb d hd; have := V.m2 hd; omega, h3b d hd⟩
  refine k_aload_n X dL_act_197 rfl rfl ?_
  refine k_iload X dL_act_198 rfl ?_
  refine k_iload X dL_act_200 rfl ?_
  refine k_iload X dL_act_202 rfl ?_
  refine k_callSH (rest := []) X ksh_set kb_191 (a_set X.tr hX hO hc) rfl rfl (Nat.le_of_ble_eq_true rfl) ⟨by rw [hR]; exact Nat.le_of_ble_eq_true rfl, by rw [hR]; exact Nat.le_of_ble_eq_true rfl⟩ ⟨by rw [hR]; dsimp only; omega, by rw [hR]; dsimp only; omega⟩ dL_act_204 (fun v204 C9 L9 h9 => ?_)
  obtain ⟨r, S2, N2, rfl, h1, h2, h3, h4⟩ := h9
  exact k_iret X hE dL_act_207 (by first | omega | exact Nat.le_of_ble_eq_true rfl | (dsimp only; omega)) (by first | omega | exact Nat.le_of_ble_eq_true rfl | (dsimp only; omega)) ⟨r, S2, N2, rfl, h1, h2, h3, h4⟩

set_option maxHeartbeats 4000000 in
set_option maxRecDepth 100000 in
theorem ac_room {Γ : kG} {E : kE} {A : Nat → Prop} {C : kC} {L : kL} {S : kI4} {N : kN3} {x b sg : Nat} (X : kX Γ E A cL_act RL) (hN : kNl Γ = 13) (hR : kRm Γ = ({ frames := 11, cells := 130 + 9 * b, slots := 1700 + 918 * b, locals := 280 } : Room)) (hX : isX E C L S N) (hO : okX S N) {T : Nat} (V : vS S N T) {f : Nat → Int32} (hna : kNa E C f) (hn2 : ∀ d, d < 4 → f d = nI (N 2 d 0)) (hb : ∀ d, d < 4 → N 3 d 0 ≤ b) (hb5 : b < 500) (hx : x < 2 ^ 31) (hsg : sg < 2) (hE : kEnd Γ E A (fun v C' L' => ∃ r S' N', v = some (.int r) ∧ kAct8 S N x r S' N' ∧ isX E C' L' S' N' ∧ kFr C L C' L' ∧ L' (1, 0, 0) = L (1, 0, 0)) (130 + 9 * b) (1700 + 918 * b) (some .int)) (hc : x % 16 = 5) : kW Γ E A C L 0 0 208 [(0, .ref (L (1, 0, 0))), (1, .ref (L (200, 0, 0))), (2, .int (nI x)), (3, .int (nI sg)), (4, .int (nI (x / 16))), (5, .int (nI (aD x))), (6, .int (nI (aJ N x))), (7, .int (nI (1000 + aO N x))), (8, .int (nI (aF x))), (9, .int (nI (aV x)))] [] := by
  have h3b : ∀ d, d < 4 → N 3 d 0 < 512 := fun d hd => by have := hb d hd; omega
  have h23b : ∀ d, d < 4 → N 2 d 0 < 512 ∧ N 3 d 0 < 512 := fun d hd => ⟨by have := hb d hd; have := V.m2 hd; omega, h3b d hd⟩
  refine k_aload_n X dL_act_208 rfl rfl ?_
  refine k_iload X dL_act_209 rfl ?_
  refine k_iload X dL_act_211 rfl ?_
  refine k_iconst (v := (nI 4)) X dL_act_213 (by decide) ?_
  refine k_idivN X (by omega) (by omega) (by omega) dL_act_214 ?_
  refine k_bipush (v := (nI 41)) X dL_act_215 (by decide) ?_
  refine k_iremN X (by omega) (by omega) (by omega) dL_act_217 ?_
  refine k_callSH (rest := []) X ksh_setRoom kb_213 (a_room X.tr hX hO hc) rfl rfl (Nat.le_of_ble_eq_true rfl) ⟨by rw [hR]; exact Nat.le_of_ble_eq_true rfl, by rw [hR]; exact Nat.le_of_ble_eq_true rfl⟩ ⟨by rw [hR]; dsimp only; omega, by rw [hR]; dsimp only; omega⟩ dL_act_218 (fun v218 C9 L9 h9 => ?_)
  obtain ⟨r, S2, N2, rfl, h1, h2, h3, h4⟩ := h9
  exact k_iret X hE dL_act_221 (by first | omega | exact Nat.le_of_ble_eq_true rfl | (dsimp only; omega)) (by first | omega | exact Nat.le_of_ble_eq_true rfl | (dsimp only; omega)) ⟨r, S2, N2, rfl, h1, h2, h3, h4⟩

set_option maxHeartbeats 4000000 in
set_option maxRecDepth 100000 in
theorem ac_fetch {Γ : kG} {E : kE} {A : Nat → Prop} {C : kC} {L : kL} {S : kI4} {N : kN3} {x b sg : Nat} (X : kX Γ E A cL_act RL) (hN : kNl Γ = 13) (hR : kRm Γ = ({ frames := 11, cells := 130 + 9 * b, slots := 1700 + 918 * b, locals := 280 } : Room)) (hX : isX E C L S N) (hO : okX S N) {T : Nat} (V : vS S N T) {f : Nat → Int32} (hna : kNa E C f) (hn2 : ∀ d, d < 4 → f d = nI (N 2 d 0)) (hb : ∀ d, d < 4 → N 3 d 0 ≤ b) (hb5 : b < 500) (hx : x < 2 ^ 31) (hsg : sg < 2) (hE : kEnd Γ E A (fun v C' L' => ∃ r S' N', v = some (.int r) ∧ kAct8 S N x r S' N' ∧ isX E C' L' S' N' ∧ kFr C L C' L' ∧ L' (1, 0, 0) = L (1, 0, 0)) (130 + 9 * b) (1700 + 918 * b) (some .int)) (hc : x % 16 = 6 ∨ x % 16 = 7) : kW Γ E A C L 0 0 222 [(0, .ref (L (1, 0, 0))), (1, .ref (L (200, 0, 0))), (2, .int (nI x)), (3, .int (nI sg)), (4, .int (nI (x / 16))), (5, .int (nI (aD x))), (6, .int (nI (aJ N x))), (7, .int (nI (1000 + aO N x))), (8, .int (nI (aF x))), (9, .int (nI (aV x)))] [] := by
  have h3b : ∀ d, d < 4 → N 3 d 0 < 512 := fun d hd => by have := hb d hd; omega
  have h23b : ∀ d, d < 4 → N 2 d 0 < 512 ∧ N 3 d 0 < 512 := fun d hd => ⟨by have := hb d hd; have := V.m2 hd; omega, h3b d hd⟩
  refine k_aload_n X dL_act_222 rfl rfl ?_
  refine k_iload X dL_act_223 rfl ?_
  refine k_callSH (rest := []) X ksh_fetch kb_225 (a_fetch X.tr hX hO hc) rfl rfl (Nat.le_of_ble_eq_true rfl) ⟨by rw [hR]; exact Nat.le_of_ble_eq_true rfl, by rw [hR]; exact Nat.le_of_ble_eq_true rfl⟩ ⟨by rw [hR]; dsimp only; omega, by rw [hR]; dsimp only; omega⟩ dL_act_225 (fun v225 C9 L9 h9 => ?_)
  obtain ⟨r, S2, N2, rfl, h1, h2, h3, h4⟩ := h9
  exact k_iret X hE dL_act_228 (by first | omega | exact Nat.le_of_ble_eq_true rfl | (dsimp only; omega)) (by first | omega | exact Nat.le_of_ble_eq_true rfl | (dsimp only; omega)) ⟨r, S2, N2, rfl, h1, h2, h3, h4⟩

set_option maxHeartbeats 4000000 in
set_option maxRecDepth 100000 in
theorem ac_chg {Γ : kG} {E : kE} {A : Nat → Prop} {C : kC} {L : kL} {S : kI4} {N : kN3} {x b sg : Nat} (X : kX Γ E A cL_act RL) (hN : kNl Γ = 13) (hR : kRm Γ = ({ frames := 11, cells := 130 + 9 * b, slots := 1700 + 918 * b, locals := 280 } : Room)) (hX : isX E C L S N) (hO : okX S N) {T : Nat} (V : vS S N T) {f : Nat → Int32} (hna : kNa E C f) (hn2 : ∀ d, d < 4 → f d = nI (N 2 d 0)) (hb : ∀ d, d < 4 → N 3 d 0 ≤ b) (hb5 : b < 500) (hx : x < 2 ^ 31) (hsg : sg < 2) (hE : kEnd Γ E A (fun v C' L' => ∃ r S' N', v = some (.int r) ∧ kAct8 S N x r S' N' ∧ isX E C' L' S' N' ∧ kFr C L C' L' ∧ L' (1, 0, 0) = L (1, 0, 0)) (130 + 9 * b) (1700 + 918 * b) (some .int)) (hc : x % 16 = 8 ∨ x % 16 = 9 ∨ x % 16 = 10) : kW Γ E A C L 0 0 229 [(0, .ref (L (1, 0, 0))), (1, .ref (L (200, 0, 0))), (2, .int (nI x)), (3, .int (nI sg)), (4, .int (nI (x / 16))), (5, .int (nI (aD x))), (6, .int (nI (aJ N x))), (7, .int (nI (1000 + aO N x))), (8, .int (nI (aF x))), (9, .int (nI (aV x)))] [] := by
  have h3b : ∀ d, d < 4 → N 3 d 0 < 512 := fun d hd => by have := hb d hd; omega
  have h23b : ∀ d, d < 4 → N 2 d 0 < 512 ∧ N 3 d 0 < 512 := fun d hd => ⟨by have := hb d hd; have := V.m2 hd; omega, h3b d hd⟩
  refine k_aload_n X dL_act_229 rfl rfl ?_
  refine k_iload X dL_act_230 rfl ?_
  refine k_iload X dL_act_232 rfl ?_
  refine k_iload X dL_act_234 rfl ?_
  refine k_iload X dL_act_236 rfl ?_
  refine k_callSH (rest := []) X ksh_change kb_254 (a_chg X.tr hX hO h3b hc) rfl rfl (Nat.le_of_ble_eq_true rfl) ⟨by rw [hR]; exact Nat.le_of_ble_eq_true rfl, by rw [hR]; exact Nat.le_of_ble_eq_true rfl⟩ ⟨by rw [hR]; dsimp only; omega, by rw [hR]; dsimp only; omega⟩ dL_act_238 (fun v238 C9 L9 h9 => ?_)
  obtain ⟨r, S2, N2, rfl, h1, h2, h3, h4⟩ := h9
  exact k_iret X hE dL_act_241 (by first | omega | exact Nat.le_of_ble_eq_true rfl | (dsimp only; omega)) (by first | omega | exact Nat.le_of_ble_eq_true rfl | (dsimp only; omega)) ⟨r, S2, N2, rfl, h1, h2, h3, h4⟩

set_option maxHeartbeats 4000000 in
set_option maxRecDepth 100000 in
theorem ac_own {Γ : kG} {E : kE} {A : Nat → Prop} {C : kC} {L : kL} {S : kI4} {N : kN3} {x b sg : Nat} (X : kX Γ E A cL_act RL) (hN : kNl Γ = 13) (hR : kRm Γ = ({ frames := 11, cells := 130 + 9 * b, slots := 1700 + 918 * b, locals := 280 } : Room)) (hX : isX E C L S N) (hO : okX S N) {T : Nat} (V : vS S N T) {f : Nat → Int32} (hna : kNa E C f) (hn2 : ∀ d, d < 4 → f d = nI (N 2 d 0)) (hb : ∀ d, d < 4 → N 3 d 0 ≤ b) (hb5 : b < 500) (hx : x < 2 ^ 31) (hsg : sg < 2) (hE : kEnd Γ E A (fun v C' L' => ∃ r S' N', v = some (.int r) ∧ kAct8 S N x r S' N' ∧ isX E C' L' S' N' ∧ kFr C L C' L' ∧ L' (1, 0, 0) = L (1, 0, 0)) (130 + 9 * b) (1700 + 918 * b) (some .int)) (hc : x % 16 = 11) : kW Γ E A C L 0 0 242 [(0, .ref (L (1, 0, 0))), (1, .ref (L (200, 0, 0))), (2, .int (nI x)), (3, .int (nI sg)), (4, .int (nI (x / 16))), (5, .int (nI (aD x))), (6, .int (nI (aJ N x))), (7, .int (nI (1000 + aO N x))), (8, .int (nI (aF x))), (9, .int (nI (aV x)))] [] := by
  have h3b : ∀ d, d < 4 → N 3 d 0 < 512 := fun d hd => by have := hb d hd; omega
  have h23b : ∀ d, d < 4 → N 2 d 0 < 512 ∧ N 3 d 0 < 512 := fun d hd => ⟨by have := hb d hd; have := V.m2 hd; omega, h3b d hd⟩
  refine k_aload_n X dL_act_242 rfl rfl ?_
  refine k_iload X dL_act_243 rfl ?_
  refine k_iload X dL_act_245 rfl ?_
  refine k_iload X dL_act_247 rfl ?_
  refine k_iload X dL_act_249 rfl ?_
  refine k_callSH (rest := []) X ksh_change kb_254 (a_own X.tr hX hO h3b hc) rfl rfl (Nat.le_of_ble_eq_true rfl) ⟨by rw [hR]; exact Nat.le_of_ble_eq_true rfl, by rw [hR]; exact Nat.le_of_ble_eq_true rfl⟩ ⟨by rw [hR]; dsimp only; omega, by rw [hR]; dsimp only; omega⟩ dL_act_251 (fun v251 C9 L9 h9 => ?_)
  obtain ⟨r, S2, N2, rfl, h1, h2, h3, h4⟩ := h9
  exact k_iret X hE dL_act_254 (by first | omega | exact Nat.le_of_ble_eq_true rfl | (dsimp only; omega)) (by first | omega | exact Nat.le_of_ble_eq_true rfl | (dsimp only; omega)) ⟨r, S2, N2, rfl, h1, h2, h3, h4⟩

set_option maxHeartbeats 4000000 in
set_option maxRecDepth 100000 in
theorem ac_make {Γ : kG} {E : kE} {A : Nat → Prop} {C : kC} {L : kL} {S : kI4} {N : kN3} {x b sg : Nat} (X : kX Γ E A cL_act RL) (hN : kNl Γ = 13) (hR : kRm Γ = ({ frames := 11, cells := 130 + 9 * b, slots := 1700 + 918 * b, locals := 280 } : Room)) (hX : isX E C L S N) (hO : okX S N) {T : Nat} (V : vS S N T) {f : Nat → Int32} (hna : kNa E C f) (hn2 : ∀ d, d < 4 → f d = nI (N 2 d 0)) (hb : ∀ d, d < 4 → N 3 d 0 ≤ b) (hb5 : b < 500) (hx : x < 2 ^ 31) (hsg : sg < 2) (hE : kEnd Γ E A (fun v C' L' => ∃ r S' N', v = some (.int r) ∧ kAct8 S N x r S' N' ∧ isX E C' L' S' N' ∧ kFr C L C' L' ∧ L' (1, 0, 0) = L (1, 0, 0)) (130 + 9 * b) (1700 + 918 * b) (some .int)) (hc : x % 16 = 12) : kW Γ E A C L 0 0 255 [(0, .ref (L (1, 0, 0))), (1, .ref (L (200, 0, 0))), (2, .int (nI x)), (3, .int (nI sg)), (4, .int (nI (x / 16))), (5, .int (nI (aD x))), (6, .int (nI (aJ N x))), (7, .int (nI (1000 + aO N x))), (8, .int (nI (aF x))), (9, .int (nI (aV x)))] [] := by
  have h3b : ∀ d, d < 4 → N 3 d 0 < 512 := fun d hd => by have := hb d hd; omega
  have h23b : ∀ d, d < 4 → N 2 d 0 < 512 ∧ N 3 d 0 < 512 := fun d hd => ⟨by have := hb d hd; have := V.m2 hd; omega, h3b d hd⟩
  refine k_aload_n X dL_act_255 rfl rfl ?_
  refine k_iload X dL_act_256 rfl ?_
  refine k_iload X dL_act_258 rfl ?_
  refine k_iconst (v := (nI 4)) X dL_act_260 (by decide) ?_
  refine k_idivN X (by omega) (by omega) (by omega) dL_act_261 ?_
  refine k_bipush (v := (nI 10)) X dL_act_262 (by decide) ?_
  refine k_iremN X (by omega) (by omega) (by omega) dL_act_264 ?_
  refine k_callSH (rest := []) X ksh_make kb_304 (a_make X.tr hX hO h23b hc) rfl rfl (Nat.le_of_ble_eq_true rfl) ⟨by rw [hR]; exact Nat.le_of_ble_eq_true rfl, by rw [hR]; exact Nat.le_of_ble_eq_true rfl⟩ ⟨by rw [hR]; dsimp only; omega, by rw [hR]; dsimp only; omega⟩ dL_act_265 (fun v265 C9 L9 h9 => ?_)
  obtain ⟨r, S2, N2, rfl, h1, h2, h3, h4⟩ := h9
  exact k_iret X hE dL_act_268 (by first | omega | exact Nat.le_of_ble_eq_true rfl | (dsimp only; omega)) (by first | omega | exact Nat.le_of_ble_eq_true rfl | (dsimp only; omega)) ⟨r, S2, N2, rfl, h1, h2, h3, h4⟩

set_option maxHeartbeats 4000000 in
set_option maxRecDepth 100000 in
theorem ac_loop {Γ : kG} {E : kE} {A : Nat → Prop} {C : kC} {L : kL} {S : kI4} {N : kN3} {x b sg : Nat} (X : kX Γ E A cL_act RL) (hN : kNl Γ = 13) (hR : kRm Γ = ({ frames := 11, cells := 130 + 9 * b, slots := 1700 + 918 * b, locals := 280 } : Room)) (hX : isX E C L S N) (hO : okX S N) {T : Nat} (V : vS S N T) {f : Nat → Int32} (hna : kNa E C f) (hn2 : ∀ d, d < 4 → f d = nI (N 2 d 0)) (hb : ∀ d, d < 4 → N 3 d 0 ≤ b) (hb5 : b < 500) (hx : x < 2 ^ 31) (hsg : sg < 2) : ∀ (m j : Nat) (C' : kC) (L' : kL) (S1 : kI4) (N1 : kN3) (c cells slots : Nat), j + m = aM x → xSnd S N (aD x) j c S1 N1 → isX E C' L' (s12 S1 (S1 12 0 0 0 + nI c)) N1 → kFr C L C' L' → L' (1, 0, 0) = L (1, 0, 0) → j ≤ N 3 (aD x) 0 - N 4 (aD x) 0 → cells ≤ 9 * j → slots ≤ 918 * j → j ≤ 60 → (∀ (j : Nat) (C' : kC) (L' : kL) (S1 : kI4) (N1 : kN3) (c cells slots : Nat), xSnd S N (aD x) j c S1 N1 → isX E C' L' (s12 S1 (S1 12 0 0 0 + nI c)) N1 → kFr C L C' L' → L' (1, 0, 0) = L (1, 0, 0) → j = min (aM x) (N 3 (aD x) 0 - N 4 (aD x) 0) → cells ≤ 9 * j + 1 → slots ≤ 918 * j + 6 → kW Γ E A C' L' cells slots 335 [(0, .ref (L' (1, 0, 0))), (3, .int (nI 1)), (5, .int (nI (aD x))), (10, .int (nI (aM x))), (11, .int (nI c)), (12, .int (nI j))] []) → kW Γ E A C' L' cells slots 297 [(0, .ref (L' (1, 0, 0))), (3, .int (nI 1)), (5, .int (nI (aD x))), (10, .int (nI (aM x))), (11, .int (nI c)), (12, .int (nI j))] [] := by
  have hd := aD_lt x
  have hM := aM_le x
  have hj1 := V.1
  have hbd := hb _ hd
  have h34 := (hO.2 _ hd).2.2.1
  intro m
  induction m with
  | zero =>
    intro j C' L' S1 N1 c cells slots hm hs hX2 hF hL hj hc hsl hj6 kk
    refine k_iload X dL_act_297 rfl ?_
    refine k_iload X dL_act_299 rfl ?_
    refine k_icmp_ge (tgt := 335) X dL_act_301 (by decide) (fun c301 => ?_) (fun c301 => absurd (nI_le (by omega) (by omega)) c301)
    refine k_lo (lo' := [(0, .ref (L' (1, 0, 0))), (3, .int (nI 1)), (5, .int (nI (aD x))), (10, .int (nI (aM x))), (11, .int (nI c)), (12, .int (nI j))]) ⟨rfl, rfl, rfl, rfl, rfl, rfl, trivial⟩ ?_
    exact kk j C' L' S1 N1 c _ _ hs hX2 hF hL (by omega) (by omega) (by omega)
  | succ m ih =>
    intro j C' L' S1 N1 c cells slots hm hs hX2 hF hL hj hc hsl hj6 kk
    have hjm : j < aM x := by omega
    obtain ⟨g1, g2, g3, g4, g5, g6⟩ := xSnd.ok2 hj1 hs
    obtain ⟨y1, hO2, y3, y4⟩ := V.snd hO hd (by omega) hs
    have h54 : ∀ d, d < 4 → N1 5 d 0 ≤ N1 4 d 0 := fun d hd => y1.h5 hd
    refine k_iload X dL_act_297 rfl ?_
    refine k_iload X dL_act_299 rfl ?_
    refine k_icmp_ge (tgt := 335) X dL_act_301 (by decide) (fun c301 => absurd c301 (nI_ge hjm (by omega))) (fun c301 => ?_)
    refine k_iload_n X dL_act_304 rfl rfl ?_
    refine k_if_eq (tgt := 335) X dL_act_305 (by decide) (fun c305 => absurd c305 (by decide)) (fun c305 => ?_)
    refine k_aload_n X dL_act_308 rfl rfl ?_
    refine k_iload X dL_act_309 rfl ?_
    refine k_callSH (rest := []) X ksh_waiting kb_324 (g_waiting X.tr hX2 hO2 hd) rfl rfl (Nat.le_of_ble_eq_true rfl) ⟨by rw [hR]; exact Nat.le_of_ble_eq_true rfl, by rw [hR]; exact Nat.le_of_ble_eq_true rfl⟩ ⟨by rw [hR]; dsimp only; omega, by rw [hR]; dsimp only; omega⟩ dL_act_311 (fun v311 C9 L9 h9 => ?_)
    obtain ⟨rfl, rfl, rfl⟩ := h9
    refine k_if_le (tgt := 335) X dL_act_314 (by decide) (fun c314 => ?_) (fun c314 => ?_)
    ·
      have hjw : j = N 3 (aD x) 0 - N 4 (aD x) 0 := by
        rcases Nat.eq_zero_or_pos (N1 3 (aD x) 0 - N1 4 (aD x) 0) with z | z
        · rw [g5, g6, w3_s] at z
          omega
        · exact absurd c314 (nI_nle z (by rw [g5, g6, w3_s]; omega))
      refine k_lo (lo' := [(0, .ref (L' (1, 0, 0))), (3, .int (nI 1)), (5, .int (nI (aD x))), (10, .int (nI (aM x))), (11, .int (nI c)), (12, .int (nI j))]) ⟨rfl, rfl, rfl, rfl, rfl, rfl, trivial⟩ ?_
      exact kk j C' L' S1 N1 c _ _ hs hX2 hF hL (by omega) (by omega) (by omega)
    ·
      have hjw : j < N 3 (aD x) 0 - N 4 (aD x) 0 := by
        rcases Nat.eq_zero_or_pos (N1 3 (aD x) 0 - N1 4 (aD x) 0) with z | z
        · exact absurd (by rw [z]; decide) c314
        · rw [g5, g6, w3_s] at z
          omega
      have hmin : min 1 (N1 3 (aD x) 0 - N1 4 (aD x) 0) = 1 := by
        rw [g5, g6, w3_s]
        omega
      refine k_iload X dL_act_317 rfl ?_
      refine k_aload_n X dL_act_319 rfl rfl ?_
      refine k_iload X dL_act_320 rfl ?_
      refine k_iconst (v := (nI 1)) X dL_act_322 (by decide) ?_
      refine k_callSH (rest := [.int (nI c)]) X ksh_send kb_331 (a_send X.tr hX2 hO2 h54 hd (Nat.le_refl 1) (by decide) 1 (by omega)) rfl rfl (Nat.le_of_ble_eq_true rfl) ⟨by rw [hR]; exact Nat.le_of_ble_eq_true rfl, by rw [hR]; exact Nat.le_of_ble_eq_true rfl⟩ ⟨by rw [hR]; dsimp only; omega, by rw [hR]; dsimp only; omega⟩ dL_act_323 (fun v323 C9 L9 h9 => ?_)
      obtain ⟨c2, S2, N2, rfl, h1, h2, h3, h4⟩ := h9
      rw [hmin] at h1
      obtain ⟨S3, h5, rfl⟩ := hs.one h1
      refine k_iaddN X dL_act_326 ?_
      refine k_istore X dL_act_327 (by rw [hN]; decide) ?_
      refine k_iinc (v := (nI (j + 1))) X dL_act_329 rfl (by rw [show Int32.ofInt 1 = nI 1 from by decide, nI_add]) (by rw [hN]; decide) ?_
      refine k_goto (tgt := 297) X dL_act_332 (by decide) ?_
      refine k_lo (lo' := [(0, .ref (L9 (1, 0, 0))), (3, .int (nI 1)), (5, .int (nI (aD x))), (10, .int (nI (aM x))), (11, .int (nI (c + c2))), (12, .int (nI (j + 1)))]) ⟨congrArg (fun q => some (Value.ref q)) h4.symm, rfl, rfl, rfl, rfl, rfl, trivial⟩ ?_
      have e2 : s12 (s12 S3 (S1 12 0 0 0 + nI c)) (s12 S3 (S1 12 0 0 0 + nI c) 12 0 0 0 + nI c2) = s12 S3 (S3 12 0 0 0 + nI (c + c2)) := by
        rw [s12_s12, s12_at, xSnd.done h5, xSnd.done hs, ← nI_add, Int32.add_assoc]
      rw [e2] at h2
      exact ih (j + 1) _ _ S3 N2 (c + c2) _ _ (by omega) h5 h2 (hF.tr h3) (h4.trans hL) (by omega) (by omega) (by omega) (by omega) kk

set_option maxHeartbeats 4000000 in
set_option maxRecDepth 100000 in
theorem ac_289 {Γ : kG} {E : kE} {A : Nat → Prop} {C : kC} {L : kL} {S : kI4} {N : kN3} {x b sg : Nat} (X : kX Γ E A cL_act RL) (hN : kNl Γ = 13) (hR : kRm Γ = ({ frames := 11, cells := 130 + 9 * b, slots := 1700 + 918 * b, locals := 280 } : Room)) (hX : isX E C L S N) (hO : okX S N) {T : Nat} (V : vS S N T) {f : Nat → Int32} (hna : kNa E C f) (hn2 : ∀ d, d < 4 → f d = nI (N 2 d 0)) (hb : ∀ d, d < 4 → N 3 d 0 ≤ b) (hb5 : b < 500) (hx : x < 2 ^ 31) (hsg : sg < 2) (hE : kEnd Γ E A (fun v C' L' => ∃ r S' N', v = some (.int r) ∧ kAct8 S N x r S' N' ∧ isX E C' L' S' N' ∧ kFr C L C' L' ∧ L' (1, 0, 0) = L (1, 0, 0)) (130 + 9 * b) (1700 + 918 * b) (some .int)) (hc : 12 < x % 16) : kW Γ E A C L 0 0 289 [(0, .ref (L (1, 0, 0))), (1, .ref (L (200, 0, 0))), (2, .int (nI x)), (3, .int (nI sg)), (4, .int (nI (x / 16))), (5, .int (nI (aD x))), (6, .int (nI (aJ N x))), (7, .int (nI (1000 + aO N x))), (8, .int (nI (aF x))), (9, .int (nI (aV x)))] [.int (nI (aM x))] := by
  have hd := aD_lt x
  have hM := aM_le x
  have hbd := hb _ hd
  have h54 : ∀ d, d < 4 → N 5 d 0 ≤ N 4 d 0 := fun d hd => V.h5 hd
  refine k_istore X dL_act_289 (by rw [hN]; decide) ?_
  refine k_iconst (v := (nI 0)) X dL_act_291 (by decide) ?_
  refine k_istore X dL_act_292 (by rw [hN]; decide) ?_
  refine k_iconst (v := (nI 0)) X dL_act_294 (by decide) ?_
  refine k_istore X dL_act_295 (by rw [hN]; decide) ?_
  rcases (show sg = 0 ∨ sg = 1 by omega) with rfl | rfl
  ·
    refine k_iload X dL_act_297 rfl ?_
    refine k_iload X dL_act_299 rfl ?_
    refine k_icmp_ge (tgt := 335) X dL_act_301 (by decide) (fun c301 => absurd c301 (nI_ge (by omega) (by omega))) (fun c301 => ?_)
    refine k_iload_n X dL_act_304 rfl rfl ?_
    refine k_if_eq (tgt := 335) X dL_act_305 (by decide) (fun c305 => ?_) (fun c305 => absurd (rfl : nI 0 = 0) c305)
    refine k_iload_n X dL_act_335 rfl rfl ?_
    refine k_if_eq (tgt := 344) X dL_act_336 (by decide) (fun c336 => ?_) (fun c336 => absurd (rfl : nI 0 = 0) c336)
    refine k_aload_n X dL_act_344 rfl rfl ?_
    refine k_iload X dL_act_345 rfl ?_
    refine k_iload X dL_act_347 rfl ?_
    refine k_callSH (rest := []) X ksh_send kb_331 (a_send X.tr hX hO h54 hd hM.1 (by omega) b (by omega)) rfl rfl (Nat.le_of_ble_eq_true rfl) ⟨by rw [hR]; exact Nat.le_of_ble_eq_true rfl, by rw [hR]; exact Nat.le_of_ble_eq_true rfl⟩ ⟨by rw [hR]; dsimp only; omega, by rw [hR]; dsimp only; omega⟩ dL_act_349 (fun v349 C9 L9 h9 => ?_)
    obtain ⟨c, S2, N2, rfl, h1, h2, h3, h4⟩ := h9
    exact k_iret X hE dL_act_352 (by first | omega | exact Nat.le_of_ble_eq_true rfl | (dsimp only; omega)) (by first | omega | exact Nat.le_of_ble_eq_true rfl | (dsimp only; omega)) ⟨_, _, _, rfl, Or.inr (Or.inr (Or.inr (Or.inr (Or.inr (Or.inr (Or.inr (Or.inr (⟨hc, c, S2, h1, rfl, rfl⟩)))))))), h2, h3, h4⟩
  ·
    refine k_lo (lo' := [(0, .ref (L (1, 0, 0))), (3, .int (nI 1)), (5, .int (nI (aD x))), (10, .int (nI (aM x))), (11, .int (nI 0)), (12, .int (nI 0))]) ⟨rfl, rfl, rfl, rfl, rfl, rfl, trivial⟩ ?_
    have e0 : s12 S (S 12 0 0 0 + nI 0) = S := by
      rw [show S 12 0 0 0 + nI 0 = S 12 0 0 0 from Int32.add_zero _, s12_id]
    refine ac_loop X hN hR hX hO V hna hn2 hb hb5 hx hsg (aM x) 0 C L S N 0 _ _ (by omega) ⟨rfl, rfl, rfl⟩ (by rw [e0]; exact hX) kFr.rf rfl (by omega) (by omega) (by omega) (by omega) (fun j C' L' S1 N1 c cells slots hs hX2 hF hL hj hc2 hs2 => ?_)
    rw [hj] at hs
    refine k_iload_n X dL_act_335 rfl rfl ?_
    refine k_if_eq (tgt := 344) X dL_act_336 (by decide) (fun c336 => absurd c336 (by decide)) (fun c336 => ?_)
    refine k_iload X dL_act_339 rfl ?_
    refine k_goto (tgt := 352) X dL_act_341 (by decide) ?_
    exact k_iret X hE dL_act_352 (by first | omega | exact Nat.le_of_ble_eq_true rfl | (dsimp only; omega)) (by first | omega | exact Nat.le_of_ble_eq_true rfl | (dsimp only; omega)) ⟨_, _, _, rfl, Or.inr (Or.inr (Or.inr (Or.inr (Or.inr (Or.inr (Or.inr (Or.inr (⟨hc, c, S1, hs, rfl, rfl⟩)))))))), hX2, hF, hL⟩

set_option maxHeartbeats 4000000 in
set_option maxRecDepth 100000 in
theorem ac_269 {Γ : kG} {E : kE} {A : Nat → Prop} {C : kC} {L : kL} {S : kI4} {N : kN3} {x b sg : Nat} (X : kX Γ E A cL_act RL) (hN : kNl Γ = 13) (hR : kRm Γ = ({ frames := 11, cells := 130 + 9 * b, slots := 1700 + 918 * b, locals := 280 } : Room)) (hX : isX E C L S N) (hO : okX S N) {T : Nat} (V : vS S N T) {f : Nat → Int32} (hna : kNa E C f) (hn2 : ∀ d, d < 4 → f d = nI (N 2 d 0)) (hb : ∀ d, d < 4 → N 3 d 0 ≤ b) (hb5 : b < 500) (hx : x < 2 ^ 31) (hsg : sg < 2) (hE : kEnd Γ E A (fun v C' L' => ∃ r S' N', v = some (.int r) ∧ kAct8 S N x r S' N' ∧ isX E C' L' S' N' ∧ kFr C L C' L' ∧ L' (1, 0, 0) = L (1, 0, 0)) (130 + 9 * b) (1700 + 918 * b) (some .int)) (hc : 12 < x % 16) : kW Γ E A C L 0 0 269 [(0, .ref (L (1, 0, 0))), (1, .ref (L (200, 0, 0))), (2, .int (nI x)), (3, .int (nI sg)), (4, .int (nI (x / 16))), (5, .int (nI (aD x))), (6, .int (nI (aJ N x))), (7, .int (nI (1000 + aO N x))), (8, .int (nI (aF x))), (9, .int (nI (aV x)))] [] := by
  refine k_iconst (v := (nI 1)) X dL_act_269 (by decide) ?_
  refine k_iload X dL_act_270 rfl ?_
  refine k_iconst (v := (nI 4)) X dL_act_272 (by decide) ?_
  refine k_idivN X (by omega) (by omega) (by omega) dL_act_273 ?_
  refine k_iload X dL_act_274 rfl ?_
  refine k_iconst (v := (nI 3)) X dL_act_276 (by decide) ?_
  refine k_iremN X (by omega) (by omega) (by omega) dL_act_277 ?_
  refine k_if_ne (tgt := 285) X dL_act_278 (by decide) (fun c278 => ?_) (fun c278 => ?_)
  ·
    refine k_bipush (v := (nI 60)) X dL_act_285 (by decide) ?_
    refine k_iremN X (by omega) (by omega) (by omega) dL_act_287 ?_
    refine k_iaddN X dL_act_288 ?_
    have eM : aM x = 1 + x / 16 / 4 % 60 := by
      unfold aM
      rw [if_neg (fun z => c278 (congrArg nI z))]
    refine k_rw (y := nI (aM x)) (congrArg nI eM.symm) ?_
    exact ac_289 X hN hR hX hO V hna hn2 hb hb5 hx hsg hE hc
  ·
    refine k_iconst (v := (nI 4)) X dL_act_281 (by decide) ?_
    refine k_goto (tgt := 287) X dL_act_282 (by decide) ?_
    refine k_iremN X (by omega) (by omega) (by omega) dL_act_287 ?_
    refine k_iaddN X dL_act_288 ?_
    have eM : aM x = 1 + x / 16 / 4 % 4 := by
      unfold aM
      rw [if_pos (nI_inj c278 (by omega) (by decide))]
    refine k_rw (y := nI (aM x)) (congrArg nI eM.symm) ?_
    exact ac_289 X hN hR hX hO V hna hn2 hb hb5 hx hsg hE hc

set_option maxHeartbeats 4000000 in
set_option maxRecDepth 100000 in
theorem ac_97 {Γ : kG} {E : kE} {A : Nat → Prop} {C : kC} {L : kL} {S : kI4} {N : kN3} {x b sg : Nat} (X : kX Γ E A cL_act RL) (hN : kNl Γ = 13) (hR : kRm Γ = ({ frames := 11, cells := 130 + 9 * b, slots := 1700 + 918 * b, locals := 280 } : Room)) (hX : isX E C L S N) (hO : okX S N) {T : Nat} (V : vS S N T) {f : Nat → Int32} (hna : kNa E C f) (hn2 : ∀ d, d < 4 → f d = nI (N 2 d 0)) (hb : ∀ d, d < 4 → N 3 d 0 ≤ b) (hb5 : b < 500) (hx : x < 2 ^ 31) (hsg : sg < 2) (hE : kEnd Γ E A (fun v C' L' => ∃ r S' N', v = some (.int r) ∧ kAct8 S N x r S' N' ∧ isX E C' L' S' N' ∧ kFr C L C' L' ∧ L' (1, 0, 0) = L (1, 0, 0)) (130 + 9 * b) (1700 + 918 * b) (some .int)) : kW Γ E A C L 0 0 97 [(0, .ref (L (1, 0, 0))), (1, .ref (L (200, 0, 0))), (2, .int (nI x)), (3, .int (nI sg)), (4, .int (nI (x / 16))), (5, .int (nI (aD x))), (6, .int (nI (aJ N x))), (7, .int (nI (1000 + aO N x))), (8, .int (nI (aF x)))] [.int (nI (aV x))] := by
  refine k_istore X dL_act_97 (by rw [hN]; decide) ?_
  refine k_iload_n X dL_act_99 rfl rfl ?_
  refine k_bipush (v := (nI 16)) X dL_act_100 (by decide) ?_
  refine k_iremN X (by omega) (by omega) (by omega) dL_act_102 ?_
  refine k_lo (lo' := [(0, .ref (L (1, 0, 0))), (1, .ref (L (200, 0, 0))), (2, .int (nI x)), (3, .int (nI sg)), (4, .int (nI (x / 16))), (5, .int (nI (aD x))), (6, .int (nI (aJ N x))), (7, .int (nI (1000 + aO N x))), (8, .int (nI (aF x))), (9, .int (nI (aV x)))]) ⟨rfl, rfl, rfl, rfl, rfl, rfl, rfl, rfl, rfl, rfl, trivial⟩ ?_
  obtain ⟨c, h16, hlt⟩ : ∃ c, x % 16 = c ∧ c < 16 := ⟨_, rfl, Nat.mod_lt _ (by decide)⟩
  rcases (show c = 0 ∨ c = 1 ∨ c = 2 ∨ c = 3 ∨ c = 4 ∨ c = 5 ∨ c = 6 ∨ c = 7 ∨ c = 8 ∨ c = 9 ∨ c = 10 ∨ c = 11 ∨ c = 12 ∨ 12 < c by omega) with rfl | rfl | rfl | rfl | rfl | rfl | rfl | rfl | rfl | rfl | rfl | rfl | rfl | hge
  · refine k_rw (y := nI 0) (congrArg nI h16) ?_
    refine k_tableIn (off := 65) (tgt := 168) X dL_act_103 (by decide) (by decide) (by decide) (by decide) ?_
    exact ac_add X hN hR hX hO V hna hn2 hb hb5 hx hsg hE (by omega)
  · refine k_rw (y := nI 1) (congrArg nI h16) ?_
    refine k_tableIn (off := 65) (tgt := 168) X dL_act_103 (by decide) (by decide) (by decide) (by decide) ?_
    exact ac_add X hN hR hX hO V hna hn2 hb hb5 hx hsg hE (by omega)
  · refine k_rw (y := nI 2) (congrArg nI h16) ?_
    refine k_tableIn (off := 79) (tgt := 182) X dL_act_103 (by decide) (by decide) (by decide) (by decide) ?_
    exact ac_give X hN hR hX hO V hna hn2 hb hb5 hx hsg hE h16
  · refine k_rw (y := nI 3) (congrArg nI h16) ?_
    refine k_tableIn (off := 94) (tgt := 197) X dL_act_103 (by decide) (by decide) (by decide) (by decide) ?_
    exact ac_set X hN hR hX hO V hna hn2 hb hb5 hx hsg hE (Or.inl h16)
  · refine k_rw (y := nI 4) (congrArg nI h16) ?_
    refine k_tableIn (off := 94) (tgt := 197) X dL_act_103 (by decide) (by decide) (by decide) (by decide) ?_
    exact ac_set X hN hR hX hO V hna hn2 hb hb5 hx hsg hE (Or.inr h16)
  · refine k_rw (y := nI 5) (congrArg nI h16) ?_
    refine k_tableIn (off := 105) (tgt := 208) X dL_act_103 (by decide) (by decide) (by decide) (by decide) ?_
    exact ac_room X hN hR hX hO V hna hn2 hb hb5 hx hsg hE h16
  · refine k_rw (y := nI 6) (congrArg nI h16) ?_
    refine k_tableIn (off := 119) (tgt := 222) X dL_act_103 (by decide) (by decide) (by decide) (by decide) ?_
    exact ac_fetch X hN hR hX hO V hna hn2 hb hb5 hx hsg hE (Or.inl h16)
  · refine k_rw (y := nI 7) (congrArg nI h16) ?_
    refine k_tableIn (off := 119) (tgt := 222) X dL_act_103 (by decide) (by decide) (by decide) (by decide) ?_
    exact ac_fetch X hN hR hX hO V hna hn2 hb hb5 hx hsg hE (Or.inr h16)
  · refine k_rw (y := nI 8) (congrArg nI h16) ?_
    refine k_tableIn (off := 126) (tgt := 229) X dL_act_103 (by decide) (by decide) (by decide) (by decide) ?_
    exact ac_chg X hN hR hX hO V hna hn2 hb hb5 hx hsg hE (Or.inl h16)
  · refine k_rw (y := nI 9) (congrArg nI h16) ?_
    refine k_tableIn (off := 126) (tgt := 229) X dL_act_103 (by decide) (by decide) (by decide) (by decide) ?_
    exact ac_chg X hN hR hX hO V hna hn2 hb hb5 hx hsg hE (Or.inr (Or.inl h16))
  · refine k_rw (y := nI 10) (congrArg nI h16) ?_
    refine k_tableIn (off := 126) (tgt := 229) X dL_act_103 (by decide) (by decide) (by decide) (by decide) ?_
    exact ac_chg X hN hR hX hO V hna hn2 hb hb5 hx hsg hE (Or.inr (Or.inr h16))
  · refine k_rw (y := nI 11) (congrArg nI h16) ?_
    refine k_tableIn (off := 139) (tgt := 242) X dL_act_103 (by decide) (by decide) (by decide) (by decide) ?_
    exact ac_own X hN hR hX hO V hna hn2 hb hb5 hx hsg hE h16
  · refine k_rw (y := nI 12) (congrArg nI h16) ?_
    refine k_tableIn (off := 152) (tgt := 255) X dL_act_103 (by decide) (by decide) (by decide) (by decide) ?_
    exact ac_make X hN hR hX hO V hna hn2 hb hb5 hx hsg hE h16
  · refine k_rw (y := nI c) (congrArg nI h16) ?_
    refine k_tableOut (tgt := 269) X dL_act_103 (Or.inr (by rw [nI_toInt (by omega)]; omega)) (by decide) ?_
    exact ac_269 X hN hR hX hO V hna hn2 hb hb5 hx hsg hE (by omega)

set_option maxHeartbeats 4000000 in
set_option maxRecDepth 100000 in
theorem ac_60 {Γ : kG} {E : kE} {A : Nat → Prop} {C : kC} {L : kL} {S : kI4} {N : kN3} {x b sg : Nat} (X : kX Γ E A cL_act RL) (hN : kNl Γ = 13) (hR : kRm Γ = ({ frames := 11, cells := 130 + 9 * b, slots := 1700 + 918 * b, locals := 280 } : Room)) (hX : isX E C L S N) (hO : okX S N) {T : Nat} (V : vS S N T) {f : Nat → Int32} (hna : kNa E C f) (hn2 : ∀ d, d < 4 → f d = nI (N 2 d 0)) (hb : ∀ d, d < 4 → N 3 d 0 ≤ b) (hb5 : b < 500) (hx : x < 2 ^ 31) (hsg : sg < 2) (hE : kEnd Γ E A (fun v C' L' => ∃ r S' N', v = some (.int r) ∧ kAct8 S N x r S' N' ∧ isX E C' L' S' N' ∧ kFr C L C' L' ∧ L' (1, 0, 0) = L (1, 0, 0)) (130 + 9 * b) (1700 + 918 * b) (some .int)) : kW Γ E A C L 0 0 60 [(0, .ref (L (1, 0, 0))), (1, .ref (L (200, 0, 0))), (2, .int (nI x)), (3, .int (nI sg)), (4, .int (nI (x / 16))), (5, .int (nI (aD x))), (6, .int (nI (aJ N x))), (7, .int (nI (1000 + aO N x)))] [] := by
  refine k_iload X dL_act_60 rfl ?_
  refine k_sipush (v := (nI 160)) X dL_act_62 (by decide) ?_
  refine k_idivN X (by omega) (by omega) (by omega) dL_act_65 ?_
  refine k_iconst (v := (nI 2)) X dL_act_66 (by decide) ?_
  refine k_iremN X (by omega) (by omega) (by omega) dL_act_67 ?_
  refine k_istore X dL_act_68 (by rw [hN]; decide) ?_
  refine k_iload X dL_act_70 rfl ?_
  refine k_if_ne (tgt := 86) X dL_act_72 (by decide) (fun c72 => ?_) (fun c72 => ?_)
  ·
    refine k_iload X dL_act_86 rfl ?_
    refine k_sipush (v := (nI 320)) X dL_act_88 (by decide) ?_
    refine k_idivN X (by omega) (by omega) (by omega) dL_act_91 ?_
    refine k_iconst (v := (nI 4)) X dL_act_92 (by decide) ?_
    refine k_iremN X (by omega) (by omega) (by omega) dL_act_93 ?_
    refine k_bipush (v := (nI 100)) X dL_act_94 (by decide) ?_
    refine k_imulN X dL_act_96 ?_
    have eV : aV x = (((x / 16) / 320) % 4) * 100 := if_neg (fun z => c72 (congrArg nI z))
    refine k_rw (y := nI (aV x)) (congrArg nI eV.symm) ?_
    refine k_lo (lo' := [(0, .ref (L (1, 0, 0))), (1, .ref (L (200, 0, 0))), (2, .int (nI x)), (3, .int (nI sg)), (4, .int (nI (x / 16))), (5, .int (nI (aD x))), (6, .int (nI (aJ N x))), (7, .int (nI (1000 + aO N x))), (8, .int (nI (aF x)))]) ⟨rfl, rfl, rfl, rfl, rfl, rfl, rfl, rfl, rfl, trivial⟩ ?_
    exact ac_97 X hN hR hX hO V hna hn2 hb hb5 hx hsg hE
  ·
    refine k_iload X dL_act_75 rfl ?_
    refine k_sipush (v := (nI 320)) X dL_act_77 (by decide) ?_
    refine k_idivN X (by omega) (by omega) (by omega) dL_act_80 ?_
    refine k_iconst (v := (nI 3)) X dL_act_81 (by decide) ?_
    refine k_iremN X (by omega) (by omega) (by omega) dL_act_82 ?_
    refine k_goto (tgt := 97) X dL_act_83 (by decide) ?_
    have eV : aV x = ((x / 16) / 320) % 3 := if_pos (nI_inj c72 (by have := aF_lt x; omega) (by decide))
    refine k_rw (y := nI (aV x)) (congrArg nI eV.symm) ?_
    refine k_lo (lo' := [(0, .ref (L (1, 0, 0))), (1, .ref (L (200, 0, 0))), (2, .int (nI x)), (3, .int (nI sg)), (4, .int (nI (x / 16))), (5, .int (nI (aD x))), (6, .int (nI (aJ N x))), (7, .int (nI (1000 + aO N x))), (8, .int (nI (aF x)))]) ⟨rfl, rfl, rfl, rfl, rfl, rfl, rfl, rfl, rfl, trivial⟩ ?_
    exact ac_97 X hN hR hX hO V hna hn2 hb hb5 hx hsg hE

set_option maxHeartbeats 4000000 in
set_option maxRecDepth 100000 in
theorem ac_57 {Γ : kG} {E : kE} {A : Nat → Prop} {C : kC} {L : kL} {S : kI4} {N : kN3} {x b sg : Nat} (X : kX Γ E A cL_act RL) (hN : kNl Γ = 13) (hR : kRm Γ = ({ frames := 11, cells := 130 + 9 * b, slots := 1700 + 918 * b, locals := 280 } : Room)) (hX : isX E C L S N) (hO : okX S N) {T : Nat} (V : vS S N T) {f : Nat → Int32} (hna : kNa E C f) (hn2 : ∀ d, d < 4 → f d = nI (N 2 d 0)) (hb : ∀ d, d < 4 → N 3 d 0 ≤ b) (hb5 : b < 500) (hx : x < 2 ^ 31) (hsg : sg < 2) (hE : kEnd Γ E A (fun v C' L' => ∃ r S' N', v = some (.int r) ∧ kAct8 S N x r S' N' ∧ isX E C' L' S' N' ∧ kFr C L C' L' ∧ L' (1, 0, 0) = L (1, 0, 0)) (130 + 9 * b) (1700 + 918 * b) (some .int)) : kW Γ E A C L 0 0 57 [(0, .ref (L (1, 0, 0))), (1, .ref (L (200, 0, 0))), (2, .int (nI x)), (3, .int (nI sg)), (4, .int (nI (x / 16))), (5, .int (nI (aD x))), (6, .int (nI (aJ N x)))] [.int (nI (aO N x)), .int (nI 1000)] := by
  refine k_iaddN X dL_act_57 ?_
  refine k_istore X dL_act_58 (by rw [hN]; decide) ?_
  refine k_lo (lo' := [(0, .ref (L (1, 0, 0))), (1, .ref (L (200, 0, 0))), (2, .int (nI x)), (3, .int (nI sg)), (4, .int (nI (x / 16))), (5, .int (nI (aD x))), (6, .int (nI (aJ N x))), (7, .int (nI (1000 + aO N x)))]) ⟨rfl, rfl, rfl, rfl, rfl, rfl, rfl, rfl, trivial⟩ ?_
  exact ac_60 X hN hR hX hO V hna hn2 hb hb5 hx hsg hE

set_option maxHeartbeats 4000000 in
set_option maxRecDepth 100000 in
theorem ac_32 {Γ : kG} {E : kE} {A : Nat → Prop} {C : kC} {L : kL} {S : kI4} {N : kN3} {x b sg : Nat} (X : kX Γ E A cL_act RL) (hN : kNl Γ = 13) (hR : kRm Γ = ({ frames := 11, cells := 130 + 9 * b, slots := 1700 + 918 * b, locals := 280 } : Room)) (hX : isX E C L S N) (hO : okX S N) {T : Nat} (V : vS S N T) {f : Nat → Int32} (hna : kNa E C f) (hn2 : ∀ d, d < 4 → f d = nI (N 2 d 0)) (hb : ∀ d, d < 4 → N 3 d 0 ≤ b) (hb5 : b < 500) (hx : x < 2 ^ 31) (hsg : sg < 2) (hE : kEnd Γ E A (fun v C' L' => ∃ r S' N', v = some (.int r) ∧ kAct8 S N x r S' N' ∧ isX E C' L' S' N' ∧ kFr C L C' L' ∧ L' (1, 0, 0) = L (1, 0, 0)) (130 + 9 * b) (1700 + 918 * b) (some .int)) : kW Γ E A C L 0 0 32 [(0, .ref (L (1, 0, 0))), (1, .ref (L (200, 0, 0))), (2, .int (nI x)), (3, .int (nI sg)), (4, .int (nI (x / 16))), (5, .int (nI (aD x)))] [.int (nI (aJ N x))] := by
  refine k_istore X dL_act_32 (by rw [hN]; decide) ?_
  refine k_sipush (v := (nI 1000)) X dL_act_34 (by decide) ?_
  refine k_aload_n X dL_act_37 rfl rfl ?_
  refine k_iload X dL_act_38 rfl ?_
  refine k_iald X hna rfl (pk_in (aD x) 4 (aD_lt x)) dL_act_40 ?_
  refine k_rw (y := nI (N 2 (aD x) 0)) (by rw [nI_clamp (by have := aD_lt x; omega)]; exact hn2 _ (aD_lt x)) ?_
  have hm2 := hb _ (aD_lt x)
  have hm3 := V.m2 (aD_lt x)
  refine k_if_ne (tgt := 48) X dL_act_41 (by decide) (fun c41 => ?_) (fun c41 => ?_)
  ·
    have hp : 0 < N 2 (aD x) 0 := Nat.pos_of_ne_zero (fun z => c41 (congrArg nI z))
    refine k_iload X dL_act_48 rfl ?_
    refine k_iconst (v := (nI 4)) X dL_act_50 (by decide) ?_
    refine k_idivN X (by omega) (by omega) (by omega) dL_act_51 ?_
    refine k_aload_n X dL_act_52 rfl rfl ?_
    refine k_iload X dL_act_53 rfl ?_
    refine k_iald X hna rfl (pk_in (aD x) 4 (aD_lt x)) dL_act_55 ?_
    refine k_rw (y := nI (N 2 (aD x) 0)) (by rw [nI_clamp (by have := aD_lt x; omega)]; exact hn2 _ (aD_lt x)) ?_
    refine k_iremN X (by omega) (by omega) (by omega) dL_act_56 ?_
    have eO : aO N x = ((x / 16) / 4) % (N 2 (aD x) 0) := if_neg (Nat.pos_iff_ne_zero.mp hp)
    refine k_rw (y := nI (aO N x)) (congrArg nI eO.symm) ?_
    refine k_lo (lo' := [(0, .ref (L (1, 0, 0))), (1, .ref (L (200, 0, 0))), (2, .int (nI x)), (3, .int (nI sg)), (4, .int (nI (x / 16))), (5, .int (nI (aD x))), (6, .int (nI (aJ N x)))]) ⟨rfl, rfl, rfl, rfl, rfl, rfl, rfl, trivial⟩ ?_
    exact ac_57 X hN hR hX hO V hna hn2 hb hb5 hx hsg hE
  ·
    have hp : N 2 (aD x) 0 = 0 := nI_inj c41 (by omega) (by decide)
    refine k_iconst (v := (nI 0)) X dL_act_44 (by decide) ?_
    refine k_goto (tgt := 57) X dL_act_45 (by decide) ?_
    have eO : aO N x = 0 := if_pos hp
    refine k_rw (y := nI (aO N x)) (congrArg nI eO.symm) ?_
    refine k_lo (lo' := [(0, .ref (L (1, 0, 0))), (1, .ref (L (200, 0, 0))), (2, .int (nI x)), (3, .int (nI sg)), (4, .int (nI (x / 16))), (5, .int (nI (aD x))), (6, .int (nI (aJ N x)))]) ⟨rfl, rfl, rfl, rfl, rfl, rfl, rfl, trivial⟩ ?_
    exact ac_57 X hN hR hX hO V hna hn2 hb hb5 hx hsg hE

set_option maxHeartbeats 4000000 in
set_option maxRecDepth 100000 in
theorem l_act {l : Launch} (htr : l.stackTraces = false) {E : kE} {A : Nat → Prop} {C : kC} {L : kL} {S : kI4} {N : kN3} {x b sg : Nat} (hX : isX E C L S N) (hO : okX S N) {T : Nat} (V : vS S N T) {f : Nat → Int32} (hna : kNa E C f) (hn2 : ∀ d, d < 4 → f d = nI (N 2 d 0)) (hb : ∀ d, d < 4 → N 3 d 0 ≤ b) (hb5 : b < 500) (hx : x < 2 ^ 31) (hsg : sg < 2) : kM l yL_act cL_act 13 (some .int) 11 280 (130 + 9 * b) (1700 + 918 * b) E A C L [.ref (L (1, 0, 0)), .ref (L (200, 0, 0)), .int (nI x), .int (nI sg)] (fun v C' L' => ∃ r S' N', v = some (.int r) ∧ kAct8 S N x r S' N' ∧ isX E C' L' S' N' ∧ kFr C L C' L' ∧ L' (1, 0, 0) = L (1, 0, 0)) := by
  have hj := hO.1
  refine kM.of htr (by decide) (Nat.le_of_ble_eq_true rfl) (fun Γ hl hR hN hnm X hE => ?_)
  refine k_lo (lo' := [(0, .ref (L (1, 0, 0))), (1, .ref (L (200, 0, 0))), (2, .int (nI x)), (3, .int (nI sg))]) ⟨rfl, rfl, rfl, rfl, trivial⟩ ?_
  refine k_iload_n X dL_act_0 rfl rfl ?_
  refine k_bipush (v := (nI 16)) X dL_act_1 (by decide) ?_
  refine k_idivN X (by omega) (by omega) (by omega) dL_act_3 ?_
  refine k_istore X dL_act_4 (by rw [hN]; decide) ?_
  refine k_iload X dL_act_6 rfl ?_
  refine k_iconst (v := (nI 4)) X dL_act_8 (by decide) ?_
  refine k_iremN X (by omega) (by omega) (by omega) dL_act_9 ?_
  refine k_istore X dL_act_10 (by rw [hN]; decide) ?_
  refine k_aload_n X dL_act_12 rfl rfl ?_
  refine k_callV (rest := []) X kv_X5_jobs kb_59 (c_jobs X.tr hX hO) hX.1.1.1 rfl rfl rfl rfl rfl (Nat.le_of_ble_eq_true rfl) ⟨by rw [hR]; exact Nat.le_of_ble_eq_true rfl, by rw [hR]; exact Nat.le_of_ble_eq_true rfl⟩ ⟨by rw [hR]; dsimp only; omega, by rw [hR]; dsimp only; omega⟩ dL_act_13 (fun v13 C9 L9 h9 => ?_)
  obtain ⟨rfl, rfl, rfl⟩ := h9
  refine k_if_ne (tgt := 23) X dL_act_16 (by decide) (fun c16 => ?_) (fun c16 => ?_)
  ·
    have hp : 0 < N 1 0 0 := Nat.pos_of_ne_zero (fun z => c16 (congrArg nI z))
    refine k_iload X dL_act_23 rfl ?_
    refine k_iconst (v := (nI 4)) X dL_act_25 (by decide) ?_
    refine k_idivN X (by omega) (by omega) (by omega) dL_act_26 ?_
    refine k_aload_n X dL_act_27 rfl rfl ?_
    refine k_callV (rest := [.int (nI ((x / 16) / 4))]) X kv_X5_jobs kb_59 (c_jobs X.tr hX hO) hX.1.1.1 rfl rfl rfl rfl rfl (Nat.le_of_ble_eq_true rfl) ⟨by rw [hR]; exact Nat.le_of_ble_eq_true rfl, by rw [hR]; exact Nat.le_of_ble_eq_true rfl⟩ ⟨by rw [hR]; dsimp only; omega, by rw [hR]; dsimp only; omega⟩ dL_act_28 (fun v28 C9 L9 h9 => ?_)
    obtain ⟨rfl, rfl, rfl⟩ := h9
    refine k_iremN X (by omega) (by omega) (by omega) dL_act_31 ?_
    have eJ : aJ N x = ((x / 16) / 4) % (N 1 0 0) := if_neg (Nat.pos_iff_ne_zero.mp hp)
    refine k_rw (y := nI (aJ N x)) (congrArg nI eJ.symm) ?_
    refine k_lo (lo' := [(0, .ref (L (1, 0, 0))), (1, .ref (L (200, 0, 0))), (2, .int (nI x)), (3, .int (nI sg)), (4, .int (nI (x / 16))), (5, .int (nI (aD x)))]) ⟨rfl, rfl, rfl, rfl, rfl, rfl, trivial⟩ ?_
    exact ac_32 X hN hR hX hO V hna hn2 hb hb5 hx hsg hE
  ·
    have hp : N 1 0 0 = 0 := nI_inj c16 (by omega) (by decide)
    refine k_iconst (v := (nI 0)) X dL_act_19 (by decide) ?_
    refine k_goto (tgt := 32) X dL_act_20 (by decide) ?_
    have eJ : aJ N x = 0 := if_pos hp
    refine k_rw (y := nI (aJ N x)) (congrArg nI eJ.symm) ?_
    refine k_lo (lo' := [(0, .ref (L (1, 0, 0))), (1, .ref (L (200, 0, 0))), (2, .int (nI x)), (3, .int (nI sg)), (4, .int (nI (x / 16))), (5, .int (nI (aD x)))]) ⟨rfl, rfl, rfl, rfl, rfl, rfl, trivial⟩ ?_
    exact ac_32 X hN hR hX hO V hna hn2 hb hb5 hx hsg hE
