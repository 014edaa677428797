theorem kq_inj {α : Type} {f g : kT → α} (h : kq f = kq g) : f = g := by rw [← kq_kq f, h, kq_kq]
theorem kq_c {C : kC} {e : Option va_E} (h : kq C (1, 0, 0) = e) : C (101, 0, 0) = e := h
theorem kMH.q0 {l : Launch} {y : MethodName} {cc : ByteArray} {n : Nat} {ret : Option FieldType} {hh : List (Nat × Nat × Nat × Nat)} {fr lw mc ms : Nat} {E : kE} {A : Nat → Prop} {C : kC} {L : kL} {av : List Value} {x : Option Value} (h : kMH l y cc n ret hh fr lw mc ms E A (kq C) (kq L) av (fun v C' L' => v = x ∧ kq L = L' ∧ kq C = C')) : kMH l y cc n ret hh fr lw mc ms E A C L av (fun v C' L' => v = x ∧ L = L' ∧ C = C') := h.q.imp (fun v C' L' z => ⟨z.1, kq_inj z.2.1, kq_inj z.2.2⟩)
theorem kM.q0 {l : Launch} {y : MethodName} {cc : ByteArray} {n : Nat} {ret : Option FieldType} {fr lw mc ms : Nat} {E : kE} {A : Nat → Prop} {C : kC} {L : kL} {av : List Value} {x : Option Value} (h : kM l y cc n ret fr lw mc ms E A (kq C) (kq L) av (fun v C' L' => v = x ∧ kq L = L' ∧ kq C = C')) : kM l y cc n ret fr lw mc ms E A C L av (fun v C' L' => v = x ∧ L = L' ∧ C = C') := h.q.imp (fun v C' L' z => ⟨z.1, kq_inj z.2.1, kq_inj z.2.2⟩)
set_option maxHeartbeats 4000000 in
set_option maxRecDepth 100000 in
theorem al_3 {Γ : kG} {E : kE} {A : Nat → Prop} {C : kC} {L : kL} {S : kI4} {N : kN3} (X : kX Γ E A cL_alike RL) (hN : kNl Γ = 6) (hR : kRm Γ = ({ frames := 11, cells := 2800, slots := 16600, locals := 280 } : Room)) (hX : isX E C L S N) (hY : isX E (kq C) (kq L) S N) (hO : okX S N) {T : Nat} (V : vS S N T) {f : Nat → Int32} (hna : kNa E C f) (hn2 : ∀ d, d < 4 → f d = nI (N 2 d 0)) (hB : ∀ d, d < 4 → N 2 d 0 ≤ 50) {d : Nat} (hd : d < 4) : ∀ (m k cells slots : Nat), k + m = N 2 d 0 → cells + 10 * m ≤ 2800 → slots + 60 * m ≤ 16600 → (∀ c s, c ≤ cells + 10 * m → s ≤ slots + 60 * m → kW Γ E A C L c s 293 [(0, .ref (L (1, 0, 0))), (1, .ref (L (101, 0, 0))), (2, .ref (L (200, 0, 0))), (3, .int (nI 1)), (4, .int (nI d))] []) → kW Γ E A C L cells slots 212 [(0, .ref (L (1, 0, 0))), (1, .ref (L (101, 0, 0))), (2, .ref (L (200, 0, 0))), (3, .int (nI 1)), (4, .int (nI d)), (5, .int (nI k))] [] := by
  have hb := hB d hd
  intro m
  induction m with
  | zero =>
    intro k cells slots hk hc hs kk
    refine k_iload X dL_alike_212 rfl ?_
    refine k_aload_n X dL_alike_214 rfl rfl ?_
    refine k_iload X dL_alike_215 rfl ?_
    refine k_iald X hna rfl (pk_in d 4 hd) dL_alike_217 ?_
    refine k_rw (y := nI (N 2 d 0)) (by rw [nI_clamp (by omega)]; exact hn2 d hd) ?_
    refine k_icmp_ge (tgt := 293) X dL_alike_218 (by decide) (fun c218 => ?_) (fun c218 => absurd (nI_le (by omega) (by omega)) c218)
    refine k_lo (lo' := [(0, .ref (L (1, 0, 0))), (1, .ref (L (101, 0, 0))), (2, .ref (L (200, 0, 0))), (3, .int (nI 1)), (4, .int (nI d))]) ⟨rfl, rfl, rfl, rfl, rfl, trivial⟩ ?_
    exact kk _ _ (by omega) (by omega)
  | succ m ih =>
    intro k cells slots hk hc hs kk
    have hlt : k < N 2 d 0 := by omega
    refine k_iload X dL_alike_212 rfl ?_
    refine k_aload_n X dL_alike_214 rfl rfl ?_
    refine k_iload X dL_alike_215 rfl ?_
    refine k_iald X hna rfl (pk_in d 4 hd) dL_alike_217 ?_
    refine k_rw (y := nI (N 2 d 0)) (by rw [nI_clamp (by omega)]; exact hn2 d hd) ?_
    refine k_icmp_ge (tgt := 293) X dL_alike_218 (by decide) (fun c218 => absurd c218 (nI_ge (by omega) (by omega))) (fun c218 => ?_)
    refine k_iload_n X dL_alike_221 rfl rfl ?_
    refine k_if_eq (tgt := 293) X dL_alike_222 (by decide) (fun c222 => absurd c222 (by decide)) (fun c222 => ?_)
    refine k_aload_n X dL_alike_225 rfl rfl ?_
    refine k_iload X dL_alike_226 rfl ?_
    refine k_sipush (v := (nI 1000)) X dL_alike_228 (by decide) ?_
    refine k_iload X dL_alike_231 rfl ?_
    refine k_iaddN X dL_alike_233 ?_
    refine k_callSH (rest := []) X ksh_numberOf kb_434 (g_number X.tr hX hO hd hlt) rfl rfl (Nat.le_of_ble_eq_true rfl) ⟨by rw [hR]; exact Nat.le_of_ble_eq_true rfl, by rw [hR]; exact Nat.le_of_ble_eq_true rfl⟩ ⟨by rw [hR]; dsimp only; omega, by rw [hR]; dsimp only; omega⟩ dL_alike_234 (fun v234 C9 L9 h9 => ?_)
    obtain ⟨rfl, rfl, rfl⟩ := h9
    refine k_aload_n X dL_alike_237 rfl rfl ?_
    refine k_iload X dL_alike_238 rfl ?_
    refine k_sipush (v := (nI 1000)) X dL_alike_240 (by decide) ?_
    refine k_iload X dL_alike_243 rfl ?_
    refine k_iaddN X dL_alike_245 ?_
    refine k_callSH (rest := [.int (S 9 d k 0)]) X ksh_numberOf kb_434 (kMH.q0 (g_number X.tr hY hO hd hlt)) rfl rfl (Nat.le_of_ble_eq_true rfl) ⟨by rw [hR]; exact Nat.le_of_ble_eq_true rfl, by rw [hR]; exact Nat.le_of_ble_eq_true rfl⟩ ⟨by rw [hR]; dsimp only; omega, by rw [hR]; dsimp only; omega⟩ dL_alike_246 (fun v246 C9 L9 h9 => ?_)
    obtain ⟨rfl, rfl, rfl⟩ := h9
    refine k_icmp_ne (tgt := 285) X dL_alike_249 (by decide) (fun c249 => absurd c249 (fun z => z rfl)) (fun c249 => ?_)
    refine k_aload_n X dL_alike_252 rfl rfl ?_
    refine k_iload X dL_alike_253 rfl ?_
    refine k_sipush (v := (nI 1000)) X dL_alike_255 (by decide) ?_
    refine k_iload X dL_alike_258 rfl ?_
    refine k_iaddN X dL_alike_260 ?_
    refine k_iconst (v := (nI 1)) X dL_alike_261 (by decide) ?_
    refine k_callSH (rest := []) X ksh_heldValue kb_427 (g_ov1 X.tr hX hO V hd hlt) rfl rfl (Nat.le_of_ble_eq_true rfl) ⟨by rw [hR]; exact Nat.le_of_ble_eq_true rfl, by rw [hR]; exact Nat.le_of_ble_eq_true rfl⟩ ⟨by rw [hR]; dsimp only; omega, by rw [hR]; dsimp only; omega⟩ dL_alike_262 (fun v262 C9 L9 h9 => ?_)
    obtain ⟨rfl, rfl, rfl⟩ := h9
    refine k_aload_n X dL_alike_265 rfl rfl ?_
    refine k_iload X dL_alike_266 rfl ?_
    refine k_sipush (v := (nI 1000)) X dL_alike_268 (by decide) ?_
    refine k_iload X dL_alike_271 rfl ?_
    refine k_iaddN X dL_alike_273 ?_
    refine k_iconst (v := (nI 1)) X dL_alike_274 (by decide) ?_
    refine k_callSH (rest := [.int (kOv S d k 1)]) X ksh_heldValue kb_427 (kMH.q0 (g_ov1 X.tr hY hO V hd hlt)) rfl rfl (Nat.le_of_ble_eq_true rfl) ⟨by rw [hR]; exact Nat.le_of_ble_eq_true rfl, by rw [hR]; exact Nat.le_of_ble_eq_true rfl⟩ ⟨by rw [hR]; dsimp only; omega, by rw [hR]; dsimp only; omega⟩ dL_alike_275 (fun v275 C9 L9 h9 => ?_)
    obtain ⟨rfl, rfl, rfl⟩ := h9
    refine k_icmp_ne (tgt := 285) X dL_alike_278 (by decide) (fun c278 => absurd c278 (fun z => z rfl)) (fun c278 => ?_)
    refine k_iconst (v := (nI 1)) X dL_alike_281 (by decide) ?_
    refine k_goto (tgt := 286) X dL_alike_282 (by decide) ?_
    refine k_istore_n X dL_alike_286 rfl (by rw [hN]; decide) ?_
    refine k_iinc (v := (nI (k + 1))) X dL_alike_287 rfl (by rw [show Int32.ofInt 1 = nI 1 from by decide, nI_add]) (by rw [hN]; decide) ?_
    refine k_goto (tgt := 212) X dL_alike_290 (by decide) ?_
    refine k_lo (lo' := [(0, .ref (L (1, 0, 0))), (1, .ref (L (101, 0, 0))), (2, .ref (L (200, 0, 0))), (3, .int (nI 1)), (4, .int (nI d)), (5, .int (nI (k + 1)))]) ⟨rfl, rfl, rfl, rfl, rfl, rfl, trivial⟩ ?_
    exact ih (k + 1) _ _ (by omega) (by omega) (by omega) (fun c s h1 h2 => kk c s (by omega) (by omega))

set_option maxHeartbeats 4000000 in
set_option maxRecDepth 100000 in
theorem al_2 {Γ : kG} {E : kE} {A : Nat → Prop} {C : kC} {L : kL} {S : kI4} {N : kN3} (X : kX Γ E A cL_alike RL) (hN : kNl Γ = 6) (hR : kRm Γ = ({ frames := 11, cells := 2800, slots := 16600, locals := 280 } : Room)) (hX : isX E C L S N) (hY : isX E (kq C) (kq L) S N) (hO : okX S N) {T : Nat} (V : vS S N T) {f : Nat → Int32} (hna : kNa E C f) (hn2 : ∀ d, d < 4 → f d = nI (N 2 d 0)) (hB : ∀ d, d < 4 → N 2 d 0 ≤ 50)  : ∀ (m d cells slots : Nat), d + m = 4 → cells + 506 * m ≤ 2800 → slots + 3036 * m ≤ 16600 → (∀ c s, c ≤ cells + 506 * m → s ≤ slots + 3036 * m → kW Γ E A C L c s 299 [(0, .ref (L (1, 0, 0))), (1, .ref (L (101, 0, 0))), (2, .ref (L (200, 0, 0))), (3, .int (nI 1))] []) → kW Γ E A C L cells slots 148 [(0, .ref (L (1, 0, 0))), (1, .ref (L (101, 0, 0))), (2, .ref (L (200, 0, 0))), (3, .int (nI 1)), (4, .int (nI d))] [] := by
  intro m
  induction m with
  | zero =>
    intro d cells slots hk hc hs kk
    refine k_iload X dL_alike_148 rfl ?_
    refine k_iconst (v := (nI 4)) X dL_alike_150 (by decide) ?_
    refine k_icmp_ge (tgt := 299) X dL_alike_151 (by decide) (fun c151 => ?_) (fun c151 => absurd (nI_le (by omega) (by omega)) c151)
    refine k_lo (lo' := [(0, .ref (L (1, 0, 0))), (1, .ref (L (101, 0, 0))), (2, .ref (L (200, 0, 0))), (3, .int (nI 1))]) ⟨rfl, rfl, rfl, rfl, trivial⟩ ?_
    exact kk _ _ (by omega) (by omega)
  | succ m ih =>
    intro d cells slots hk hc hs kk
    have hlt : d < 4 := by omega
    have hb := hB d hlt
    refine k_iload X dL_alike_148 rfl ?_
    refine k_iconst (v := (nI 4)) X dL_alike_150 (by decide) ?_
    refine k_icmp_ge (tgt := 299) X dL_alike_151 (by decide) (fun c151 => absurd c151 (nI_ge (by omega) (by omega))) (fun c151 => ?_)
    refine k_iload_n X dL_alike_154 rfl rfl ?_
    refine k_if_eq (tgt := 299) X dL_alike_155 (by decide) (fun c155 => absurd c155 (by decide)) (fun c155 => ?_)
    refine k_aload_n X dL_alike_158 rfl rfl ?_
    refine k_iload X dL_alike_159 rfl ?_
    refine k_callSH (rest := []) X ksh_held kb_413 (g_held X.tr hX hO hlt) rfl rfl (Nat.le_of_ble_eq_true rfl) ⟨by rw [hR]; exact Nat.le_of_ble_eq_true rfl, by rw [hR]; exact Nat.le_of_ble_eq_true rfl⟩ ⟨by rw [hR]; dsimp only; omega, by rw [hR]; dsimp only; omega⟩ dL_alike_161 (fun v161 C9 L9 h9 => ?_)
    obtain ⟨rfl, rfl, rfl⟩ := h9
    refine k_aload_n X dL_alike_164 rfl rfl ?_
    refine k_iload X dL_alike_165 rfl ?_
    refine k_callSH (rest := [.int (S 6 d 0 0 + S 7 d 0 0)]) X ksh_held kb_413 (kMH.q0 (g_held X.tr hY hO hlt)) rfl rfl (Nat.le_of_ble_eq_true rfl) ⟨by rw [hR]; exact Nat.le_of_ble_eq_true rfl, by rw [hR]; exact Nat.le_of_ble_eq_true rfl⟩ ⟨by rw [hR]; dsimp only; omega, by rw [hR]; dsimp only; omega⟩ dL_alike_167 (fun v167 C9 L9 h9 => ?_)
    obtain ⟨rfl, rfl, rfl⟩ := h9
    refine k_icmp_ne (tgt := 207) X dL_alike_170 (by decide) (fun c170 => absurd c170 (fun z => z rfl)) (fun c170 => ?_)
    refine k_aload_n X dL_alike_173 rfl rfl ?_
    refine k_iload X dL_alike_174 rfl ?_
    refine k_callSH (rest := []) X ksh_waiting kb_324 (g_waiting X.tr hX hO hlt) rfl rfl (Nat.le_of_ble_eq_true rfl) ⟨by rw [hR]; exact Nat.le_of_ble_eq_true rfl, by rw [hR]; exact Nat.le_of_ble_eq_true rfl⟩ ⟨by rw [hR]; dsimp only; omega, by rw [hR]; dsimp only; omega⟩ dL_alike_176 (fun v176 C9 L9 h9 => ?_)
    obtain ⟨rfl, rfl, rfl⟩ := h9
    refine k_aload_n X dL_alike_179 rfl rfl ?_
    refine k_iload X dL_alike_180 rfl ?_
    refine k_callSH (rest := [.int (nI (N 3 d 0 - N 4 d 0))]) X ksh_waiting kb_324 (kMH.q0 (g_waiting X.tr hY hO hlt)) rfl rfl (Nat.le_of_ble_eq_true rfl) ⟨by rw [hR]; exact Nat.le_of_ble_eq_true rfl, by rw [hR]; exact Nat.le_of_ble_eq_true rfl⟩ ⟨by rw [hR]; dsimp only; omega, by rw [hR]; dsimp only; omega⟩ dL_alike_182 (fun v182 C9 L9 h9 => ?_)
    obtain ⟨rfl, rfl, rfl⟩ := h9
    refine k_icmp_ne (tgt := 207) X dL_alike_185 (by decide) (fun c185 => absurd c185 (fun z => z rfl)) (fun c185 => ?_)
    refine k_aload_n X dL_alike_188 rfl rfl ?_
    refine k_iload X dL_alike_189 rfl ?_
    refine k_callSH (rest := []) X ksh_pile kb_442 (g_pile X.tr hX hO hlt) rfl rfl (Nat.le_of_ble_eq_true rfl) ⟨by rw [hR]; exact Nat.le_of_ble_eq_true rfl, by rw [hR]; exact Nat.le_of_ble_eq_true rfl⟩ ⟨by rw [hR]; dsimp only; omega, by rw [hR]; dsimp only; omega⟩ dL_alike_191 (fun v191 C9 L9 h9 => ?_)
    obtain ⟨rfl, rfl, rfl⟩ := h9
    refine k_aload_n X dL_alike_194 rfl rfl ?_
    refine k_iload X dL_alike_195 rfl ?_
    refine k_callSH (rest := [.int (nI (N 5 d 0))]) X ksh_pile kb_442 (kMH.q0 (g_pile X.tr hY hO hlt)) rfl rfl (Nat.le_of_ble_eq_true rfl) ⟨by rw [hR]; exact Nat.le_of_ble_eq_true rfl, by rw [hR]; exact Nat.le_of_ble_eq_true rfl⟩ ⟨by rw [hR]; dsimp only; omega, by rw [hR]; dsimp only; omega⟩ dL_alike_197 (fun v197 C9 L9 h9 => ?_)
    obtain ⟨rfl, rfl, rfl⟩ := h9
    refine k_icmp_ne (tgt := 207) X dL_alike_200 (by decide) (fun c200 => absurd c200 (fun z => z rfl)) (fun c200 => ?_)
    refine k_iconst (v := (nI 1)) X dL_alike_203 (by decide) ?_
    refine k_goto (tgt := 208) X dL_alike_204 (by decide) ?_
    refine k_istore_n X dL_alike_208 rfl (by rw [hN]; decide) ?_
    refine k_iconst (v := (nI 0)) X dL_alike_209 (by decide) ?_
    refine k_istore X dL_alike_210 (by rw [hN]; decide) ?_
    refine k_lo (lo' := [(0, .ref (L (1, 0, 0))), (1, .ref (L (101, 0, 0))), (2, .ref (L (200, 0, 0))), (3, .int (nI 1)), (4, .int (nI d)), (5, .int (nI 0))]) ⟨rfl, rfl, rfl, rfl, rfl, rfl, trivial⟩ ?_
    refine al_3 X hN hR hX hY hO V hna hn2 hB hlt (N 2 d 0) 0 _ _ (by omega) (by omega) (by omega) (fun c9 s9 h1 h2 => ?_)
    refine k_iinc (v := (nI (d + 1))) X dL_alike_293 rfl (by rw [show Int32.ofInt 1 = nI 1 from by decide, nI_add]) (by rw [hN]; decide) ?_
    refine k_goto (tgt := 148) X dL_alike_296 (by decide) ?_
    refine k_lo (lo' := [(0, .ref (L (1, 0, 0))), (1, .ref (L (101, 0, 0))), (2, .ref (L (200, 0, 0))), (3, .int (nI 1)), (4, .int (nI (d + 1)))]) ⟨rfl, rfl, rfl, rfl, rfl, trivial⟩ ?_
    exact ih (d + 1) _ _ (by omega) (by omega) (by omega) (fun c s h1 h2 => kk c s (by omega) (by omega))

set_option maxHeartbeats 4000000 in
set_option maxRecDepth 100000 in
theorem al_1 {Γ : kG} {E : kE} {A : Nat → Prop} {C : kC} {L : kL} {S : kI4} {N : kN3} (X : kX Γ E A cL_alike RL) (hN : kNl Γ = 6) (hR : kRm Γ = ({ frames := 11, cells := 2800, slots := 16600, locals := 280 } : Room)) (hX : isX E C L S N) (hY : isX E (kq C) (kq L) S N) (hO : okX S N) {T : Nat} (V : vS S N T) {f : Nat → Int32} (hna : kNa E C f) (hn2 : ∀ d, d < 4 → f d = nI (N 2 d 0)) (hB : ∀ d, d < 4 → N 2 d 0 ≤ 50)  : ∀ (m k cells slots : Nat), k + m = N 1 0 0 → cells + 18 * m ≤ 2800 → slots + 108 * m ≤ 16600 → (∀ c s, c ≤ cells + 18 * m → s ≤ slots + 108 * m → kW Γ E A C L c s 145 [(0, .ref (L (1, 0, 0))), (1, .ref (L (101, 0, 0))), (2, .ref (L (200, 0, 0))), (3, .int (nI 1))] []) → kW Γ E A C L cells slots 31 [(0, .ref (L (1, 0, 0))), (1, .ref (L (101, 0, 0))), (2, .ref (L (200, 0, 0))), (3, .int (nI 1)), (4, .int (nI k))] [] := by
  have hj := hO.1
  intro m
  induction m with
  | zero =>
    intro k cells slots hk hc hs kk
    refine k_iload X dL_alike_31 rfl ?_
    refine k_aload_n X dL_alike_33 rfl rfl ?_
    refine k_callV (rest := [.int (nI k)]) X kv_X5_jobs kb_59 (c_jobs X.tr hX hO) hX.1.1.1 rfl rfl rfl rfl rfl (Nat.le_of_ble_eq_true rfl) ⟨by rw [hR]; exact Nat.le_of_ble_eq_true rfl, by rw [hR]; exact Nat.le_of_ble_eq_true rfl⟩ ⟨by rw [hR]; dsimp only; omega, by rw [hR]; dsimp only; omega⟩ dL_alike_34 (fun v34 C9 L9 h9 => ?_)
    obtain ⟨rfl, rfl, rfl⟩ := h9
    refine k_icmp_ge (tgt := 145) X dL_alike_37 (by decide) (fun c37 => ?_) (fun c37 => absurd (nI_le (by omega) (by omega)) c37)
    refine k_lo (lo' := [(0, .ref (L (1, 0, 0))), (1, .ref (L (101, 0, 0))), (2, .ref (L (200, 0, 0))), (3, .int (nI 1))]) ⟨rfl, rfl, rfl, rfl, trivial⟩ ?_
    exact kk _ _ (by omega) (by omega)
  | succ m ih =>
    intro k cells slots hk hc hs kk
    have hlt : k < N 1 0 0 := by omega
    refine k_iload X dL_alike_31 rfl ?_
    refine k_aload_n X dL_alike_33 rfl rfl ?_
    refine k_callV (rest := [.int (nI k)]) X kv_X5_jobs kb_59 (c_jobs X.tr hX hO) hX.1.1.1 rfl rfl rfl rfl rfl (Nat.le_of_ble_eq_true rfl) ⟨by rw [hR]; exact Nat.le_of_ble_eq_true rfl, by rw [hR]; exact Nat.le_of_ble_eq_true rfl⟩ ⟨by rw [hR]; dsimp only; omega, by rw [hR]; dsimp only; omega⟩ dL_alike_34 (fun v34 C9 L9 h9 => ?_)
    obtain ⟨rfl, rfl, rfl⟩ := h9
    refine k_icmp_ge (tgt := 145) X dL_alike_37 (by decide) (fun c37 => absurd c37 (nI_ge (by omega) (by omega))) (fun c37 => ?_)
    refine k_iload_n X dL_alike_40 rfl rfl ?_
    refine k_if_eq (tgt := 145) X dL_alike_41 (by decide) (fun c41 => absurd c41 (by decide)) (fun c41 => ?_)
    refine k_aload_n X dL_alike_44 rfl rfl ?_
    refine k_iload X dL_alike_45 rfl ?_
    refine k_callSH (rest := []) X ksh_crew kb_380 (g_crew X.tr hX hO hlt) rfl rfl (Nat.le_of_ble_eq_true rfl) ⟨by rw [hR]; exact Nat.le_of_ble_eq_true rfl, by rw [hR]; exact Nat.le_of_ble_eq_true rfl⟩ ⟨by rw [hR]; dsimp only; omega, by rw [hR]; dsimp only; omega⟩ dL_alike_47 (fun v47 C9 L9 h9 => ?_)
    obtain ⟨rfl, rfl, rfl⟩ := h9
    refine k_aload_n X dL_alike_50 rfl rfl ?_
    refine k_iload X dL_alike_51 rfl ?_
    refine k_callSH (rest := [.int (S 2 k 0 0)]) X ksh_crew kb_380 (kMH.q0 (g_crew X.tr hY hO hlt)) rfl rfl (Nat.le_of_ble_eq_true rfl) ⟨by rw [hR]; exact Nat.le_of_ble_eq_true rfl, by rw [hR]; exact Nat.le_of_ble_eq_true rfl⟩ ⟨by rw [hR]; dsimp only; omega, by rw [hR]; dsimp only; omega⟩ dL_alike_53 (fun v53 C9 L9 h9 => ?_)
    obtain ⟨rfl, rfl, rfl⟩ := h9
    refine k_icmp_ne (tgt := 137) X dL_alike_56 (by decide) (fun c56 => absurd c56 (fun z => z rfl)) (fun c56 => ?_)
    refine k_aload_n X dL_alike_59 rfl rfl ?_
    refine k_iload X dL_alike_60 rfl ?_
    refine k_callSH (rest := []) X ksh_site kb_387 (g_site X.tr hX hO hlt) rfl rfl (Nat.le_of_ble_eq_true rfl) ⟨by rw [hR]; exact Nat.le_of_ble_eq_true rfl, by rw [hR]; exact Nat.le_of_ble_eq_true rfl⟩ ⟨by rw [hR]; dsimp only; omega, by rw [hR]; dsimp only; omega⟩ dL_alike_62 (fun v62 C9 L9 h9 => ?_)
    obtain ⟨rfl, rfl, rfl⟩ := h9
    refine k_aload_n X dL_alike_65 rfl rfl ?_
    refine k_iload X dL_alike_66 rfl ?_
    refine k_callSH (rest := [.int (S 1 k 0 0)]) X ksh_site kb_387 (kMH.q0 (g_site X.tr hY hO hlt)) rfl rfl (Nat.le_of_ble_eq_true rfl) ⟨by rw [hR]; exact Nat.le_of_ble_eq_true rfl, by rw [hR]; exact Nat.le_of_ble_eq_true rfl⟩ ⟨by rw [hR]; dsimp only; omega, by rw [hR]; dsimp only; omega⟩ dL_alike_68 (fun v68 C9 L9 h9 => ?_)
    obtain ⟨rfl, rfl, rfl⟩ := h9
    refine k_icmp_ne (tgt := 137) X dL_alike_71 (by decide) (fun c71 => absurd c71 (fun z => z rfl)) (fun c71 => ?_)
    refine k_aload_n X dL_alike_74 rfl rfl ?_
    refine k_iload X dL_alike_75 rfl ?_
    refine k_iconst (v := (nI 0)) X dL_alike_77 (by decide) ?_
    refine k_callSH (rest := []) X ksh_value kb_395 (g_value0 X.tr hX hO hlt) rfl rfl (Nat.le_of_ble_eq_true rfl) ⟨by rw [hR]; exact Nat.le_of_ble_eq_true rfl, by rw [hR]; exact Nat.le_of_ble_eq_true rfl⟩ ⟨by rw [hR]; dsimp only; omega, by rw [hR]; dsimp only; omega⟩ dL_alike_78 (fun v78 C9 L9 h9 => ?_)
    obtain ⟨rfl, rfl, rfl⟩ := h9
    refine k_aload_n X dL_alike_81 rfl rfl ?_
    refine k_iload X dL_alike_82 rfl ?_
    refine k_iconst (v := (nI 0)) X dL_alike_84 (by decide) ?_
    refine k_callSH (rest := [.int (S 3 k 0 0)]) X ksh_value kb_395 (kMH.q0 (g_value0 X.tr hY hO hlt)) rfl rfl (Nat.le_of_ble_eq_true rfl) ⟨by rw [hR]; exact Nat.le_of_ble_eq_true rfl, by rw [hR]; exact Nat.le_of_ble_eq_true rfl⟩ ⟨by rw [hR]; dsimp only; omega, by rw [hR]; dsimp only; omega⟩ dL_alike_85 (fun v85 C9 L9 h9 => ?_)
    obtain ⟨rfl, rfl, rfl⟩ := h9
    refine k_icmp_ne (tgt := 137) X dL_alike_88 (by decide) (fun c88 => absurd c88 (fun z => z rfl)) (fun c88 => ?_)
    refine k_aload_n X dL_alike_91 rfl rfl ?_
    refine k_iload X dL_alike_92 rfl ?_
    refine k_iconst (v := (nI 1)) X dL_alike_94 (by decide) ?_
    refine k_callSH (rest := []) X ksh_version kb_406 (g_version1 X.tr hX hO hlt) rfl rfl (Nat.le_of_ble_eq_true rfl) ⟨by rw [hR]; exact Nat.le_of_ble_eq_true rfl, by rw [hR]; exact Nat.le_of_ble_eq_true rfl⟩ ⟨by rw [hR]; dsimp only; omega, by rw [hR]; dsimp only; omega⟩ dL_alike_95 (fun v95 C9 L9 h9 => ?_)
    obtain ⟨rfl, rfl, rfl⟩ := h9
    refine k_aload_n X dL_alike_98 rfl rfl ?_
    refine k_iload X dL_alike_99 rfl ?_
    refine k_iconst (v := (nI 1)) X dL_alike_101 (by decide) ?_
    refine k_callSH (rest := [.int (S 3 k 0 3)]) X ksh_version kb_406 (kMH.q0 (g_version1 X.tr hY hO hlt)) rfl rfl (Nat.le_of_ble_eq_true rfl) ⟨by rw [hR]; exact Nat.le_of_ble_eq_true rfl, by rw [hR]; exact Nat.le_of_ble_eq_true rfl⟩ ⟨by rw [hR]; dsimp only; omega, by rw [hR]; dsimp only; omega⟩ dL_alike_102 (fun v102 C9 L9 h9 => ?_)
    obtain ⟨rfl, rfl, rfl⟩ := h9
    refine k_icmp_ne (tgt := 137) X dL_alike_105 (by decide) (fun c105 => absurd c105 (fun z => z rfl)) (fun c105 => ?_)
    refine k_aload_n X dL_alike_108 rfl rfl ?_
    refine k_iload X dL_alike_109 rfl ?_
    refine k_iconst (v := (nI 4)) X dL_alike_111 (by decide) ?_
    refine k_iremN X (by omega) (by omega) (by omega) dL_alike_112 ?_
    refine k_iload X dL_alike_113 rfl ?_
    refine k_iconst (v := (nI 0)) X dL_alike_115 (by decide) ?_
    refine k_callSH (rest := []) X ksh_heldValue kb_427 (g_hv0 X.tr hX hO V (Nat.mod_lt k (by decide : 0 < 4)) hlt) rfl rfl (Nat.le_of_ble_eq_true rfl) ⟨by rw [hR]; exact Nat.le_of_ble_eq_true rfl, by rw [hR]; exact Nat.le_of_ble_eq_true rfl⟩ ⟨by rw [hR]; dsimp only; omega, by rw [hR]; dsimp only; omega⟩ dL_alike_116 (fun v116 C9 L9 h9 => ?_)
    obtain ⟨rfl, rfl, rfl⟩ := h9
    refine k_aload_n X dL_alike_119 rfl rfl ?_
    refine k_iload X dL_alike_120 rfl ?_
    refine k_iconst (v := (nI 4)) X dL_alike_122 (by decide) ?_
    refine k_iremN X (by omega) (by omega) (by omega) dL_alike_123 ?_
    refine k_iload X dL_alike_124 rfl ?_
    refine k_iconst (v := (nI 0)) X dL_alike_126 (by decide) ?_
    refine k_callSH (rest := [.int (kHv S (k % 4) k 0)]) X ksh_heldValue kb_427 (kMH.q0 (g_hv0 X.tr hY hO V (Nat.mod_lt k (by decide : 0 < 4)) hlt)) rfl rfl (Nat.le_of_ble_eq_true rfl) ⟨by rw [hR]; exact Nat.le_of_ble_eq_true rfl, by rw [hR]; exact Nat.le_of_ble_eq_true rfl⟩ ⟨by rw [hR]; dsimp only; omega, by rw [hR]; dsimp only; omega⟩ dL_alike_127 (fun v127 C9 L9 h9 => ?_)
    obtain ⟨rfl, rfl, rfl⟩ := h9
    refine k_icmp_ne (tgt := 137) X dL_alike_130 (by decide) (fun c130 => absurd c130 (fun z => z rfl)) (fun c130 => ?_)
    refine k_iconst (v := (nI 1)) X dL_alike_133 (by decide) ?_
    refine k_goto (tgt := 138) X dL_alike_134 (by decide) ?_
    refine k_istore_n X dL_alike_138 rfl (by rw [hN]; decide) ?_
    refine k_iinc (v := (nI (k + 1))) X dL_alike_139 rfl (by rw [show Int32.ofInt 1 = nI 1 from by decide, nI_add]) (by rw [hN]; decide) ?_
    refine k_goto (tgt := 31) X dL_alike_142 (by decide) ?_
    refine k_lo (lo' := [(0, .ref (L (1, 0, 0))), (1, .ref (L (101, 0, 0))), (2, .ref (L (200, 0, 0))), (3, .int (nI 1)), (4, .int (nI (k + 1)))]) ⟨rfl, rfl, rfl, rfl, rfl, trivial⟩ ?_
    exact ih (k + 1) _ _ (by omega) (by omega) (by omega) (fun c s h1 h2 => kk c s (by omega) (by omega))

set_option maxHeartbeats 4000000 in
set_option maxRecDepth 100000 in
theorem l_alike {l : Launch} (htr : l.stackTraces = false) {E : kE} {A : Nat → Prop} {C : kC} {L : kL} {S : kI4} {N : kN3} (hX : isX E C L S N) (hY : isX E (kq C) (kq L) S N) (hO : okX S N) {T : Nat} (V : vS S N T) {f : Nat → Int32} (hna : kNa E C f) (hn2 : ∀ d, d < 4 → f d = nI (N 2 d 0)) (hB : ∀ d, d < 4 → N 2 d 0 ≤ 50) : kM l yL_alike cL_alike 6 (some .boolean) 11 280 2800 16600 E A C L [.ref (L (1, 0, 0)), .ref (L (101, 0, 0)), .ref (L (200, 0, 0))] (fun v C' L' => v = some (.int (nI 1)) ∧ L = L' ∧ C = C') := by
  have hj := hO.1
  refine kM.of htr (by decide) (Nat.le_of_ble_eq_true rfl) (fun Γ hl hR hN hnm X hE => ?_)
  refine k_lo (lo' := [(0, .ref (L (1, 0, 0))), (1, .ref (L (101, 0, 0))), (2, .ref (L (200, 0, 0)))]) ⟨rfl, rfl, rfl, trivial⟩ ?_
  refine k_aload_n X dL_alike_0 rfl rfl ?_
  refine k_callV (rest := []) X kv_X5_jobs kb_59 (c_jobs X.tr hX hO) hX.1.1.1 rfl rfl rfl rfl rfl (Nat.le_of_ble_eq_true rfl) ⟨by rw [hR]; exact Nat.le_of_ble_eq_true rfl, by rw [hR]; exact Nat.le_of_ble_eq_true rfl⟩ ⟨by rw [hR]; dsimp only; omega, by rw [hR]; dsimp only; omega⟩ dL_alike_1 (fun v1 C9 L9 h9 => ?_)
  obtain ⟨rfl, rfl, rfl⟩ := h9
  refine k_aload_n X dL_alike_4 rfl rfl ?_
  refine k_callV (rest := [.int (nI (N 1 0 0))]) X kv_X5_jobs kb_59 (kM.q0 (c_jobs X.tr hY hO)) (kq_c hY.1.1.1) rfl rfl rfl rfl rfl (Nat.le_of_ble_eq_true rfl) ⟨by rw [hR]; exact Nat.le_of_ble_eq_true rfl, by rw [hR]; exact Nat.le_of_ble_eq_true rfl⟩ ⟨by rw [hR]; dsimp only; omega, by rw [hR]; dsimp only; omega⟩ dL_alike_5 (fun v5 C9 L9 h9 => ?_)
  obtain ⟨rfl, rfl, rfl⟩ := h9
  refine k_icmp_ne (tgt := 26) X dL_alike_8 (by decide) (fun c8 => absurd c8 (fun z => z rfl)) (fun c8 => ?_)
  refine k_aload_n X dL_alike_11 rfl rfl ?_
  refine k_callV (rest := []) X kv_X5_done kb_473 (c_done X.tr hX hO) hX.1.1.1 rfl rfl rfl rfl rfl (Nat.le_of_ble_eq_true rfl) ⟨by rw [hR]; exact Nat.le_of_ble_eq_true rfl, by rw [hR]; exact Nat.le_of_ble_eq_true rfl⟩ ⟨by rw [hR]; dsimp only; omega, by rw [hR]; dsimp only; omega⟩ dL_alike_12 (fun v12 C9 L9 h9 => ?_)
  obtain ⟨rfl, rfl, rfl⟩ := h9
  refine k_aload_n X dL_alike_15 rfl rfl ?_
  refine k_callV (rest := [.int (S 12 0 0 0)]) X kv_X5_done kb_473 (kM.q0 (c_done X.tr hY hO)) (kq_c hY.1.1.1) rfl rfl rfl rfl rfl (Nat.le_of_ble_eq_true rfl) ⟨by rw [hR]; exact Nat.le_of_ble_eq_true rfl, by rw [hR]; exact Nat.le_of_ble_eq_true rfl⟩ ⟨by rw [hR]; dsimp only; omega, by rw [hR]; dsimp only; omega⟩ dL_alike_16 (fun v16 C9 L9 h9 => ?_)
  obtain ⟨rfl, rfl, rfl⟩ := h9
  refine k_icmp_ne (tgt := 26) X dL_alike_19 (by decide) (fun c19 => absurd c19 (fun z => z rfl)) (fun c19 => ?_)
  refine k_iconst (v := (nI 1)) X dL_alike_22 (by decide) ?_
  refine k_goto (tgt := 27) X dL_alike_23 (by decide) ?_
  refine k_istore_n X dL_alike_27 rfl (by rw [hN]; decide) ?_
  refine k_iconst (v := (nI 0)) X dL_alike_28 (by decide) ?_
  refine k_istore X dL_alike_29 (by rw [hN]; decide) ?_
  refine k_lo (lo' := [(0, .ref (L (1, 0, 0))), (1, .ref (L (101, 0, 0))), (2, .ref (L (200, 0, 0))), (3, .int (nI 1)), (4, .int (nI 0))]) ⟨rfl, rfl, rfl, rfl, rfl, trivial⟩ ?_
  refine al_1 X hN hR hX hY hO V hna hn2 hB (N 1 0 0) 0 _ _ (by omega) (by omega) (by omega) (fun c8 s8 h81 h82 => ?_)
  refine k_iconst (v := (nI 0)) X dL_alike_145 (by decide) ?_
  refine k_istore X dL_alike_146 (by rw [hN]; decide) ?_
  refine k_lo (lo' := [(0, .ref (L (1, 0, 0))), (1, .ref (L (101, 0, 0))), (2, .ref (L (200, 0, 0))), (3, .int (nI 1)), (4, .int (nI 0))]) ⟨rfl, rfl, rfl, rfl, rfl, trivial⟩ ?_
  refine al_2 X hN hR hX hY hO V hna hn2 hB 4 0 _ _ (by omega) (by omega) (by omega) (fun c9 s9 h91 h92 => ?_)
  refine k_iload_n X dL_alike_299 rfl rfl ?_
  exact k_zret X hE kz1 dL_alike_300 (by first | omega | exact Nat.le_of_ble_eq_true rfl | (dsimp only; omega)) (by first | omega | exact Nat.le_of_ble_eq_true rfl | (dsimp only; omega)) ⟨rfl, rfl, rfl⟩
