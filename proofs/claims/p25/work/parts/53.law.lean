theorem kupL {α : Type} {C : kT → α} {f0 : Nat} {e : α} {t : kT} (h : t.1 ≠ f0) : kup C (f0, 0, 0) e t = C t := kup_n (fun z => h (by rw [z]))
/-- both stores, and the own jobs that the law counts -/
def kLw (E : kE) (C : kC) (L : kL) (S : kI4) (N : kN3) (f : Nat → Int32) (T b : Nat) : Prop := isX E C L S N ∧ isX E (kq C) (kq L) S N ∧ kNa E C f ∧ (∀ d, d < 4 → f d = nI (N 2 d 0)) ∧ kOk S N T b
/-- the law's own frame: its code, the script, its end -/
def kLc (Γ : kG) (E : kE) (A : Nat → Prop) (b n : Nat) (xs : Nat → Int32) : Prop :=
  kX Γ E A cL_law RL ∧ kNl Γ = 10 ∧ kRm Γ = ({ frames := 14, cells := 755171, slots := 6836111, locals := 568 } : Room) ∧ kSc Γ A b n xs ∧ n < 2 ^ 31 ∧
  (∀ (C : kC) (L : kL) (cells slots pc : Nat) (lo : List (Nat × Value)), cells ≤ 755171 → slots ≤ 6836111 → decode cL_law pc = .ok (.ireturn, 1) → kW Γ E A C L cells slots pc lo [.int (nI 1)])
/-- what has been made after k things -/
def kBc : Nat → Nat
  | 0 => 100
  | k + 1 => kBc k + 7800 + 18 * k
def kBs : Nat → Nat
  | 0 => 2000
  | k + 1 => kBs k + 68000 + 1836 * k
theorem kBc_mono {j : Nat} : ∀ {k : Nat}, j ≤ k → kBc j ≤ kBc k
  | 0, h => by rw [Nat.le_zero.mp h]; exact Nat.le_refl _
  | k + 1, h => by
    by_cases e : j = k + 1
    · rw [e]
      exact Nat.le_refl _
    · have z : kBc (k + 1) = kBc k + 7800 + 18 * k := rfl
      have := kBc_mono (j := j) (k := k) (by omega)
      omega
theorem kBs_mono {j : Nat} : ∀ {k : Nat}, j ≤ k → kBs j ≤ kBs k
  | 0, h => by rw [Nat.le_zero.mp h]; exact Nat.le_refl _
  | k + 1, h => by
    by_cases e : j = k + 1
    · rw [e]
      exact Nat.le_refl _
    · have z : kBs (k + 1) = kBs k + 68000 + 1836 * k := rfl
      have := kBs_mono (j := j) (k := k) (by omega)
      omega
theorem kBc_le {k : Nat} (h : k ≤ 50) : kBc k ≤ 412150 := Nat.le_trans (kBc_mono h) (by decide)
theorem kBs_le {k : Nat} (h : k ≤ 50) : kBs k ≤ 5651100 := Nat.le_trans (kBs_mono h) (by decide)
set_option maxHeartbeats 4000000 in
set_option maxRecDepth 100000 in
theorem la_262 {Γ : kG} {E : kE} {A : Nat → Prop} {b n : Nat} {xs : Nat → Int32} (Kc : kLc Γ E A b n xs) {C : kC} {L : kL} {S : kI4} {N : kN3} {f : Nat → Int32} {T bb : Nat} (hX : isX E C L S N) (hY : isX E (kq C) (kq L) S N) (hna : kNa E C f) (hn2 : ∀ d, d < 4 → f d = nI (N 2 d 0)) (KO : kOk S N T bb) (hT : T ≤ 10000) (hbb : bb ≤ 50) {th k cells slots : Nat} (hc : cells ≤ 412150) (hs : slots ≤ 5651100) : kW Γ E A C L cells slots 262 [(0, .ref b), (1, .ref (L (1, 0, 0))), (2, .ref (L (101, 0, 0))), (3, .ref (L (200, 0, 0))), (4, .int (nI (kA3 N))), (5, .int (nI th)), (6, .int (nI 1)), (7, .int (nI k))] [] := by
  have Kc2 := Kc
  obtain ⟨X, hN, hR, hsc, hn, rt⟩ := Kc2
  have KO2 := KO
  obtain ⟨V, hO, hdn, h3⟩ := KO2
  have h3b : ∀ d, d < 4 → N 3 d 0 ≤ 50 := fun d hd => Nat.le_trans (h3 d hd) hbb
  have h2b : ∀ d, d < 4 → N 2 d 0 ≤ 50 := fun d hd => Nat.le_trans (V.m2 hd) (h3b d hd)
  have h512 : ∀ d, d < 4 → N 3 d 0 < 512 := fun d hd => by have := h3b d hd; omega
  refine k_iload X dL_law_262 rfl ?_
  refine k_if_eq (tgt := 308) X dL_law_264 (by decide) (fun c264 => absurd c264 (by decide)) (fun c264 => ?_)
  refine k_aload_n X dL_law_267 rfl rfl ?_
  refine k_aload_n X dL_law_268 rfl rfl ?_
  refine k_aload_n X dL_law_269 rfl rfl ?_
  refine k_callS (rest := []) X ks_L_alike kb_470 (l_alike X.tr hX hY hO V hna hn2 h2b) rfl rfl (Nat.le_of_ble_eq_true rfl) ⟨by rw [hR]; exact Nat.le_of_ble_eq_true rfl, by rw [hR]; exact Nat.le_of_ble_eq_true rfl⟩ ⟨by rw [hR]; dsimp only; omega, by rw [hR]; dsimp only; omega⟩ dL_law_270 (fun v270 C9 L9 h9 => ?_)
  obtain ⟨rfl, rfl, rfl⟩ := h9
  refine k_if_eq (tgt := 308) X dL_law_273 (by decide) (fun c273 => absurd c273 (by decide)) (fun c273 => ?_)
  refine k_aload_n X dL_law_276 rfl rfl ?_
  refine k_aload_n X dL_law_277 rfl rfl ?_
  refine k_iload X dL_law_278 rfl ?_
  refine k_callS (rest := []) X ks_L_holdsAll kb_477 (l_holdsAll X.tr hX hO V hT hna hn2 h3b hdn) rfl rfl (Nat.le_of_ble_eq_true rfl) ⟨by rw [hR]; exact Nat.le_of_ble_eq_true rfl, by rw [hR]; exact Nat.le_of_ble_eq_true rfl⟩ ⟨by rw [hR]; dsimp only; omega, by rw [hR]; dsimp only; omega⟩ dL_law_280 (fun v280 C9 L9 h9 => ?_)
  obtain ⟨rfl, rfl, rfl⟩ := h9
  refine k_if_eq (tgt := 308) X dL_law_283 (by decide) (fun c283 => absurd c283 (by decide)) (fun c283 => ?_)
  refine k_aload_n X dL_law_286 rfl rfl ?_
  refine k_aload_n X dL_law_287 rfl rfl ?_
  refine k_aload_n X dL_law_288 rfl rfl ?_
  refine k_iconst (v := (nI 0)) X dL_law_289 (by decide) ?_
  refine k_callD X hsc hn (k := 0) (by decide) (Nat.le_of_ble_eq_true rfl) ⟨by rw [hR]; exact Nat.le_of_ble_eq_true rfl, by rw [hR]; exact Nat.le_of_ble_eq_true rfl⟩ ⟨by rw [hR]; dsimp only; omega, by rw [hR]; dsimp only; omega⟩ dL_law_290 (fun z hz => ?_)
  refine k_bipush (v := (nI 35)) X dL_law_293 (by decide) ?_
  refine k_idivN X (by omega) (by omega) (by omega) dL_law_295 ?_
  refine k_iconst (v := (nI 4)) X dL_law_296 (by decide) ?_
  refine k_iremN X (by omega) (by omega) (by omega) dL_law_297 ?_
  refine k_callS (rest := []) X ks_L_fresh kb_480 (l_fresh X.tr hX hO V hna hn2 h3b (d := z / 35 % 4) (Nat.mod_lt _ (by decide))) rfl rfl (Nat.le_of_ble_eq_true rfl) ⟨by rw [hR]; exact Nat.le_of_ble_eq_true rfl, by rw [hR]; exact Nat.le_of_ble_eq_true rfl⟩ ⟨by rw [hR]; dsimp only; omega, by rw [hR]; dsimp only; omega⟩ dL_law_298 (fun v298 C9 L9 h9 => ?_)
  have e9 : v298 = some (.int (nI 1)) := h9
  subst e9
  refine k_if_eq (tgt := 308) X dL_law_301 (by decide) (fun c301 => absurd c301 (by decide)) (fun c301 => ?_)
  refine k_iconst (v := (nI 1)) X dL_law_304 (by decide) ?_
  refine k_goto (tgt := 309) X dL_law_305 (by decide) ?_
  exact rt _ _ _ _ _ _ (by omega) (by omega) dL_law_309

set_option maxHeartbeats 4000000 in
set_option maxRecDepth 100000 in
theorem la_249 {Γ : kG} {E : kE} {A : Nat → Prop} {b n : Nat} {xs : Nat → Int32} (Kc : kLc Γ E A b n xs) {C : kC} {L : kL} {S : kI4} {N : kN3} {f : Nat → Int32} {T bb : Nat} (hX : isX E C L S N) (hY : isX E (kq C) (kq L) S N) (hna : kNa E C f) (hn2 : ∀ d, d < 4 → f d = nI (N 2 d 0)) (KO : kOk S N T bb) (hT : T ≤ 10000) (hbb : bb ≤ 50) {th k x cells slots : Nat} (hk : k < 50) (hx : x < 2 ^ 31) (kk : ∀ c s, c ≤ cells → s ≤ slots → kW Γ E A C L c s 42 [(0, .ref b), (1, .ref (L (1, 0, 0))), (2, .ref (L (101, 0, 0))), (3, .ref (L (200, 0, 0))), (4, .int (nI (kA3 N))), (5, .int (nI th)), (6, .int (nI 1)), (7, .int (nI (k + 1)))] []) : kW Γ E A C L cells slots 249 [(0, .ref b), (1, .ref (L (1, 0, 0))), (2, .ref (L (101, 0, 0))), (3, .ref (L (200, 0, 0))), (4, .int (nI (kA3 N))), (5, .int (nI th)), (6, .int (nI 1)), (7, .int (nI k)), (8, .int (nI x))] [] := by
  have Kc2 := Kc
  obtain ⟨X, hN, hR, hsc, hn, rt⟩ := Kc2
  have KO2 := KO
  obtain ⟨V, hO, hdn, h3⟩ := KO2
  have h3b : ∀ d, d < 4 → N 3 d 0 ≤ 50 := fun d hd => Nat.le_trans (h3 d hd) hbb
  have h2b : ∀ d, d < 4 → N 2 d 0 ≤ 50 := fun d hd => Nat.le_trans (V.m2 hd) (h3b d hd)
  have h512 : ∀ d, d < 4 → N 3 d 0 < 512 := fun d hd => by have := h3b d hd; omega
  refine k_iconst (v := (nI 1)) X dL_law_249 (by decide) ?_
  refine k_goto (tgt := 254) X dL_law_250 (by decide) ?_
  refine k_istore X dL_law_254 (by rw [hN]; decide) ?_
  refine k_iinc (v := (nI (k + 1))) X dL_law_256 rfl (by rw [show Int32.ofInt 1 = nI 1 from by decide, nI_add]) (by rw [hN]; decide) ?_
  refine k_goto (tgt := 42) X dL_law_259 (by decide) ?_
  refine k_lo (lo' := [(0, .ref b), (1, .ref (L (1, 0, 0))), (2, .ref (L (101, 0, 0))), (3, .ref (L (200, 0, 0))), (4, .int (nI (kA3 N))), (5, .int (nI th)), (6, .int (nI 1)), (7, .int (nI (k + 1)))]) ⟨rfl, rfl, rfl, rfl, rfl, rfl, rfl, rfl, trivial⟩ ?_
  exact kk _ _ (by omega) (by omega)

set_option maxHeartbeats 4000000 in
set_option maxRecDepth 100000 in
theorem la_231 {Γ : kG} {E : kE} {A : Nat → Prop} {b n : Nat} {xs : Nat → Int32} (Kc : kLc Γ E A b n xs) {C : kC} {L : kL} {S : kI4} {N : kN3} {f : Nat → Int32} {T bb : Nat} (hX : isX E C L S N) (hY : isX E (kq C) (kq L) S N) (hna : kNa E C f) (hn2 : ∀ d, d < 4 → f d = nI (N 2 d 0)) (KO : kOk S N T bb) (hT : T ≤ 10000) (hbb : bb ≤ 50) {th k x cells slots : Nat} (hk : k < 50) (hx : x < 2 ^ 31) (hc : cells + 3900 ≤ 412150) (hs : slots + 23500 ≤ 5651100) (kk : ∀ c s, c ≤ cells + 3900 → s ≤ slots + 23500 → kW Γ E A C L c s 42 [(0, .ref b), (1, .ref (L (1, 0, 0))), (2, .ref (L (101, 0, 0))), (3, .ref (L (200, 0, 0))), (4, .int (nI (kA3 N))), (5, .int (nI th)), (6, .int (nI 1)), (7, .int (nI (k + 1)))] []) : kW Γ E A C L cells slots 231 [(0, .ref b), (1, .ref (L (1, 0, 0))), (2, .ref (L (101, 0, 0))), (3, .ref (L (200, 0, 0))), (4, .int (nI (kA3 N))), (5, .int (nI th)), (6, .int (nI 1)), (7, .int (nI k)), (8, .int (nI x))] [] := by
  have Kc2 := Kc
  obtain ⟨X, hN, hR, hsc, hn, rt⟩ := Kc2
  have KO2 := KO
  obtain ⟨V, hO, hdn, h3⟩ := KO2
  have h3b : ∀ d, d < 4 → N 3 d 0 ≤ 50 := fun d hd => Nat.le_trans (h3 d hd) hbb
  have h2b : ∀ d, d < 4 → N 2 d 0 ≤ 50 := fun d hd => Nat.le_trans (V.m2 hd) (h3b d hd)
  have h512 : ∀ d, d < 4 → N 3 d 0 < 512 := fun d hd => by have := h3b d hd; omega
  refine k_iload X dL_law_231 rfl ?_
  refine k_bipush (v := (nI 6)) X dL_law_233 (by decide) ?_
  refine k_iremN X (by omega) (by omega) (by omega) dL_law_235 ?_
  refine k_if_gt (tgt := 249) X dL_law_236 (by decide) (fun c236 => ?_) (fun c236 => ?_)
  ·
    exact la_249 Kc hX hY hna hn2 KO hT hbb hk hx (fun c s h1 h2 => kk c s (by omega) (by omega))
  ·
    refine k_aload_n X dL_law_239 rfl rfl ?_
    refine k_aload_n X dL_law_240 rfl rfl ?_
    refine k_iload X dL_law_241 rfl ?_
    refine k_callS (rest := []) X ks_L_holdsAll kb_477 ((kM.q0 (l_holdsAll X.tr hY hO V hT hna.q hn2 h3b hdn))) rfl rfl (Nat.le_of_ble_eq_true rfl) ⟨by rw [hR]; exact Nat.le_of_ble_eq_true rfl, by rw [hR]; exact Nat.le_of_ble_eq_true rfl⟩ ⟨by rw [hR]; dsimp only; omega, by rw [hR]; dsimp only; omega⟩ dL_law_243 (fun v243 C9 L9 h9 => ?_)
    obtain ⟨rfl, rfl, rfl⟩ := h9
    refine k_if_eq (tgt := 253) X dL_law_246 (by decide) (fun c246 => absurd c246 (by decide)) (fun c246 => ?_)
    exact la_249 Kc hX hY hna hn2 KO hT hbb hk hx (fun c s h1 h2 => kk c s (by omega) (by omega))

set_option maxHeartbeats 4000000 in
set_option maxRecDepth 100000 in
theorem la_196 {Γ : kG} {E : kE} {A : Nat → Prop} {b n : Nat} {xs : Nat → Int32} (Kc : kLc Γ E A b n xs) {C : kC} {L : kL} {S : kI4} {N : kN3} {f : Nat → Int32} {T bb : Nat} (hX : isX E C L S N) (hY : isX E (kq C) (kq L) S N) (hna : kNa E C f) (hn2 : ∀ d, d < 4 → f d = nI (N 2 d 0)) (KO : kOk S N T bb) (hT : T ≤ 10000) (hbb : bb ≤ 50) {th k x cells slots : Nat} (hk : k < 50) (hx : x < 2 ^ 31) (hc : cells + 7100 ≤ 412150) (hs : slots + 52100 ≤ 5651100) (kk : ∀ c s, c ≤ cells + 7100 → s ≤ slots + 52100 → kW Γ E A C L c s 42 [(0, .ref b), (1, .ref (L (1, 0, 0))), (2, .ref (L (101, 0, 0))), (3, .ref (L (200, 0, 0))), (4, .int (nI (kA3 N))), (5, .int (nI th)), (6, .int (nI 1)), (7, .int (nI (k + 1)))] []) : kW Γ E A C L cells slots 196 [(0, .ref b), (1, .ref (L (1, 0, 0))), (2, .ref (L (101, 0, 0))), (3, .ref (L (200, 0, 0))), (4, .int (nI (kA3 N))), (5, .int (nI th)), (6, .int (nI 1)), (7, .int (nI k)), (8, .int (nI x))] [] := by
  have Kc2 := Kc
  obtain ⟨X, hN, hR, hsc, hn, rt⟩ := Kc2
  have KO2 := KO
  obtain ⟨V, hO, hdn, h3⟩ := KO2
  have h3b : ∀ d, d < 4 → N 3 d 0 ≤ 50 := fun d hd => Nat.le_trans (h3 d hd) hbb
  have h2b : ∀ d, d < 4 → N 2 d 0 ≤ 50 := fun d hd => Nat.le_trans (V.m2 hd) (h3b d hd)
  have h512 : ∀ d, d < 4 → N 3 d 0 < 512 := fun d hd => by have := h3b d hd; omega
  refine k_iload X dL_law_196 rfl ?_
  refine k_if_eq (tgt := 253) X dL_law_198 (by decide) (fun c198 => absurd c198 (by decide)) (fun c198 => ?_)
  refine k_aload_n X dL_law_201 rfl rfl ?_
  refine k_aload_n X dL_law_202 rfl rfl ?_
  refine k_iload X dL_law_203 rfl ?_
  refine k_sipush (v := (nI 499)) X dL_law_205 (by decide) ?_
  refine k_iremN X (by omega) (by omega) (by omega) dL_law_208 ?_
  refine k_callS (rest := []) X ks_L_refuses kb_377 (kM.q0 (l_refuses X.tr hY hO V (x := x % 499) (Nat.lt_trans (Nat.mod_lt _ (by decide)) (by decide)) hna.q hn2 h512)) rfl rfl (Nat.le_of_ble_eq_true rfl) ⟨by rw [hR]; exact Nat.le_of_ble_eq_true rfl, by rw [hR]; exact Nat.le_of_ble_eq_true rfl⟩ ⟨by rw [hR]; dsimp only; omega, by rw [hR]; dsimp only; omega⟩ dL_law_209 (fun v209 C9 L9 h9 => ?_)
  obtain ⟨rfl, rfl, rfl⟩ := h9
  refine k_if_eq (tgt := 253) X dL_law_212 (by decide) (fun c212 => absurd c212 (by decide)) (fun c212 => ?_)
  refine k_iload X dL_law_215 rfl ?_
  refine k_iconst (v := (nI 3)) X dL_law_217 (by decide) ?_
  refine k_iremN X (by omega) (by omega) (by omega) dL_law_218 ?_
  refine k_if_gt (tgt := 231) X dL_law_219 (by decide) (fun c219 => ?_) (fun c219 => ?_)
  ·
    exact la_231 Kc hX hY hna hn2 KO hT hbb hk hx (by omega) (by omega) (fun c s h1 h2 => kk c s (by omega) (by omega))
  ·
    refine k_aload_n X dL_law_222 rfl rfl ?_
    refine k_aload_n X dL_law_223 rfl rfl ?_
    refine k_aload_n X dL_law_224 rfl rfl ?_
    refine k_callS (rest := []) X ks_L_alike kb_470 (l_alike X.tr hX hY hO V hna hn2 h2b) rfl rfl (Nat.le_of_ble_eq_true rfl) ⟨by rw [hR]; exact Nat.le_of_ble_eq_true rfl, by rw [hR]; exact Nat.le_of_ble_eq_true rfl⟩ ⟨by rw [hR]; dsimp only; omega, by rw [hR]; dsimp only; omega⟩ dL_law_225 (fun v225 C9 L9 h9 => ?_)
    obtain ⟨rfl, rfl, rfl⟩ := h9
    refine k_if_eq (tgt := 253) X dL_law_228 (by decide) (fun c228 => absurd c228 (by decide)) (fun c228 => ?_)
    exact la_231 Kc hX hY hna hn2 KO hT hbb hk hx (by omega) (by omega) (fun c s h1 h2 => kk c s (by omega) (by omega))

set_option maxHeartbeats 4000000 in
set_option maxRecDepth 100000 in
theorem la_194 {Γ : kG} {E : kE} {A : Nat → Prop} {b n : Nat} {xs : Nat → Int32} (Kc : kLc Γ E A b n xs) {C : kC} {L : kL} {S : kI4} {N N0 : kN3} {f : Nat → Int32} {T bb : Nat} (hX : isX E C L S N) (hY : isX E (kq C) (kq L) S N) (hna : kNa E C f) (hn0 : ∀ d, d < 4 → f d = nI (N0 2 d 0)) (KO : kOk S N T bb) (hT : T ≤ 10000) (hbb : bb ≤ 50) {th k x cells slots : Nat} {r : Int32} (eA : kA3 N = kA3 N0 + kInc x r) (e2 : ∀ e, N 2 e 0 = N0 2 e 0 + (if e = aD x then kInm x r else 0)) (hk : k < 50) (hx : x < 2 ^ 31) (hc : cells + 7100 ≤ 412150) (hs : slots + 52100 ≤ 5651100) (kk : ∀ (C' : kC) (f' : Nat → Int32) (c s : Nat), isX E C' L S N → isX E (kq C') (kq L) S N → kNa E C' f' → (∀ d, d < 4 → f' d = nI (N 2 d 0)) → c ≤ cells + 7100 → s ≤ slots + 52100 → kW Γ E A C' L c s 42 [(0, .ref b), (1, .ref (L (1, 0, 0))), (2, .ref (L (101, 0, 0))), (3, .ref (L (200, 0, 0))), (4, .int (nI (kA3 N))), (5, .int (nI th)), (6, .int (nI 1)), (7, .int (nI (k + 1)))] []) : kW Γ E A C L cells slots 194 [(0, .ref b), (1, .ref (L (1, 0, 0))), (2, .ref (L (101, 0, 0))), (3, .ref (L (200, 0, 0))), (4, .int (nI (kA3 N))), (5, .int (nI th)), (6, .int (nI 1)), (7, .int (nI k)), (8, .int (nI x)), (9, .int r)] [.int (nI (kInm x r)), .int (nI (N0 2 (aD x) 0)), .int (nI (aD x)), .ref (L (200, 0, 0))] := by
  have Kc2 := Kc
  obtain ⟨X, hN, hR, hsc, hn, rt⟩ := Kc2
  refine k_iaddN X dL_law_194 ?_
  refine k_iast X hna rfl (pk_in (aD x) 4 (aD_lt x)) dL_law_195 ?_
  have zk : ∀ t : kT, t.1 ≤ 199 → kup C (200, 0, 0) (some (.inl (E.2.1 0, 4, .inl (upd f (nI (aD x)).toNatClampNeg (nI ((N0 2 (aD x) 0) + (kInm x r))))))) t = C t := fun t ht => kupL (by omega)
  have fe : ∀ e, e < 4 → upd f (nI (aD x)).toNatClampNeg (nI ((N0 2 (aD x) 0) + (kInm x r))) e = nI (N 2 e 0) := fun e he => by
    rw [nI_clamp (by have := aD_lt x; omega), e2 e]
    by_cases y : e = aD x
    · rw [y, if_pos rfl]
      exact pk_us
    · rw [if_neg y, pk_un y]
      exact hn0 e he
  have hX' := hX.low (L' := L) (fun t ht => ⟨zk t (by omega), rfl⟩)
  have hY' := hY.low (C' := kq (kup C (200, 0, 0) (some (.inl (E.2.1 0, 4, .inl (upd f (nI (aD x)).toNatClampNeg (nI ((N0 2 (aD x) 0) + (kInm x r))))))))) (L' := kq L) (fun t ht => ⟨zk (kr t.1, t.2) (by show kr t.1 ≤ 199; rw [kr_lo (by omega)]; omega), rfl⟩)
  refine k_lo (lo' := [(0, .ref b), (1, .ref (L (1, 0, 0))), (2, .ref (L (101, 0, 0))), (3, .ref (L (200, 0, 0))), (4, .int (nI (kA3 N))), (5, .int (nI th)), (6, .int (nI 1)), (7, .int (nI k)), (8, .int (nI x))]) ⟨rfl, rfl, rfl, rfl, rfl, rfl, rfl, rfl, rfl, trivial⟩ ?_
  exact la_196 Kc hX' hY' kup_s fe KO hT hbb hk hx hc hs (fun c s h1 h2 => kk _ _ c s hX' hY' kup_s fe h1 h2)

set_option maxHeartbeats 4000000 in
set_option maxRecDepth 100000 in
theorem la_161 {Γ : kG} {E : kE} {A : Nat → Prop} {b n : Nat} {xs : Nat → Int32} (Kc : kLc Γ E A b n xs) {C : kC} {L : kL} {S : kI4} {N N0 : kN3} {f : Nat → Int32} {T bb : Nat} (hX : isX E C L S N) (hY : isX E (kq C) (kq L) S N) (hna : kNa E C f) (hn0 : ∀ d, d < 4 → f d = nI (N0 2 d 0)) (KO : kOk S N T bb) (hT : T ≤ 10000) (hbb : bb ≤ 50) {th k x cells slots : Nat} {r : Int32} (eA : kA3 N = kA3 N0 + kInc x r) (e2 : ∀ e, N 2 e 0 = N0 2 e 0 + (if e = aD x then kInm x r else 0)) (hk : k < 50) (hx : x < 2 ^ 31) (hc : cells + 7100 ≤ 412150) (hs : slots + 52100 ≤ 5651100) (kk : ∀ (C' : kC) (f' : Nat → Int32) (c s : Nat), isX E C' L S N → isX E (kq C') (kq L) S N → kNa E C' f' → (∀ d, d < 4 → f' d = nI (N 2 d 0)) → c ≤ cells + 7100 → s ≤ slots + 52100 → kW Γ E A C' L c s 42 [(0, .ref b), (1, .ref (L (1, 0, 0))), (2, .ref (L (101, 0, 0))), (3, .ref (L (200, 0, 0))), (4, .int (nI (kA3 N))), (5, .int (nI th)), (6, .int (nI 1)), (7, .int (nI (k + 1)))] []) : kW Γ E A C L cells slots 161 [(0, .ref b), (1, .ref (L (1, 0, 0))), (2, .ref (L (101, 0, 0))), (3, .ref (L (200, 0, 0))), (4, .int (nI (kA3 N0))), (5, .int (nI th)), (6, .int (nI 1)), (7, .int (nI k)), (8, .int (nI x)), (9, .int r)] [.int (nI (kInc x r)), .int (nI (kA3 N0))] := by
  have Kc2 := Kc
  obtain ⟨X, hN, hR, hsc, hn, rt⟩ := Kc2
  refine k_iaddN X dL_law_161 ?_
  refine k_rw (y := nI (kA3 N)) (congrArg nI eA.symm) ?_
  refine k_istore X dL_law_162 (by rw [hN]; decide) ?_
  refine k_aload_n X dL_law_164 rfl rfl ?_
  refine k_iload X dL_law_165 rfl ?_
  refine k_bipush (v := (nI 16)) X dL_law_167 (by decide) ?_
  refine k_idivN X (by omega) (by omega) (by omega) dL_law_169 ?_
  refine k_iconst (v := (nI 4)) X dL_law_170 (by decide) ?_
  refine k_iremN X (by omega) (by omega) (by omega) dL_law_171 ?_
  refine k_dup2 X dL_law_172 rfl rfl ?_
  refine k_iald X hna rfl (pk_in (aD x) 4 (aD_lt x)) dL_law_173 ?_
  refine k_rw (y := nI (N0 2 (aD x) 0)) (by rw [nI_clamp (by have := aD_lt x; omega)]; exact hn0 _ (aD_lt x)) ?_
  refine k_iload X dL_law_174 rfl ?_
  refine k_bipush (v := (nI 16)) X dL_law_176 (by decide) ?_
  refine k_iremN X (by omega) (by omega) (by omega) dL_law_178 ?_
  refine k_bipush (v := (nI 12)) X dL_law_179 (by decide) ?_
  refine k_icmp_ne (tgt := 193) X dL_law_181 (by decide) (fun c181 => ?_) (fun c181 => ?_)
  ·
    refine k_iconst (v := (nI 0)) X dL_law_193 (by decide) ?_
    refine k_rw (y := nI (kInm x r)) (congrArg nI ((if_neg (fun y => c181 (congrArg nI y.1))).symm)) ?_
    refine k_lo (lo' := [(0, .ref b), (1, .ref (L (1, 0, 0))), (2, .ref (L (101, 0, 0))), (3, .ref (L (200, 0, 0))), (4, .int (nI (kA3 N))), (5, .int (nI th)), (6, .int (nI 1)), (7, .int (nI k)), (8, .int (nI x)), (9, .int r)]) ⟨rfl, rfl, rfl, rfl, rfl, rfl, rfl, rfl, rfl, rfl, trivial⟩ ?_
    exact la_194 Kc hX hY hna hn0 KO hT hbb eA e2 hk hx hc hs kk
  ·
    refine k_iload X dL_law_184 rfl ?_
    have h12 : x % 16 = 12 := nI_inj c181 (by omega) (by decide)
    refine k_if_lt (tgt := 193) X dL_law_186 (by decide) (fun c186 => ?_) (fun c186 => ?_)
    ·
      refine k_iconst (v := (nI 0)) X dL_law_193 (by decide) ?_
      refine k_rw (y := nI (kInm x r)) (congrArg nI ((if_neg (fun y => y.2 c186)).symm)) ?_
      refine k_lo (lo' := [(0, .ref b), (1, .ref (L (1, 0, 0))), (2, .ref (L (101, 0, 0))), (3, .ref (L (200, 0, 0))), (4, .int (nI (kA3 N))), (5, .int (nI th)), (6, .int (nI 1)), (7, .int (nI k)), (8, .int (nI x)), (9, .int r)]) ⟨rfl, rfl, rfl, rfl, rfl, rfl, rfl, rfl, rfl, rfl, trivial⟩ ?_
      exact la_194 Kc hX hY hna hn0 KO hT hbb eA e2 hk hx hc hs kk
    ·
      refine k_iconst (v := (nI 1)) X dL_law_189 (by decide) ?_
      refine k_goto (tgt := 194) X dL_law_190 (by decide) ?_
      refine k_rw (y := nI (kInm x r)) (congrArg nI ((if_pos ⟨h12, c186⟩).symm)) ?_
      refine k_lo (lo' := [(0, .ref b), (1, .ref (L (1, 0, 0))), (2, .ref (L (101, 0, 0))), (3, .ref (L (200, 0, 0))), (4, .int (nI (kA3 N))), (5, .int (nI th)), (6, .int (nI 1)), (7, .int (nI k)), (8, .int (nI x)), (9, .int r)]) ⟨rfl, rfl, rfl, rfl, rfl, rfl, rfl, rfl, rfl, rfl, trivial⟩ ?_
      exact la_194 Kc hX hY hna hn0 KO hT hbb eA e2 hk hx hc hs kk

set_option maxHeartbeats 4000000 in
set_option maxRecDepth 100000 in
theorem la_129 {Γ : kG} {E : kE} {A : Nat → Prop} {b n : Nat} {xs : Nat → Int32} (Kc : kLc Γ E A b n xs) {C : kC} {L : kL} {S : kI4} {N N0 : kN3} {f : Nat → Int32} {T bb : Nat} (hX : isX E C L S N) (hY : isX E (kq C) (kq L) S N) (hna : kNa E C f) (hn0 : ∀ d, d < 4 → f d = nI (N0 2 d 0)) (KO : kOk S N T bb) (hT : T ≤ 10000) (hbb : bb ≤ 50) {th k x cells slots : Nat} {r : Int32} (eA : kA3 N = kA3 N0 + kInc x r) (e2 : ∀ e, N 2 e 0 = N0 2 e 0 + (if e = aD x then kInm x r else 0)) (hk : k < 50) (hx : x < 2 ^ 31) (hc : cells + 7100 ≤ 412150) (hs : slots + 52100 ≤ 5651100) (kk : ∀ (C' : kC) (f' : Nat → Int32) (c s : Nat), isX E C' L S N → isX E (kq C') (kq L) S N → kNa E C' f' → (∀ d, d < 4 → f' d = nI (N 2 d 0)) → c ≤ cells + 7100 → s ≤ slots + 52100 → kW Γ E A C' L c s 42 [(0, .ref b), (1, .ref (L (1, 0, 0))), (2, .ref (L (101, 0, 0))), (3, .ref (L (200, 0, 0))), (4, .int (nI (kA3 N))), (5, .int (nI th)), (6, .int (nI 1)), (7, .int (nI (k + 1)))] []) : kW Γ E A C L cells slots 129 [(0, .ref b), (1, .ref (L (1, 0, 0))), (2, .ref (L (101, 0, 0))), (3, .ref (L (200, 0, 0))), (4, .int (nI (kA3 N0))), (5, .int (nI th)), (6, .int (nI 1)), (7, .int (nI k)), (8, .int (nI x)), (9, .int r)] [] := by
  have Kc2 := Kc
  obtain ⟨X, hN, hR, hsc, hn, rt⟩ := Kc2
  refine k_iload X dL_law_129 rfl ?_
  refine k_iload X dL_law_131 rfl ?_
  refine k_bipush (v := (nI 16)) X dL_law_133 (by decide) ?_
  refine k_iremN X (by omega) (by omega) (by omega) dL_law_135 ?_
  refine k_bipush (v := (nI 8)) X dL_law_136 (by decide) ?_
  refine k_icmp_lt (tgt := 160) X dL_law_138 (by decide) (fun c138 => ?_) (fun c138 => ?_)
  ·
    have q1 : x % 16 < 8 := by
      rcases Nat.lt_or_ge (x % 16) 8 with y | y
      · exact y
      · exact absurd c138 (nI_nlt y (by omega))
    refine k_iconst (v := (nI 0)) X dL_law_160 (by decide) ?_
    refine k_rw (y := nI (kInc x r)) (congrArg nI ((if_neg (fun y => absurd y.1 (by omega))).symm)) ?_
    exact la_161 Kc hX hY hna hn0 KO hT hbb eA e2 hk hx hc hs kk
  ·
    have q1 : 8 ≤ x % 16 := by
      rcases Nat.lt_or_ge (x % 16) 8 with y | y
      · exact absurd (nI_lt y (by decide)) c138
      · exact y
    refine k_iload X dL_law_141 rfl ?_
    refine k_bipush (v := (nI 16)) X dL_law_143 (by decide) ?_
    refine k_iremN X (by omega) (by omega) (by omega) dL_law_145 ?_
    refine k_bipush (v := (nI 12)) X dL_law_146 (by decide) ?_
    refine k_icmp_gt (tgt := 160) X dL_law_148 (by decide) (fun c148 => ?_) (fun c148 => ?_)
    ·
      have q2 : 12 < x % 16 := by
        rcases Nat.lt_or_ge 12 (x % 16) with y | y
        · exact y
        · exact absurd c148 (nI_nlt y (by decide))
      refine k_iconst (v := (nI 0)) X dL_law_160 (by decide) ?_
      refine k_rw (y := nI (kInc x r)) (congrArg nI ((if_neg (fun y => absurd y.2.1 (by omega))).symm)) ?_
      exact la_161 Kc hX hY hna hn0 KO hT hbb eA e2 hk hx hc hs kk
    ·
      have q2 : x % 16 ≤ 12 := by
        rcases Nat.lt_or_ge 12 (x % 16) with y | y
        · exact absurd (nI_lt y (by omega)) c148
        · exact y
      refine k_iload X dL_law_151 rfl ?_
      refine k_if_lt (tgt := 160) X dL_law_153 (by decide) (fun c153 => ?_) (fun c153 => ?_)
      ·
        refine k_iconst (v := (nI 0)) X dL_law_160 (by decide) ?_
        refine k_rw (y := nI (kInc x r)) (congrArg nI ((if_neg (fun y => y.2.2 c153)).symm)) ?_
        exact la_161 Kc hX hY hna hn0 KO hT hbb eA e2 hk hx hc hs kk
      ·
        refine k_iconst (v := (nI 1)) X dL_law_156 (by decide) ?_
        refine k_goto (tgt := 161) X dL_law_157 (by decide) ?_
        refine k_rw (y := nI (kInc x r)) (congrArg nI ((if_pos ⟨q1, q2, c153⟩).symm)) ?_
        exact la_161 Kc hX hY hna hn0 KO hT hbb eA e2 hk hx hc hs kk

set_option maxHeartbeats 4000000 in
set_option maxRecDepth 100000 in
theorem la_85 {Γ : kG} {E : kE} {A : Nat → Prop} {b n : Nat} {xs : Nat → Int32} (Kc : kLc Γ E A b n xs) {C : kC} {L : kL} {S : kI4} {N : kN3} {f : Nat → Int32} {k : Nat} (hX : isX E C L S N) (hY : isX E (kq C) (kq L) S N) (hna : kNa E C f) (hn2 : ∀ d, d < 4 → f d = nI (N 2 d 0)) (KO : kOk S N (60 * k) k) {th x cells slots : Nat} (hk : k < 50) (hx : x < 2 ^ 31) (hc : cells + 7760 + 18 * k ≤ 412150) (hs : slots + 67500 + 1836 * k ≤ 5651100) (kk : ∀ (C' : kC) (L' : kL) (S' : kI4) (N' : kN3) (f' : Nat → Int32) (c s : Nat), kLw E C' L' S' N' f' (60 * k + 60) (k + 1) → c ≤ cells + 7760 + 18 * k → s ≤ slots + 67500 + 1836 * k → kW Γ E A C' L' c s 42 [(0, .ref b), (1, .ref (L' (1, 0, 0))), (2, .ref (L' (101, 0, 0))), (3, .ref (L' (200, 0, 0))), (4, .int (nI (kA3 N'))), (5, .int (nI th)), (6, .int (nI 1)), (7, .int (nI (k + 1)))] []) : kW Γ E A C L cells slots 85 [(0, .ref b), (1, .ref (L (1, 0, 0))), (2, .ref (L (101, 0, 0))), (3, .ref (L (200, 0, 0))), (4, .int (nI (kA3 N))), (5, .int (nI th)), (6, .int (nI 1)), (7, .int (nI k)), (8, .int (nI x))] [] := by
  have Kc2 := Kc
  obtain ⟨X, hN, hR, hsc, hn, rt⟩ := Kc2
  have hT : 60 * k + 60 ≤ 10000 := by omega
  have KO2 := KO
  obtain ⟨V, hO, hdn, h3⟩ := KO2
  have h512 : ∀ d, d < 4 → N 3 d 0 < 512 := fun d hd => by have := h3 d hd; omega
  refine k_aload_n X dL_law_85 rfl rfl ?_
  refine k_aload_n X dL_law_86 rfl rfl ?_
  refine k_iload X dL_law_87 rfl ?_
  refine k_iconst (v := (nI 0)) X dL_law_89 (by decide) ?_
  refine k_callS (rest := []) X ks_L_act kb_56 (l_act X.tr hX hO V hna hn2 h3 (by omega) hx (sg := 0) (by decide)) rfl rfl (Nat.le_of_ble_eq_true rfl) ⟨by rw [hR]; exact Nat.le_of_ble_eq_true rfl, by rw [hR]; exact Nat.le_of_ble_eq_true rfl⟩ ⟨by rw [hR]; dsimp only; omega, by rw [hR]; dsimp only; omega⟩ dL_law_90 (fun v90 C1 L1 h9 => ?_)
  obtain ⟨r, S1, N1, rfl, h1, hX1, hF1, hL1⟩ := h9
  have hY1 := hY.keepB hF1
  have hna1 := hna.fr hF1
  refine k_lo (lo' := [(0, .ref b), (1, .ref (L1 (1, 0, 0))), (2, .ref (L1 (101, 0, 0))), (3, .ref (L1 (200, 0, 0))), (4, .int (nI (kA3 N))), (5, .int (nI th)), (6, .int (nI 1)), (7, .int (nI k)), (8, .int (nI x))]) ⟨rfl, congrArg (fun q => some (Value.ref q)) hL1.symm, congrArg (fun q => some (Value.ref q)) hF1.l200.2.symm, congrArg (fun q => some (Value.ref q)) hF1.l200.1.symm, rfl, rfl, rfl, rfl, rfl, trivial⟩ ?_
  refine k_istore X dL_law_93 (by rw [hN]; decide) ?_
  refine k_aload_n X dL_law_95 rfl rfl ?_
  refine k_aload_n X dL_law_96 rfl rfl ?_
  refine k_iload X dL_law_97 rfl ?_
  refine k_sipush (v := (nI 9973)) X dL_law_99 (by decide) ?_
  refine k_iremN X (by omega) (by omega) (by omega) dL_law_102 ?_
  refine k_callS (rest := []) X ks_L_refuses kb_377 (kM.q0 (l_refuses X.tr hY1 hO V (x := x % 9973) (Nat.mod_lt _ (by decide)) hna1.q hn2 h512)) rfl rfl (Nat.le_of_ble_eq_true rfl) ⟨by rw [hR]; exact Nat.le_of_ble_eq_true rfl, by rw [hR]; exact Nat.le_of_ble_eq_true rfl⟩ ⟨by rw [hR]; dsimp only; omega, by rw [hR]; dsimp only; omega⟩ dL_law_103 (fun v103 C9 L9 h9 => ?_)
  obtain ⟨rfl, rfl, rfl⟩ := h9
  refine k_if_eq (tgt := 126) X dL_law_106 (by decide) (fun c106 => absurd c106 (by decide)) (fun c106 => ?_)
  refine k_aload_n X dL_law_109 rfl rfl ?_
  refine k_aload_n X dL_law_110 rfl rfl ?_
  refine k_iload X dL_law_111 rfl ?_
  refine k_iconst (v := (nI 1)) X dL_law_113 (by decide) ?_
  refine k_callS (rest := []) X ks_L_act kb_56 ((l_act X.tr hY1 hO V hna1.q hn2 h3 (by omega) hx (sg := 1) (by decide)).q) rfl rfl (Nat.le_of_ble_eq_true rfl) ⟨by rw [hR]; exact Nat.le_of_ble_eq_true rfl, by rw [hR]; exact Nat.le_of_ble_eq_true rfl⟩ ⟨by rw [hR]; dsimp only; omega, by rw [hR]; dsimp only; omega⟩ dL_law_114 (fun v114 C2 L2 h9 => ?_)
  obtain ⟨r2, S2, N2, rfl, g1, g2, g3, g4⟩ := h9
  obtain ⟨u1, u2, u3⟩ := kAct8.un hO h1 g1
  subst u1
  subst u2
  subst u3
  have hX2 := hX1.keepA g3
  have hna2 := (hna1.q.fr g3).q'
  have hl2 := g3.q200
  have hl101 : L2 (101, 0, 0) = L1 (101, 0, 0) := g4
  refine k_lo (lo' := [(0, .ref b), (1, .ref (L2 (1, 0, 0))), (2, .ref (L2 (101, 0, 0))), (3, .ref (L2 (200, 0, 0))), (4, .int (nI (kA3 N))), (5, .int (nI th)), (6, .int (nI 1)), (7, .int (nI k)), (8, .int (nI x)), (9, .int r)]) ⟨rfl, congrArg (fun q => some (Value.ref q)) hl2.2.symm, congrArg (fun q => some (Value.ref q)) hl101.symm, congrArg (fun q => some (Value.ref q)) hl2.1.symm, rfl, rfl, rfl, rfl, rfl, rfl, trivial⟩ ?_
  refine k_iload X dL_law_117 rfl ?_
  refine k_icmp_ne (tgt := 126) X dL_law_119 (by decide) (fun c119 => absurd c119 (fun z => z rfl)) (fun c119 => ?_)
  refine k_iconst (v := (nI 1)) X dL_law_122 (by decide) ?_
  refine k_goto (tgt := 127) X dL_law_123 (by decide) ?_
  refine k_istore X dL_law_127 (by rw [hN]; decide) ?_
  refine k_lo (lo' := [(0, .ref b), (1, .ref (L2 (1, 0, 0))), (2, .ref (L2 (101, 0, 0))), (3, .ref (L2 (200, 0, 0))), (4, .int (nI (kA3 N))), (5, .int (nI th)), (6, .int (nI 1)), (7, .int (nI k)), (8, .int (nI x)), (9, .int r)]) ⟨rfl, rfl, rfl, rfl, rfl, rfl, rfl, rfl, rfl, rfl, trivial⟩ ?_
  obtain ⟨K9, e1, e2⟩ := kAct8.ok KO (by omega) h1
  exact la_129 Kc hX2 g2 hna2 hn2 K9 hT (by omega) e1 e2 hk hx (by omega) (by omega) (fun C' f' c s w1 w2 w3 w4 h1 h2 => kk C' L2 _ _ f' c s ⟨w1, w2, w3, w4, K9⟩ (by omega) (by omega))

set_option maxHeartbeats 4000000 in
set_option maxRecDepth 100000 in
theorem la_42 {Γ : kG} {E : kE} {A : Nat → Prop} {b n : Nat} {xs : Nat → Int32} (Kc : kLc Γ E A b n xs) {th : Nat} (hth : th ≤ 50) : ∀ (m k : Nat) (C : kC) (L : kL) (S : kI4) (N : kN3) (f : Nat → Int32) (cells slots : Nat), k + m = th → kLw E C L S N f (60 * k) k → cells ≤ kBc k → slots ≤ kBs k → kW Γ E A C L cells slots 42 [(0, .ref b), (1, .ref (L (1, 0, 0))), (2, .ref (L (101, 0, 0))), (3, .ref (L (200, 0, 0))), (4, .int (nI (kA3 N))), (5, .int (nI th)), (6, .int (nI 1)), (7, .int (nI k))] [] := by
  have Kc2 := Kc
  obtain ⟨X, hN, hR, hsc, hn, rt⟩ := Kc2
  intro m
  induction m with
  | zero =>
    intro k C L S N f cells slots hk W hc hs
    obtain ⟨hX, hY, hna, hn2, KO⟩ := W
    have hk50 : k ≤ 50 := by omega
    have hbc : kBc k ≤ 412150 := kBc_le hk50
    have hbs : kBs k ≤ 5651100 := kBs_le hk50
    refine k_iload X dL_law_42 rfl ?_
    refine k_iload X dL_law_44 rfl ?_
    refine k_icmp_ge (tgt := 262) X dL_law_46 (by decide) (fun c46 => ?_) (fun c46 => absurd (nI_le (by omega) (by omega)) c46)
    refine k_lo (lo' := [(0, .ref b), (1, .ref (L (1, 0, 0))), (2, .ref (L (101, 0, 0))), (3, .ref (L (200, 0, 0))), (4, .int (nI (kA3 N))), (5, .int (nI th)), (6, .int (nI 1)), (7, .int (nI k))]) ⟨rfl, rfl, rfl, rfl, rfl, rfl, rfl, rfl, trivial⟩ ?_
    exact la_262 Kc hX hY hna hn2 KO (by omega) (by omega) (by omega) (by omega)
  | succ m ih =>
    intro k C L S N f cells slots hk W hc hs
    obtain ⟨hX, hY, hna, hn2, KO⟩ := W
    have hk50 : k ≤ 50 := by omega
    have hbc : kBc k ≤ 412150 := kBc_le hk50
    have hbs : kBs k ≤ 5651100 := kBs_le hk50
    have hb1c : kBc k + 7800 + 18 * k ≤ 412150 := kBc_le (k := k + 1) (by omega)
    have hb1s : kBs k + 68000 + 1836 * k ≤ 5651100 := kBs_le (k := k + 1) (by omega)
    have hzz : ∀ z, z < 2 ^ 31 → z / 16 * 16 < 2 ^ 31 := fun z hz => Nat.lt_of_le_of_lt (Nat.div_mul_le_self z 16) hz
    refine k_iload X dL_law_42 rfl ?_
    refine k_iload X dL_law_44 rfl ?_
    refine k_icmp_ge (tgt := 262) X dL_law_46 (by decide) (fun c46 => absurd c46 (nI_ge (by omega) (by omega))) (fun c46 => ?_)
    refine k_iload X dL_law_49 rfl ?_
    refine k_if_eq (tgt := 262) X dL_law_51 (by decide) (fun c51 => absurd c51 (by decide)) (fun c51 => ?_)
    refine k_aload_n X dL_law_54 rfl rfl ?_
    refine k_iconst (v := (nI 1)) X dL_law_55 (by decide) ?_
    refine k_iload X dL_law_56 rfl ?_
    refine k_iaddN X dL_law_58 ?_
    refine k_callD X hsc hn (k := 1 + k) (by omega) (Nat.le_of_ble_eq_true rfl) ⟨by rw [hR]; exact Nat.le_of_ble_eq_true rfl, by rw [hR]; exact Nat.le_of_ble_eq_true rfl⟩ ⟨by rw [hR]; dsimp only; omega, by rw [hR]; dsimp only; omega⟩ dL_law_59 (fun z hz => ?_)
    refine k_istore X dL_law_62 (by rw [hN]; decide) ?_
    refine k_iload X dL_law_64 rfl ?_
    refine k_iconst (v := (nI 4)) X dL_law_66 (by decide) ?_
    refine k_icmp_ge (tgt := 81) X dL_law_67 (by decide) (fun c67 => ?_) (fun c67 => ?_)
    ·
      refine k_iload X dL_law_81 rfl ?_
      refine k_istore X dL_law_83 (by rw [hN]; decide) ?_
      refine k_lo (lo' := [(0, .ref b), (1, .ref (L (1, 0, 0))), (2, .ref (L (101, 0, 0))), (3, .ref (L (200, 0, 0))), (4, .int (nI (kA3 N))), (5, .int (nI th)), (6, .int (nI 1)), (7, .int (nI k)), (8, .int (nI z))]) ⟨rfl, rfl, rfl, rfl, rfl, rfl, rfl, rfl, rfl, trivial⟩ ?_
      exact la_85 Kc hX hY hna hn2 KO (by omega) (by omega) (by omega) (by omega) (fun C' L' S' N' f' c s W' h1 h2 => ih (k + 1) C' L' S' N' f' c s (by omega) W' (Nat.le_trans h1 (by show _ ≤ kBc k + 7800 + 18 * k; omega)) (Nat.le_trans h2 (by show _ ≤ kBs k + 68000 + 1836 * k; omega)))
    ·
      refine k_iload X dL_law_70 rfl ?_
      refine k_bipush (v := (nI 16)) X dL_law_72 (by decide) ?_
      refine k_idivN X (by omega) (by omega) (by omega) dL_law_74 ?_
      refine k_bipush (v := (nI 16)) X dL_law_75 (by decide) ?_
      refine k_imulN X dL_law_77 ?_
      refine k_goto (tgt := 83) X dL_law_78 (by decide) ?_
      refine k_istore X dL_law_83 (by rw [hN]; decide) ?_
      refine k_lo (lo' := [(0, .ref b), (1, .ref (L (1, 0, 0))), (2, .ref (L (101, 0, 0))), (3, .ref (L (200, 0, 0))), (4, .int (nI (kA3 N))), (5, .int (nI th)), (6, .int (nI 1)), (7, .int (nI k)), (8, .int (nI ((z / 16) * 16)))]) ⟨rfl, rfl, rfl, rfl, rfl, rfl, rfl, rfl, rfl, trivial⟩ ?_
      exact la_85 Kc hX hY hna hn2 KO (by omega) (by omega) (by omega) (by omega) (fun C' L' S' N' f' c s W' h1 h2 => ih (k + 1) C' L' S' N' f' c s (by omega) W' (Nat.le_trans h1 (by show _ ≤ kBc k + 7800 + 18 * k; omega)) (Nat.le_trans h2 (by show _ ≤ kBs k + 68000 + 1836 * k; omega)))
