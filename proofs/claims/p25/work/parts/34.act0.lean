/-! one thing that is done to a store -/
def aD (x : Nat) : Nat := x / 16 % 4
def aJ (N : kN3) (x : Nat) : Nat := if N 1 0 0 = 0 then 0 else x / 16 / 4 % N 1 0 0
def aO (N : kN3) (x : Nat) : Nat := if N 2 (aD x) 0 = 0 then 0 else x / 16 / 4 % N 2 (aD x) 0
def aF (x : Nat) : Nat := x / 16 / 160 % 2
def aV (x : Nat) : Nat := if aF x = 0 then x / 16 / 320 % 3 else x / 16 / 320 % 4 * 100
def aM (x : Nat) : Nat := 1 + x / 16 / 4 % (if x / 16 % 3 = 0 then 4 else 60)
theorem aD_lt (x : Nat) : aD x < 4 := Nat.mod_lt _ (by decide)
theorem aF_lt (x : Nat) : aF x < 2 := Nat.mod_lt _ (by decide)
theorem aM_le (x : Nat) : 1 ≤ aM x ∧ aM x ≤ 60 := by
  unfold aM
  by_cases h : x / 16 % 3 = 0
  · rw [if_pos h]
    have := Nat.mod_lt (x / 16 / 4) (show 0 < 4 by decide)
    omega
  · rw [if_neg h]
    have := Nat.mod_lt (x / 16 / 4) (show 0 < 60 by decide)
    omega
theorem aV_ok (x : Nat) : (aF x = 0 ∧ aV x ≤ 2) ∨ (aF x = 1 ∧ aV x ≤ 300) := by
  have h1 := aF_lt x
  unfold aV
  by_cases h : aF x = 0
  · rw [if_pos h]
    have := Nat.mod_lt (x / 16 / 320) (show 0 < 3 by decide)
    omega
  · rw [if_neg h]
    have := Nat.mod_lt (x / 16 / 320) (show 0 < 4 by decide)
    omega
theorem aV_kin (x : Nat) : kin (nI (aF x)) (nI 0) (nI 1) ∧ kin (nI (aV x)) (nI 0) (if nI (aF x) = nI 0 then nI 2 else nI 10000) := by
  refine ⟨kin_ok (by have := aF_lt x; omega) (by decide), ?_⟩
  rcases aV_ok x with ⟨h1, h2⟩ | ⟨h1, h2⟩
  · rw [h1, if_pos rfl]
    exact kin_ok h2 (by decide)
  · rw [h1, if_neg (by decide)]
    exact kin_ok (by omega) (by decide)
/-- a change -/
def kChg (S : kI4) (N : kN3) (d : Nat) (job f v r : Int32) (S' : kI4) (N' : kN3) : Prop :=
  (∃ ff fS kk, kHf S N d job (some (ff, d, kk)) ∧ kFh N d ff fS kk ∧ r = nI (N 3 d 0 + 1 - N 4 d 0) ∧ S' = sPut (sAct S d (N 3 d 0) job f v (if f = nI 0 then S fS d kk 2 else S fS d kk 3) (-1)) fS d kk f v ∧ N' = w3 N 3 d 0 (N 3 d 0 + 1)) ∨
  (kHf S N d job none ∧ r = -2000000003 ∧ S' = S ∧ N' = N)
theorem kFh.un {N : kN3} {d ff f1 f2 kk : Nat} (h : kFh N d ff f1 kk) (g : kFh N d ff f2 kk) : f1 = f2 := by
  rcases h with ⟨a, b, _⟩ | ⟨a, b, _⟩ <;> rcases g with ⟨c, e, _⟩ | ⟨c, e, _⟩
  · rw [b, e]
  · omega
  · omega
  · rw [b, e]
theorem kChg.un {S : kI4} {N : kN3} {d : Nat} {job f v r r2 : Int32} {S' S2 : kI4} {N' N2 : kN3} (ho : N 2 d 0 ≤ 512) (h : kChg S N d job f v r S' N') (g : kChg S N d job f v r2 S2 N2) : r = r2 ∧ S' = S2 ∧ N' = N2 := by
  rcases h with ⟨ff, fS, kk, h1, h2, rfl, rfl, rfl⟩ | ⟨h1, rfl, rfl, rfl⟩ <;> rcases g with ⟨gf, gS, gk, g1, g2, rfl, rfl, rfl⟩ | ⟨g1, rfl, rfl, rfl⟩
  · have z := Option.some.inj (h1.un ho g1)
    have z1 : ff = gf := congrArg (fun t : kT => t.1) z
    have z2 : kk = gk := congrArg (fun t : kT => t.2.2) z
    subst z1; subst z2
    have z3 := h2.un g2
    subst z3
    exact ⟨rfl, rfl, rfl⟩
  · exact absurd (h1.un ho g1) (by simp)
  · exact absurd (h1.un ho g1) (by simp)
  · exact ⟨rfl, rfl, rfl⟩
def kAct8 (S : kI4) (N : kN3) (x : Nat) (r : Int32) (S' : kI4) (N' : kN3) : Prop :=
  (x % 16 < 2 ∧ ((N 1 0 0 < 40 ∧ r = nI (N 1 0 0) ∧ S' = sAddJ S (N 1 0 0) (nI (aD x)) (nI (x / 16 / 4 % 10)) ∧ N' = nAddJ N) ∨ (N 1 0 0 = 40 ∧ r = -2000000003 ∧ S' = S ∧ N' = N))) ∨
  (x % 16 = 2 ∧ ((aJ N x < N 1 0 0 ∧ r = S 2 (aJ N x) 0 0 ∧ S' = w4 S 2 (aJ N x) 0 0 (nI (x / 16 / 160 % 4)) ∧ N' = N) ∨ (¬ aJ N x < N 1 0 0 ∧ r = -2000000001 ∧ S' = S ∧ N' = N))) ∨
  ((x % 16 = 3 ∨ x % 16 = 4) ∧ ((aJ N x < N 1 0 0 ∧ r = (if nI (aF x) = nI 0 then sPut S 3 (aJ N x) 0 (nI (aF x)) (nI (aV x)) 3 (aJ N x) 0 2 else sPut S 3 (aJ N x) 0 (nI (aF x)) (nI (aV x)) 3 (aJ N x) 0 3) ∧ S' = sPut S 3 (aJ N x) 0 (nI (aF x)) (nI (aV x)) ∧ N' = N) ∨ (¬ aJ N x < N 1 0 0 ∧ r = -2000000001 ∧ S' = S ∧ N' = N))) ∨
  (x % 16 = 5 ∧ r = S 4 (aD x) 0 0 ∧ S' = w4 S 4 (aD x) 0 0 (nI (x / 16 / 4 % 41)) ∧ N' = N) ∨
  ((x % 16 = 6 ∨ x % 16 = 7) ∧ r = (xFetch (S, N) (aD x)).1 6 (aD x) 0 0 + (xFetch (S, N) (aD x)).1 7 (aD x) 0 0 ∧ S' = (xFetch (S, N) (aD x)).1 ∧ N' = (xFetch (S, N) (aD x)).2) ∨
  ((x % 16 = 8 ∨ x % 16 = 9 ∨ x % 16 = 10) ∧ kChg S N (aD x) (nI (aJ N x)) (nI (aF x)) (nI (aV x)) r S' N') ∨
  (x % 16 = 11 ∧ kChg S N (aD x) (nI (1000 + aO N x)) (nI (aF x)) (nI (aV x)) r S' N') ∨
  (x % 16 = 12 ∧ r = nI (1000 + N 2 (aD x) 0) ∧ S' = sMake S N (aD x) (nI (x / 16 / 4 % 10)) ∧ N' = nMake N (aD x)) ∨
  (12 < x % 16 ∧ ∃ c S1, xSnd S N (aD x) (min (aM x) (N 3 (aD x) 0 - N 4 (aD x) 0)) c S1 N' ∧ r = nI c ∧ S' = s12 S1 (S1 12 0 0 0 + nI c))
theorem kAct8.un {S : kI4} {N : kN3} {x : Nat} {r r2 : Int32} {S' S2 : kI4} {N' N2 : kN3} (hO : okX S N) (h : kAct8 S N x r S' N') (g : kAct8 S N x r2 S2 N2) : r = r2 ∧ S' = S2 ∧ N' = N2 := by
  have ho := (hO.2 (aD x) (aD_lt x)).1
  have hj := hO.1
  rcases h with ⟨h0, h⟩ | ⟨h0, h⟩ | ⟨h0, h⟩ | ⟨h0, rfl, rfl, rfl⟩ | ⟨h0, rfl, rfl, rfl⟩ | ⟨h0, h⟩ | ⟨h0, h⟩ | ⟨h0, rfl, rfl, rfl⟩ | ⟨h0, c, S1, h1, rfl, rfl⟩ <;>
    rcases g with ⟨g0, g⟩ | ⟨g0, g⟩ | ⟨g0, g⟩ | ⟨g0, rfl, rfl, rfl⟩ | ⟨g0, rfl, rfl, rfl⟩ | ⟨g0, g⟩ | ⟨g0, g⟩ | ⟨g0, rfl, rfl, rfl⟩ | ⟨g0, e, T1, g1, rfl, rfl⟩
  all_goals first
    | (exfalso; clear h g; omega)
    | (exfalso; clear h; omega)
    | (exfalso; clear g; omega)
    | (exfalso; omega)
    | exact ⟨rfl, rfl, rfl⟩
    | exact h.un ho g
    | (obtain ⟨rfl, rfl, rfl⟩ := h1.un ho hj g1; exact ⟨rfl, rfl, rfl⟩)
    | (rcases h with ⟨h1, rfl, rfl, rfl⟩ | ⟨h1, rfl, rfl, rfl⟩ <;> rcases g with ⟨g1, rfl, rfl, rfl⟩ | ⟨g1, rfl, rfl, rfl⟩ <;> first | exact ⟨rfl, rfl, rfl⟩ | (exfalso; omega))
/-! what holds afterwards -/
def kInc (x : Nat) (r : Int32) : Nat := if 8 ≤ x % 16 ∧ x % 16 ≤ 12 ∧ ¬ r < 0 then 1 else 0
def kInm (x : Nat) (r : Int32) : Nat := if x % 16 = 12 ∧ ¬ r < 0 then 1 else 0
theorem okX.cg {S S' : kI4} {N : kN3} (h : okX S N) : okX S' N := h
theorem okX.n3 {S S' : kI4} {N : kN3} {d : Nat} (h : okX S N) (hd : d < 4) (hn : N 3 d 0 < 512) : okX S' (w3 N 3 d 0 (N 3 d 0 + 1)) := by
  refine ⟨by rw [w3_n (by omega)]; exact h.1, fun e he => ?_⟩
  have z := h.2 e he
  rw [w3_f (show 2 ≠ 3 by decide), w3_f (show 4 ≠ 3 by decide), w3_f (show 5 ≠ 3 by decide), w3_f (show 6 ≠ 3 by decide)]
  by_cases c : e = d
  · subst c
    rw [w3_s]
    exact ⟨z.1, by omega, by omega, z.2.2.2.1, fun i hi => by have := z.2.2.2.2 i hi; omega⟩
  · rw [w3_n (by omega)]
    exact z
theorem okX.make {S S' : kI4} {N : kN3} {d : Nat} (h : okX S N) (hd : d < 4) (hn2 : N 2 d 0 < 512) (hn : N 3 d 0 < 512) : okX S' (nMake N d) := by
  have h1 : okX S (nMk N d) := by
    refine ⟨by unfold nMk; rw [w3_n (by omega)]; exact h.1, fun e he => ?_⟩
    have z := h.2 e he
    unfold nMk
    rw [w3_f (show 3 ≠ 2 by decide), w3_f (show 4 ≠ 2 by decide), w3_f (show 5 ≠ 2 by decide), w3_f (show 6 ≠ 2 by decide)]
    by_cases c : e = d
    · subst c
      rw [w3_s]
      exact ⟨by omega, z.2⟩
    · rw [w3_n (by omega)]
      exact z
  have e3 : nMk N d 3 d 0 = N 3 d 0 := w3_n (by omega)
  have z := h1.n3 (S' := S') hd (by rw [e3]; exact hn)
  rw [e3] at z
  exact z
theorem kDn.cg {N N' : kN3} (h4 : N' 4 = N 4) (h5 : N' 5 = N 5) : kDn N' = kDn N := by
  unfold kDn
  rw [h4, h5]
theorem kA3.cg {N N' : kN3} (h : N' 3 = N 3) : kA3 N' = kA3 N := by
  unfold kA3
  rw [h]
theorem kA3.up {N N' : kN3} {d : Nat} (hd : d < 4) (h : N' 3 d 0 = N 3 d 0 + 1) (ho : ∀ e, e ≠ d → N' 3 e 0 = N 3 e 0) : kA3 N' = kA3 N + 1 := by
  unfold kA3
  rcases (show d = 0 ∨ d = 1 ∨ d = 2 ∨ d = 3 by omega) with rfl | rfl | rfl | rfl
  · rw [h, ho 1 (by decide), ho 2 (by decide), ho 3 (by decide)]
    omega
  · rw [h, ho 0 (by decide), ho 2 (by decide), ho 3 (by decide)]
    omega
  · rw [h, ho 0 (by decide), ho 1 (by decide), ho 3 (by decide)]
    omega
  · rw [h, ho 0 (by decide), ho 1 (by decide), ho 2 (by decide)]
    omega
theorem kDn.up {N N' : kN3} {d m c : Nat} (hd : d < 4) (h4 : N' 4 d 0 = N 4 d 0 + m) (h5 : N' 5 d 0 + c = N 5 d 0 + m) (hl : N 5 d 0 ≤ N 4 d 0) (hc : c ≤ m) (o4 : ∀ e, e ≠ d → N' 4 e 0 = N 4 e 0) (o5 : ∀ e, e ≠ d → N' 5 e 0 = N 5 e 0) : kDn N' = kDn N + c := by
  unfold kDn
  rcases (show d = 0 ∨ d = 1 ∨ d = 2 ∨ d = 3 by omega) with rfl | rfl | rfl | rfl
  · rw [o4 1 (by decide), o4 2 (by decide), o4 3 (by decide), o5 1 (by decide), o5 2 (by decide), o5 3 (by decide)]
    omega
  · rw [o4 0 (by decide), o4 2 (by decide), o4 3 (by decide), o5 0 (by decide), o5 2 (by decide), o5 3 (by decide)]
    omega
  · rw [o4 0 (by decide), o4 1 (by decide), o4 3 (by decide), o5 0 (by decide), o5 1 (by decide), o5 3 (by decide)]
    omega
  · rw [o4 0 (by decide), o4 1 (by decide), o4 2 (by decide), o5 0 (by decide), o5 1 (by decide), o5 2 (by decide)]
    omega
/-- what the law carries along: the invariant, the bounds, the acts that were done, no list above b -/
def kOk (S : kI4) (N : kN3) (T b : Nat) : Prop := vS S N T ∧ okX S N ∧ S 12 0 0 0 = nI (kDn N) ∧ ∀ d, d < 4 → N 3 d 0 ≤ b
theorem xCps_n {q : kI4 × kN3} {d : Nat} {z : Int32} : ∀ i f, f ≠ 11 → (xCps q d z i).2 f = q.2 f
  | 0, _, _ => rfl
  | i + 1, f, h => by
    show (xCp (xCps q d z i) d z i).2 f = q.2 f
    unfold xCp
    by_cases c : (xCps q d z i).1 6 d 0 0 < (xCps q d z i).1 4 d 0 0 ∧ (xCps q d z i).1 2 i 0 0 = nI d ∧ (xCps q d z i).1 3 i 0 0 = z
    · rw [if_pos c]
      refine Eq.trans ?_ (xCps_n (d := d) (z := z) i f h)
      funext a b
      exact nHold_n (by omega)
    · rw [if_neg c]
      exact xCps_n i f h
theorem xCps_s {q : kI4 × kN3} {d : Nat} {z : Int32} : ∀ i f, f ≠ 5 → f ≠ 6 → f ≠ 8 → (xCps q d z i).1 f = q.1 f
  | 0, _, _, _, _ => rfl
  | i + 1, f, h1, h2, h3 => by
    show (xCp (xCps q d z i) d z i).1 f = q.1 f
    unfold xCp
    by_cases c : (xCps q d z i).1 6 d 0 0 < (xCps q d z i).1 4 d 0 0 ∧ (xCps q d z i).1 2 i 0 0 = nI d ∧ (xCps q d z i).1 3 i 0 0 = z
    · rw [if_pos c]
      refine Eq.trans ?_ (xCps_s (d := d) (z := z) i f h1 h2 h3)
      funext a b e
      exact sHold_n (by omega)
    · rw [if_neg c]
      exact xCps_s i f h1 h2 h3
theorem sDrop_f {S : kI4} {d f : Nat} (h5 : f ≠ 5) (h6 : f ≠ 6) : sDrop S d f = S f := by
  funext a b c
  exact (w4_n (by omega)).trans (sDr_n (by omega))
theorem xFetch_n {S : kI4} {N : kN3} {d f : Nat} (h : f ≠ 11) : (xFetch (S, N) d).2 f = N f := by
  unfold xFetch
  rw [xCps_n _ f h, xCps_n _ f h, xCps_n _ f h]
theorem xFetch_s {S : kI4} {N : kN3} {d f : Nat} (h5 : f ≠ 5) (h6 : f ≠ 6) (h8 : f ≠ 8) : (xFetch (S, N) d).1 f = S f := by
  unfold xFetch
  rw [xCps_s _ f h5 h6 h8, xCps_s _ f h5 h6 h8, xCps_s _ f h5 h6 h8]
  exact sDrop_f h5 h6
theorem okX.fetch {S : kI4} {N : kN3} {d : Nat} (h : okX S N) : okX (xFetch (S, N) d).1 (xFetch (S, N) d).2 := by
  have h0 : okX ((sDrop S d, N) : kI4 × kN3).1 ((sDrop S d, N) : kI4 × kN3).2 := h
  exact (xCps_ok (xCps_ok (xCps_ok h0 _).1 _).1 _).1
theorem kChg.ok {S : kI4} {N : kN3} {T b d x : Nat} {job r : Int32} {S' : kI4} {N' : kN3} (K : kOk S N T b) (hd : d < 4) (hb : b < 512) (h : kChg S N d job (nI (aF x)) (nI (aV x)) r S' N') : kOk S' N' T (b + 1) ∧ N' 2 = N 2 ∧ ((¬ r < 0 ∧ kA3 N' = kA3 N + 1) ∨ (r < 0 ∧ N' = N)) := by
  obtain ⟨V, hO, hdn, h3⟩ := K
  have hj := V.1
  have ho := (hO.2 d hd).1
  have hd3 := h3 d hd
  rcases h with ⟨ff, fS, kk, h1, h2, rfl, rfl, rfl⟩ | ⟨h1, rfl, rfl, rfl⟩
  · have hv : ∃ a, a ≤ 10000 ∧ nI (aV x) = nI a := ⟨aV x, by rcases aV_ok x with z | z <;> omega, rfl⟩
    have hf : nI (aF x) = nI 0 ∨ nI (aF x) = nI 1 := by
      rcases aV_ok x with z | z
      · exact Or.inl (congrArg nI z.1)
      · exact Or.inr (congrArg nI z.1)
    have hfS : fS = 8 ∨ fS = 10 := by
      rcases h2.f with z | z
      · exact Or.inl z.2
      · exact Or.inr z.2
    have hjb : (∃ i, i < N 1 0 0 ∧ job = nI i) ∨ ∃ k, k < N 2 d 0 ∧ job = nI (1000 + k) := by
      rcases h1 with ⟨k, a1, a2, _⟩ | ⟨_, q, a2, ⟨n, b1, b2, b3, _⟩ | ⟨_, b⟩⟩
      · exact Or.inr ⟨k, a1, a2⟩
      · rcases a2 with ⟨k, c1, c2, _⟩ | ⟨_, c2⟩
        · exact Or.inr ⟨k, c1, c2⟩
        · rcases (V.2.2 d hd).2.1.1 n b1 with z | z
          · exact absurd z b3
          · exact Or.inl ⟨n, z.2.1, c2.symm.trans b2⟩
      · exact absurd b (by simp)
    have e12 : sPut (sAct S d (N 3 d 0) job (nI (aF x)) (nI (aV x)) (if nI (aF x) = nI 0 then S fS d kk 2 else S fS d kk 3) (-1)) fS d kk (nI (aF x)) (nI (aV x)) 12 0 0 0 = S 12 0 0 0 := by
      rw [sPut_n (show ¬ (12 = fS ∧ 0 = d ∧ 0 = kk) from fun y => by rcases hfS with z | z <;> omega), sAct_n (by omega)]
    refine ⟨⟨V.change hd hfS hv hf hjb, hO.n3 hd (by omega), ?_, fun e he => ?_⟩, w3_f (by decide), Or.inl ⟨nI_pos (by omega), kA3.up hd w3_s (fun e he => w3_n (by omega))⟩⟩
    · rw [e12, hdn]
      exact congrArg nI (kDn.cg (w3_f (by decide)) (w3_f (by decide))).symm
    · have := h3 e he
      by_cases c : e = d
      · subst c
        rw [w3_s]
        omega
      · rw [w3_n (by omega)]
        omega
  · exact ⟨⟨V, hO, hdn, fun e he => by have := h3 e he; omega⟩, rfl, Or.inr ⟨by decide, rfl⟩⟩
theorem kAct8.ok {S : kI4} {N : kN3} {T b x : Nat} {r : Int32} {S' : kI4} {N' : kN3} (K : kOk S N T b) (hb : b < 500) (h : kAct8 S N x r S' N') : kOk S' N' (T + 60) (b + 1) ∧ kA3 N' = kA3 N + kInc x r ∧ ∀ e, N' 2 e 0 = N 2 e 0 + (if e = aD x then kInm x r else 0) := by
  have hd := aD_lt x
  have K0 := K
  obtain ⟨V, hO, hdn, h3⟩ := K
  have hj := V.1
  have ho := (hO.2 (aD x) hd).1
  have hM := aM_le x
  have up3 : ∀ d, d < 4 → N 3 d 0 ≤ b + 1 := fun d hd => by have := h3 d hd; omega
  have i0 : ∀ q, ¬ (8 ≤ x % 16 ∧ x % 16 ≤ 12) → kInc x q = 0 := fun q z => if_neg (by omega)
  have m0 : ∀ q, ¬ x % 16 = 12 → kInm x q = 0 := fun q z => if_neg (by omega)
  have e0 : ∀ e q, kInm x q = 0 → (if e = aD x then kInm x q else 0) = 0 := fun e q z => by
    by_cases c : e = aD x
    · rw [if_pos c, z]
    · rw [if_neg c]
  have same : ∀ S2 : kI4, ¬ (8 ≤ x % 16 ∧ x % 16 ≤ 12) → vS S2 N (T + 60) → S2 12 0 0 0 = S 12 0 0 0 → kOk S2 N (T + 60) (b + 1) ∧ kA3 N = kA3 N + kInc x r ∧ ∀ e, N 2 e 0 = N 2 e 0 + (if e = aD x then kInm x r else 0) := fun S2 z1 z2 z3 => by
    rw [i0 r z1]
    refine ⟨⟨z2, hO, by rw [z3, hdn], up3⟩, rfl, fun e => ?_⟩
    rw [e0 e r (m0 r (by omega))]
    rfl
  have h10 : ∃ a, a ≤ 10000 ∧ nI (x / 16 / 4 % 10) = nI a := ⟨_, by have := Nat.mod_lt (x / 16 / 4) (show 0 < 10 by decide); omega, rfl⟩
  rcases h with ⟨h0, ⟨h1, rfl, rfl, rfl⟩ | ⟨h1, rfl, rfl, rfl⟩⟩ | ⟨h0, ⟨h1, rfl, rfl, rfl⟩ | ⟨h1, rfl, rfl, rfl⟩⟩ | ⟨h0, ⟨h1, rfl, rfl, rfl⟩ | ⟨h1, rfl, rfl, rfl⟩⟩ | ⟨h0, rfl, rfl, rfl⟩ | ⟨h0, rfl, rfl, rfl⟩ | ⟨h0, h⟩ | ⟨h0, h⟩ | ⟨h0, rfl, rfl, rfl⟩ | ⟨h0, c, S1, h1, rfl, rfl⟩
  · rw [i0 _ (by omega)]
    refine ⟨⟨(V.add h1).up (by omega), okX.addJ hO h1, ?_, fun d hd => by rw [nAddJ_f (by decide)]; exact up3 d hd⟩, kA3.cg (nAddJ_f (by decide)), fun e => ?_⟩
    · rw [sAddJ_n (by omega), hdn]
      exact congrArg nI (kDn.cg (nAddJ_f (by decide)) (nAddJ_f (by decide))).symm
    · rw [e0 e _ (m0 _ (by omega)), nAddJ_f (by decide)]
      rfl
  · exact same _ (by omega) (V.up (by omega)) rfl
  · exact same _ (by omega) (V.give.up (by omega)) (w4_n (by omega))
  · exact same _ (by omega) (V.up (by omega)) rfl
  · refine same _ (by omega) ((V.set h1 ?_).up (by omega)) (sPut_n (by omega))
    rcases aV_ok x with ⟨z1, z2⟩ | ⟨z1, z2⟩
    · exact Or.inl ⟨congrArg nI z1, _, z2, rfl⟩
    · exact Or.inr ⟨by rw [z1]; decide, _, by omega, rfl⟩
  · exact same _ (by omega) (V.up (by omega)) rfl
  · exact same _ (by omega) ((V.room rfl (by have := Nat.mod_lt (x / 16 / 4) (show 0 < 41 by decide); omega)).up (by omega)) (w4_n (by omega))
  · rw [i0 _ (by omega)]
    refine ⟨⟨(V.fetch hd).up (by omega), hO.fetch, ?_, fun d hd => by rw [xFetch_n (by decide)]; exact up3 d hd⟩, kA3.cg (xFetch_n (by decide)), fun e => ?_⟩
    · rw [xFetch_s (by decide) (by decide) (by decide), hdn]
      exact congrArg nI (kDn.cg (xFetch_n (by decide)) (xFetch_n (by decide))).symm
    · rw [e0 e _ (m0 _ (by omega)), xFetch_n (by decide)]
      rfl
  · obtain ⟨z1, z2, z3⟩ := h.ok K0 hd (by omega)
    refine ⟨⟨z1.1.up (by omega), z1.2⟩, ?_, fun e => ?_⟩
    · rcases z3 with ⟨y1, y2⟩ | ⟨y1, y2⟩
      · rw [y2, show kInc x r = 1 from if_pos ⟨by omega, by omega, y1⟩]
      · rw [y2, show kInc x r = 0 from if_neg (fun q => q.2.2 y1)]
        rfl
    · rw [e0 e _ (m0 _ (by omega)), z2]
      rfl
  · obtain ⟨z1, z2, z3⟩ := h.ok K0 hd (by omega)
    refine ⟨⟨z1.1.up (by omega), z1.2⟩, ?_, fun e => ?_⟩
    · rcases z3 with ⟨y1, y2⟩ | ⟨y1, y2⟩
      · rw [y2, show kInc x r = 1 from if_pos ⟨by omega, by omega, y1⟩]
      · rw [y2, show kInc x r = 0 from if_neg (fun q => q.2.2 y1)]
        rfl
    · rw [e0 e _ (m0 _ (by omega)), z2]
      rfl
  · have hn := h3 _ hd
    have hm := V.m2 hd
    have p : ¬ nI (1000 + N 2 (aD x) 0) < 0 := nI_pos (by omega)
    have n2 : nMake N (aD x) 2 (aD x) 0 = N 2 (aD x) 0 + 1 := (w3_n (by omega)).trans w3_s
    have nf : ∀ f, f ≠ 2 → f ≠ 3 → nMake N (aD x) f = N f := fun f z1 z2 => by
      unfold nMake nMk
      rw [w3_f z2, w3_f z1]
    refine ⟨⟨(V.make hd (by omega) h10).up (by omega), hO.make hd (by omega) (by omega), ?_, fun d hd => ?_⟩, ?_, fun e => ?_⟩
    · rw [show sMake S N (aD x) (nI (x / 16 / 4 % 10)) 12 0 0 0 = S 12 0 0 0 from by
        unfold sMake sMk1
        rw [sAct_n (by omega), w4_n (by omega), sMk_n (by omega)], hdn]
      exact congrArg nI (kDn.cg (nf 4 (by decide) (by decide)) (nf 5 (by decide) (by decide))).symm
    · have := h3 d hd
      by_cases c : d = aD x
      · rw [c, show nMake N (aD x) 3 (aD x) 0 = N 3 (aD x) 0 + 1 from w3_s]
        omega
      · rw [show nMake N (aD x) 3 d 0 = N 3 d 0 from (w3_n (by omega)).trans (w3_n (by omega))]
        omega
    · rw [show kInc x (nI (1000 + N 2 (aD x) 0)) = 1 from if_pos ⟨by omega, by omega, p⟩]
      exact kA3.up hd w3_s (fun e he => (w3_n (by omega)).trans (w3_n (by omega)))
    · rw [show kInm x (nI (1000 + N 2 (aD x) 0)) = 1 from if_pos ⟨by omega, p⟩]
      by_cases c : e = aD x
      · rw [if_pos c, c, n2]
      · rw [if_neg c]
        exact (w3_n (by omega)).trans (w3_n (by omega))
  · have z0 := (hO.2 _ hd).2.2.1
    obtain ⟨y1, y2, y3, y4⟩ := V.snd hO hd (by omega) h1
    obtain ⟨w1, w2, w3', w4', w5, w6⟩ := xSnd.ok2 hj h1
    rw [i0 _ (by omega)]
    refine ⟨⟨vS.dn (y1.up (by omega)), y2, ?_, fun d hd => by rw [w5]; exact up3 d hd⟩, kA3.cg w5, fun e => ?_⟩
    · rw [s12_at, xSnd.done h1, hdn, nI_add]
      refine congrArg nI (kDn.up hd ?_ y3 (V.h5 hd) w1 (fun e he => ?_) y4).symm
      · rw [w6, w3_s]
      · rw [w6, w3_n (by omega)]
    · rw [e0 e _ (m0 _ (by omega)), w4']
      rfl
