theorem kp.move {E : kE} {A : Nat → Prop} {C : kC} {L : kL} {H : Heap} {u t : kT} {e : va_E} (h : kp E A C L H) (hu : C u = some e) (hut : u ≠ t) : kp E A (kup (kup C u none) t (some e)) (kup L t (L u)) H := by
  have key : ∀ (z : kT) (f : va_E), kup (kup C u none) t (some e) z = some f → ∃ z' : kT, C z' = some f ∧ kup L t (L u) z = L z' ∧ (z = t ∧ z' = u ∨ z ≠ t ∧ z' = z ∧ z ≠ u) := by
    intro z f hz
    by_cases hzt : z = t
    · subst hzt
      rw [kup_s] at hz
      cases hz
      exact ⟨u, hu, by rw [kup_s], Or.inl ⟨rfl, rfl⟩⟩
    · rw [kup_n hzt] at hz
      by_cases hzu : z = u
      · subst hzu; rw [kup_s] at hz; cases hz
      · rw [kup_n hzu] at hz
        exact ⟨z, hz, by rw [kup_n hzt], Or.inr ⟨hzt, rfl, hzu⟩⟩
  refine ⟨fun x f hx => ?_, fun x y f g hx hy hL => ?_⟩
  · obtain ⟨z, h1, h2, -⟩ := key x f hx
    rw [h2]
    exact h.1 z f h1
  · obtain ⟨z, h1, h2, h3⟩ := key x f hx
    obtain ⟨z', h4, h5, h6⟩ := key y g hy
    have hzz := h.2 z z' f g h1 h4 (h2.symm.trans (hL.trans h5))
    rcases h3 with ⟨a1, a2⟩ | ⟨a1, a2, a3⟩ <;> rcases h6 with ⟨b1, b2⟩ | ⟨b1, b2, b3⟩
    · rw [a1, b1]
    · exact absurd (b2.symm.trans (hzz.symm.trans a2)) b3
    · exact absurd (a2.symm.trans (hzz.trans b2)) a3
    · rw [← a2, ← b2]; exact hzz
theorem kp.L {E : kE} {A : Nat → Prop} {C : kC} {L L' : kL} {H : Heap} (h : kp E A C L H) (hL : ∀ x e, C x = some e → L' x = L x) : kp E A C L' H :=
  ⟨fun t e ht => by rw [hL t e ht]; exact h.1 t e ht, fun t u e f h1 h2 h3 => h.2 t u e f h1 h2 (by rw [← hL t e h1, ← hL u f h2]; exact h3)⟩
section KR7
variable {Γ : kG} {E : kE} {A : Nat → Prop} {cc : ByteArray} {own : String} {C : kC} {L : kL} {cells slots pc : Nat} {lo : List (Nat × Value)} {rest : List Value}
theorem k_move {u t : kT} {e : va_E} (hu : C u = some e) (hut : u ≠ t) (k9 : kW Γ E A (kup (kup C u none) t (some e)) (kup L t (L u)) cells slots pc lo rest) : kW Γ E A C L cells slots pc lo rest := by
  obtain ⟨p, l, e, R, s, m, args, below, meth, c, Q, nL⟩ := Γ
  exact fun H locs ls hp hS hl => k9 H locs ls (hp.move hu hut) hS hl
theorem k_L {L' : kL} (h : ∀ x e, C x = some e → L' x = L x) (k9 : kW Γ E A C L' cells slots pc lo rest) : kW Γ E A C L cells slots pc lo rest := by
  obtain ⟨p, l, e, R, s, m, args, below, meth, c, Q, nL⟩ := Γ
  exact fun H locs ls hp hS hl => k9 H locs ls (hp.L h) hS hl
theorem k_mmax (X : kX Γ E A cc own) {idx : Nat} (hlink : Cond.methodLink own idx Lib.Math.max.name ∈ wsL_law) (hst : Cond.static Lib.Math.max.name ∈ wsL_law) (hini : Cond.initialized "java/lang/Math" ∈ wsL_law) (hcode : Cond.code Lib.Math.max.name Lib.Math.max.code 2 (some .int) ∈ wsL_law) (hf : 1 ≤ (kRm Γ).frames) (hlo : (rest.map fun v => v.category).sum + 13 ≤ (kRm Γ).locals) (hc : cells ≤ (kRm Γ).cells) (hs : slots ≤ (kRm Γ).slots) {x y : Int32} (hdg : decode cc pc = .ok (.invokestatic idx, 3)) (k9 : kW Γ E A C L cells slots (pc + 3) lo (.int (if x < y then y else x) :: rest)) : kW Γ E A C L cells slots pc lo (.int y :: .int x :: rest) := by
  obtain ⟨p, l, e, R, s, m, args, below, meth, c, Q, nL⟩ := Γ
  obtain ⟨hx, hb, hml, hown, hts, hAm, hlk, htr⟩ := X
  exact fun H locs ls hp hS hl => va_mmax hx hb (hml.trans hl.1.symm) hown (hts _ hlink) (hts _ hst) (hts _ hini) (hts _ hcode) hf hlo hc hs hdg (k9 H locs ls hp hS hl)
theorem k_mmin (X : kX Γ E A cc own) {idx : Nat} (hlink : Cond.methodLink own idx Lib.Math.min.name ∈ wsL_law) (hst : Cond.static Lib.Math.min.name ∈ wsL_law) (hini : Cond.initialized "java/lang/Math" ∈ wsL_law) (hcode : Cond.code Lib.Math.min.name Lib.Math.min.code 2 (some .int) ∈ wsL_law) (hf : 1 ≤ (kRm Γ).frames) (hlo : (rest.map fun v => v.category).sum + 13 ≤ (kRm Γ).locals) (hc : cells ≤ (kRm Γ).cells) (hs : slots ≤ (kRm Γ).slots) {x y : Int32} (hdg : decode cc pc = .ok (.invokestatic idx, 3)) (k9 : kW Γ E A C L cells slots (pc + 3) lo (.int (if y < x then y else x) :: rest)) : kW Γ E A C L cells slots pc lo (.int y :: .int x :: rest) := by
  obtain ⟨p, l, e, R, s, m, args, below, meth, c, Q, nL⟩ := Γ
  obtain ⟨hx, hb, hml, hown, hts, hAm, hlk, htr⟩ := X
  exact fun H locs ls hp hS hl => va_mmin hx hb (hml.trans hl.1.symm) hown (hts _ hlink) (hts _ hst) (hts _ hini) (hts _ hcode) hf hlo hc hs hdg (k9 H locs ls hp hS hl)
abbrev k_gc : MethodName := ⟨"java/lang/Object", "getClass", "()Ljava/lang/Class;"⟩
/-- getClass() of a row of Object, and the constant that it is compared with: one number -/
theorem k_getC (X : kX Γ E A cc own) {t : kT} {a : Nat} {n9 : Nat} {f9 : Nat → Option Nat} {idx : Nat} (hC : C t = some (.inl (E.2.1 3, n9, .inr (.inr (.inr (.inr f9)))))) (ha : L t = a) (hlink : Cond.methodLink own idx k_gc ∈ wsL_law) (hsel : Cond.selects "[Ljava/lang/Object;" k_gc k_gc ∈ wsL_law) (hinst : Cond.instanceMethod k_gc ∈ wsL_law) (hnat : Cond.native k_gc ∈ wsL_law) (hf : 1 ≤ (kRm Γ).frames) (hlo : (rest.map fun v => v.category).sum + 14 ≤ (kRm Γ).locals) (hdg : decode cc pc = .ok (.invokevirtual idx, 3)) (k9 : kW Γ E A C L cells slots (pc + 3) lo (.ref E.2.2.2 :: rest)) : kW Γ E A C L cells slots pc lo (.ref a :: rest) := by
  obtain ⟨p, l, e, R, s, m, args, below, meth, c, Q, nL⟩ := Γ
  obtain ⟨hx, hb, hml, hown, hts, hAm, hlk, htr⟩ := X
  intro H locs ls hp hS hl
  subst ha
  refine va_getC hx hb (hml.trans hl.1.symm) hown (hts _ hlink) hAm.2.2.2.1.2.2.2.use (hts _ hsel) (hts _ hinst) (hts _ hnat) hAm.2.2.2.1.2.2.1 ⟨_, (hp.1 t _ hC).1, rfl, ?_⟩ hf hlo hdg (k9 H locs ls hp hS hl)
  exact va_nmO (hAm.1.2 3 _ rfl).2 (by decide)
theorem k_ldcM (X : kX Γ E A cc own) {idx : Nat} (hlink : Cond.classLink own idx "[Ljava/lang/Object;" ∈ wsL_law) (hdg : decode cc pc = .ok (.ldc idx, 2)) (k9 : kW Γ E A C L cells slots (pc + 2) lo (.ref E.2.2.2 :: rest)) : kW Γ E A C L cells slots pc lo rest := by
  obtain ⟨p, l, e, R, s, m, args, below, meth, c, Q, nL⟩ := Γ
  obtain ⟨hx, hb, hml, hown, hts, hAm, hlk, htr⟩ := X
  exact fun H locs ls hp hS hl => va_ldcM hx hb hown (hts _ hlink) hAm.2.2.2.1.2.2.1 hdg (k9 H locs ls hp hS hl)
/-- the shared empty row -/
theorem k_getsE (X : kX Γ E A cc own) {idx : Nat} (hlink : Cond.fieldLink own idx "java/util/ArrayList" "DEFAULTCAPACITY_EMPTY_ELEMENTDATA" "[Ljava/lang/Object;" ∈ wsL_law) (hdg : decode cc pc = .ok (.getstatic idx, 3)) (k9 : kW Γ E A C L cells slots (pc + 3) lo (.ref E.2.2.1 :: rest)) : kW Γ E A C L cells slots pc lo rest := by
  obtain ⟨p, l, e, R, s, m, args, below, meth, c, Q, nL⟩ := Γ
  obtain ⟨hx, hb, hml, hown, hts, hAm, hlk, htr⟩ := X
  exact fun H locs ls hp hS hl => va_gets hx hb hAm.2.2.2.1.1 hS hown (hts _ hlink) (fun _ h => h) hdg (k9 H locs ls hp hS hl)
theorem k_lenE (X : kX Γ E A cc own) (hdg : decode cc pc = .ok (.arraylength, 1)) (k9 : kW Γ E A C L cells slots (pc + 1) lo (.int (nI 0) :: rest)) : kW Γ E A C L cells slots pc lo (.ref E.2.2.1 :: rest) := by
  obtain ⟨p, l, e, R, s, m, args, below, meth, c, Q, nL⟩ := Γ
  obtain ⟨hx, hb, hml, hown, hts, hAm, hlk, htr⟩ := X
  exact fun H locs ls hp hS hl => va_tlen hx hb hAm.2.2.2.1.2.1 hS rfl hdg (k9 H locs ls hp hS hl)
/-- System.arraycopy from one row of Object to another, all that is in it of one known kind -/
theorem k_copyq (X : kX Γ E A cc own) {t u : kT} {a0 a idx n0 n1 : Nat} {f g : Nat → Option Nat} (hC0 : C t = some (.inl (E.2.1 3, n0, .inr (.inr (.inr (.inr f)))))) (hC1 : C u = some (.inl (E.2.1 3, n1, .inr (.inr (.inr (.inr g)))))) (ha0 : L t = a0) (ha1 : L u = a) {n ci : Nat} {r : vw_C} (hn : n < 2 ^ 31) (h0 : n ≤ n0) (h1 : n ≤ n1) (hc : vwCl[ci]? = some r) (hcas : (r.1, "java/lang/Object") ∈ kCas) (hel : ∀ i, i < n → ∀ y, f i = some y → ∃ (z : kT) (vs : List Value), L z = y ∧ C z = some (.inr (ci, vs)))
    (hlink : Cond.methodLink own idx arraycopyName ∈ wsL_law) (hnat : Cond.native arraycopyName ∈ wsL_law) (hst : Cond.static arraycopyName ∈ wsL_law) (hini : Cond.initialized "java/lang/System" ∈ wsL_law) (hf : 1 ≤ (kRm Γ).frames) (hlo : (rest.map fun v => v.category).sum + (nativeFrameWords "java/lang/System" "arraycopy" 5 + 11) ≤ (kRm Γ).locals) (hdg : decode cc pc = .ok (.invokestatic idx, 3))
    (k9 : kW Γ E A (kup C u (some (.inl (E.2.1 3, n1, .inr (.inr (.inr (.inr (va_cpy f g 0 0 n)))))))) L cells slots (pc + 3) lo rest) : kW Γ E A C L cells slots pc lo (.int (nI n) :: .int (nI 0) :: .ref a :: .int (nI 0) :: .ref a0 :: rest) := by
  obtain ⟨p, l, e, R, s, m, args, below, meth, c, Q, nL⟩ := Γ
  obtain ⟨hx, hb, hml, hown, hts, hAm, hlk, htr⟩ := X
  intro H locs ls hp hS hl
  subst ha0
  subst ha1
  have z0 : (nI 0).toNatClampNeg = 0 := by decide
  have zn : (nI n).toNatClampNeg = n := nI_clamp hn
  have zi : (nI n).toInt = (n : Int) := nI_toInt hn
  have zi0 : (nI 0).toInt = (0 : Int) := by decide
  have z1 : ¬ nI 0 < 0 := by decide
  have z2 : ¬ nI n < 0 := nI_pos hn
  intro T hT X
  have hc0 := (hp.1 t _ hC0).1
  have hc1 := (hp.1 u _ hC1).1
  obtain ⟨-, k0, hk0, cm0, hkk0⟩ := (hAm.1.2 3 _ rfl).1 n0 (fun j => va_rf (f j))
  obtain ⟨-, k1, hk1, cm1, hkk1⟩ := (hAm.1.2 3 _ rfl).1 n1 (fun j => va_rf (g j))
  obtain ⟨vm', X', step⟩ := X.arraycopy hx hown (hts _ hlink) (hts _ hnat) (hts _ hst) (hts _ hini) (src := L t) (dst := L u) (cs := vp_cell (E.2.1 3) (n0, .inr (.inr (.inr (.inr f))))) (cd := vp_cell (E.2.1 3) (n1, .inr (.inr (.inr (.inr g))))) (srcPos := nI 0) (destPos := nI 0) (n := nI n) (by rw [hT]; exact hc0) (by rw [hT]; exact hc1)
    (fun _ h => by cases h) (fun _ h => by cases h) (fun h => by cases h) (fun h => by cases h) hk0 hk1 hkk0 hkk1 rfl z1 z1 z2
    (by rw [zi0, zi]; show ¬ _ > ((arrV (E.2.1 3) n0 (fun j => va_rf (f j))).slots.size : Int); rw [arrV_size]; omega)
    (by rw [zi0, zi]; show ¬ _ > ((arrV (E.2.1 3) n1 (fun j => va_rf (g j))).slots.size : Int); rw [arrV_size]; omega)
    (fun vm₁ hal i hi => by
      rw [zn] at hi
      have e : (vp_cell (E.2.1 3) (n0, .inr (.inr (.inr (.inr f))))).slots.getD ((nI 0).toNatClampNeg + i) .null = va_rf (f i) := by
        show (arrV (E.2.1 3) n0 (fun j => va_rf (f j))).slots.getD _ _ = _
        rw [z0, Nat.zero_add, Array.getD_eq_getD_getElem?, arrV_read _ _ (by omega)]
        rfl
      rw [e]
      cases hy : f i with
      | none => exact ⟨rfl, trivial⟩
      | some y =>
        obtain ⟨z, vs, hz1, hz2⟩ := hel i hi y hy
        obtain ⟨cellV, g1, g2, g3⟩ := va_recv hAm.1 (hp.P hz2) (q0 := 0) hc rfl
        rw [hz1] at g1
        obtain ⟨kA, comp, r1, r2, r3, -⟩ := (hAm.1.2 3 _ rfl).2
        cases hk1.symm.trans r1
        cases hkk1.symm.trans r2
        obtain ⟨kC, hkC, -⟩ := Vm.findClass_spec g3
        obtain ⟨kE, hkE, -⟩ := Vm.findClass_spec r3
        obtain ⟨kC', hkC', -⟩ := hal.2.2 _ _ hkC
        obtain ⟨kE', hkE', -⟩ := hal.2.2 _ _ hkE
        refine ⟨rfl, cellV, (show T.heap[y]? = some cellV by rw [hT]; exact g1), (fun q h => by rw [h] at g2; cases g2), ⟨kC', hkC'⟩, ?_, ?_⟩
        · exact ⟨kE', hkE'⟩
        · show vm₁.assignable _ _ = true
          rw [hal.assignable]
          obtain ⟨c0, t1, f1, f2, f3⟩ := Cond.castable_spec (va_Nw.use (A := args) rfl (hAm.2.2.2.2.2.2.1 _ hcas))
          cases g3.symm.trans f1
          cases r3.symm.trans f2
          exact f3)
    (g := F0 m pc ls (.int (nI n) :: .int (nI 0) :: .ref (L u) :: .int (nI 0) :: .ref (L t) :: rest)) rfl (by exact hl.1.trans hml.symm) (rest := rest) rfl (by rw [hb]; exact hdg) hf (by show 2 * 0 + _ + _ ≤ _; have h9 : (rest.map fun v => v.category).sum + (nativeFrameWords "java/lang/System" "arraycopy" 5 + 11) ≤ R.locals := hlo; omega)
  have e1 : copied (vp_cell (E.2.1 3) (n0, .inr (.inr (.inr (.inr f))))) (vp_cell (E.2.1 3) (n1, .inr (.inr (.inr (.inr g))))) (nI 0) (nI 0) (nI n) = vp_cell (E.2.1 3) (n1, .inr (.inr (.inr (.inr (va_cpy f g 0 0 n))))) := by
    rw [vp_cell_q, vp_cell_q, vp_cell_q]
    rw [show va_cpy f g 0 0 n = va_cpy f g (nI 0).toNatClampNeg (nI 0).toNatClampNeg (nI n).toNatClampNeg by rw [z0, zn]]
    exact va_copied (fun z => va_rf z) (E.2.1 3) (E.2.1 3) f g (by rw [z0, zn]; omega)
  rw [e1] at X' step
  have hlt : L u < H.size := (Array.getElem?_eq_some_iff.mp hc1).1
  have hheap : ((T.setVm vm').setCell (L u) (vp_cell (E.2.1 3) (n1, .inr (.inr (.inr (.inr (va_cpy f g 0 0 n))))))).heap = H.setIfInBounds (L u) (vp_cell (E.2.1 3) (n1, .inr (.inr (.inr (.inr (va_cpy f g 0 0 n)))))) := by rw [← hT]; rfl
  have oq : ∀ q : Nat, q ≠ L u → (H.setIfInBounds (L u) (vp_cell (E.2.1 3) (n1, .inr (.inr (.inr (.inr (va_cpy f g 0 0 n)))))))[q]? = H[q]? := fun q hq => by simp [Array.getElem?_setIfInBounds, Ne.symm hq]
  obtain ⟨t9, a1, b1⟩ := k9 _ _ ls (hp.upd hC1 (show (H.setIfInBounds (L u) _)[L u]? = some _ by simp [Array.getElem?_setIfInBounds, hlt]) oq) ⟨by simp; exact hS.1, fun q g1 g2 => by
      rw [oq q (fun e => g2 (by rw [e]; exact (hp.1 u _ hC1).2))]
      exact hS.2.1 q g1 g2, fun q hq => by
      rcases List.mem_append.mp hq with h | h
      · exact hS.2.2 q h
      · obtain ⟨z, -, hz⟩ := List.mem_map.mp h
        rw [← hz]
        exact (hp.1 u _ hC1).2⟩ hl _ hheap X'
  exact ⟨t9, step t9 a1, b1⟩
end KR7
