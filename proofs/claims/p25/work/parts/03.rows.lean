theorem kGood : wsL_law.all goodWord = true := by decide +kernel
theorem kGI {ws : List Cond} (h : ∀ w ∈ ws, w ∈ wsL_law) : GoodIn wsL_law ws := fun w hw => ⟨h w hw, good_of_word (List.all_eq_true.mp kGood w (h w hw))⟩
section KR2
variable {Γ : kG} {E : kE} {A : Nat → Prop} {cc : ByteArray} {own : String} {C : kC} {L : kL} {cells slots pc : Nat} {lo : List (Nat × Value)} {rest : List Value}

theorem k_new0 (X : kX Γ E A cc own) (t : kT) {ci index : Nat} {q : vw_C} (hc : vwCl[ci]? = some q) (hin : ∀ w ∈ u_ws q.1 q.2.1 q.2.2, w ∈ wsL_law) (ty : Nat → FieldType) (hty : ∀ k, k < q.2.2 → parseFieldDescriptor (q.2.1 k).2.2.1 = some (ty k)) (hlink : Cond.classLink own index q.1 ∈ wsL_law) (hinst : Cond.instantiable q.1 q.2.2 ∈ wsL_law) (hini : Cond.initialized q.1 ∈ wsL_law) {fs : List Value} (hfs : ∀ j, j < q.2.2 → defaultValue (ty j) = vp_V fs j) (hdg : decode cc pc = .ok (.new index, 3)) (hcells : cells + 1 ≤ (kRm Γ).cells) (hslots : slots + q.2.2 ≤ (kRm Γ).slots)
    (k9 : ∀ q9 : Nat, kW Γ E A (kup C t (some (.inr (ci, fs)))) (kup L t q9) (cells + 1) (slots + q.2.2) (pc + 3) lo (.ref q9 :: rest)) : kW Γ E A C L cells slots pc lo rest := by
  obtain ⟨p, l, e, R, s, m, args, below, meth, c, Q, nL⟩ := Γ
  obtain ⟨hx, hb, hml, hown, hts, hAm, hlk, htr⟩ := X
  intro H locs ls hp hS hl
  have hKn := hAm.1.1 ci _ hc
  refine W.newcK hx hb hown (hts _ hlink) (hts _ hinst) (hts _ hini) rfl hdg hcells hslots hKn.2.1 rfl fun H1 kC hkC e1 z1 o1 => ?_
  exact k9 H.size H1 _ ls (hp.new t ⟨_, hc, (u_born ty hts hin hKn hkC e1 hty).to hfs⟩ (hAm.2.1 _ hS.1) o1) ⟨Nat.le_trans hS.1 (by omega), fun x h1 h2 => (o1 x (Nat.lt_of_lt_of_le h1 hS.1)).trans (hS.2.1 x h1 h2), hS.2.2⟩ hl
theorem kt_newa (X : kX Γ E A cc own) (t : kT) {i : Nat} {ty : FieldType} {atype : ArrayType} (hty : newarray.typeOf atype = ty) (hi : (kty E.2.1)[i]? = some (E.2.1 i, ty)) (harr : Cond.arrayClass ty ∈ wsL_law) (hpr : ∀ C, ty ≠ .object C) {n : Int32} {N : Nat} (a0 : vp_A) (ha : ∀ cA : ClassId, vp_cell cA a0 = arrV cA N (fun _ => defaultValue ty)) (hn : ¬ n < 0) (hN : n.toNatClampNeg = N) (hbytes : N * componentBytes ty ≤ 536870912) (hdg : decode cc pc = .ok (.newarray atype, 2)) (hcells : cells + 1 ≤ (kRm Γ).cells) (hslots : slots + N ≤ (kRm Γ).slots)
    (k9 : ∀ q9 : Nat, kW Γ E A (kup C t (some (.inl (E.2.1 i, a0)))) (kup L t q9) (cells + 1) (slots + N) (pc + 2) lo (.ref q9 :: rest)) : kW Γ E A C L cells slots pc lo (.int n :: rest) := by
  obtain ⟨p, l, e, R, s, m, args, below, meth, c, Q, nL⟩ := Γ
  obtain ⟨hx, hb, hml, hown, hts, hAm, hlk, htr⟩ := X
  intro H locs ls hp hS hl
  subst hty
  refine va_newaK hx hb (hts _ harr) rfl hdg rfl hn hN hbytes hcells hslots rfl fun H1 cA e1 z1 o1 hAr hNm => ?_
  have hRA := (hAm.1.2 i _ hi).2
  have hcA : cA = E.2.1 i := by
    have h9 : s.vm.findClass ("[" ++ (newarray.typeOf atype).toString) = some (E.2.1 i) := by
      unfold va_RA at hRA
      cases atype <;> exact hRA
    exact Option.some.inj (hNm.symm.trans h9)
  subst hcA
  exact k9 H.size H1 _ ls (hp.new t (show H1[H.size]? = some (vp_cell _ _) by rw [ha]; exact e1) (hAm.2.1 _ hS.1) o1) ⟨Nat.le_trans hS.1 (by omega), fun x h1 h2 => (o1 x (Nat.lt_of_lt_of_le h1 hS.1)).trans (hS.2.1 x h1 h2), hS.2.2⟩ hl
theorem k_newi (X : kX Γ E A cc own) (t : kT) {n : Int32} (N : Nat) (harr : Cond.arrayClass .int ∈ wsL_law) (hn : ¬ n < 0) (hN : n.toNatClampNeg = N) (hbytes : N * 4 ≤ 536870912) (hdg : decode cc pc = .ok (.newarray .int, 2)) (hcells : cells + 1 ≤ (kRm Γ).cells) (hslots : slots + N ≤ (kRm Γ).slots)
    (k9 : ∀ q9 : Nat, kW Γ E A (kup C t (some (.inl (E.2.1 0, N, .inl (fun _ => 0))))) (kup L t q9) (cells + 1) (slots + N) (pc + 2) lo (.ref q9 :: rest)) : kW Γ E A C L cells slots pc lo (.int n :: rest) :=
  kt_newa X t (i := 0) (ty := .int) rfl rfl harr (fun _ h => by cases h) (N, .inl (fun _ => 0)) (fun _ => rfl) hn hN hbytes hdg hcells hslots k9
theorem k_newz (X : kX Γ E A cc own) (t : kT) {n : Int32} (N : Nat) (harr : Cond.arrayClass .boolean ∈ wsL_law) (hn : ¬ n < 0) (hN : n.toNatClampNeg = N) (hbytes : N * 1 ≤ 536870912) (hdg : decode cc pc = .ok (.newarray .boolean, 2)) (hcells : cells + 1 ≤ (kRm Γ).cells) (hslots : slots + N ≤ (kRm Γ).slots)
    (k9 : ∀ q9 : Nat, kW Γ E A (kup C t (some (.inl (E.2.1 1, N, .inl (fun _ => 0))))) (kup L t q9) (cells + 1) (slots + N) (pc + 2) lo (.ref q9 :: rest)) : kW Γ E A C L cells slots pc lo (.int n :: rest) :=
  kt_newa X t (i := 1) (ty := .boolean) rfl rfl harr (fun _ h => by cases h) (N, .inl (fun _ => 0)) (fun _ => rfl) hn hN hbytes hdg hcells hslots k9
/-- a row of references: 3 of Object, 4 of Fields, 5 of Device -/
theorem k_newq (X : kX Γ E A cc own) (t : kT) (i : Nat) {nm : String} {index : Nat} {n : Int32} (N : Nat) (hi : (kty E.2.1)[i]? = some (E.2.1 i, .object nm)) (hAO : nm = "java/lang/Object" ∨ nm = RX2 ∨ nm = RX1) (hlink : Cond.classLink own index nm ∈ wsL_law) (hn : ¬ n < 0) (hN : n.toNatClampNeg = N) (hbytes : N * 4 ≤ 536870912) (hdg : decode cc pc = .ok (.anewarray index, 3)) (hcells : cells + 1 ≤ (kRm Γ).cells) (hslots : slots + N ≤ (kRm Γ).slots)
    (k9 : ∀ q9 : Nat, kW Γ E A (kup C t (some (.inl (E.2.1 i, N, .inr (.inr (.inr (.inr (fun _ => none)))))))) (kup L t q9) (cells + 1) (slots + N) (pc + 3) lo (.ref q9 :: rest)) : kW Γ E A C L cells slots pc lo (.int n :: rest) := by
  obtain ⟨p, l, e, R, s, m, args, below, meth, c, Q, nL⟩ := Γ
  obtain ⟨hx, hb, hml, hown, hts, hAm, hlk, htr⟩ := X
  intro H locs ls hp hS hl
  subst hN
  have hover : va_AO nm s := by
    rcases hAO with h | h | h
    · rw [h]; exact hAm.2.2.2.2.2.1.1
    · rw [h]; exact hAm.2.2.2.2.2.1.2.1
    · rw [h]; exact hAm.2.2.2.2.2.1.2.2
  refine W.anew hx hb hown (hts _ hlink) (va_AO.use hover) rfl hdg rfl hn hbytes hcells hslots fun cA kA comp f1 f2 f3 f4 => ?_
  generalize hH1 : H.push ({ cls := cA, slots := Array.replicate n.toNatClampNeg .null, vm := .none } : Cell) = H1
  have z1 : H1.size = H.size + 1 := by rw [← hH1, Array.size_push]
  have e1 : H1[H.size]? = some (arrV cA n.toNatClampNeg (fun _ => .null)) := by rw [← hH1, Array.getElem?_push_size, ← arrV_new]
  have o1 : ∀ q : Nat, q < H.size → H1[q]? = H[q]? := fun q hq => by rw [← hH1, Array.getElem?_push, if_neg (Nat.ne_of_lt hq)]
  have hRA := (hAm.1.2 i _ hi).2
  have hcA : cA = E.2.1 i := by
    obtain ⟨-, -, -, -, -, h4⟩ := hRA
    exact Option.some.inj (f1.symm.trans h4)
  subst hcA
  exact k9 H.size H1 _ ls (hp.new t (show H1[H.size]? = some (vp_cell _ _) by rw [vp_cell_q]; exact e1) (hAm.2.1 _ hS.1) o1) ⟨Nat.le_trans hS.1 (by omega), fun x h1 h2 => (o1 x (Nat.lt_of_lt_of_le h1 hS.1)).trans (hS.2.1 x h1 h2), hS.2.2⟩ hl
theorem k_iald (X : kX Γ E A cc own) {t : kT} {a : Nat} {n : Nat} {f : Nat → Int32} {i : Int32} (hC : C t = some (.inl (E.2.1 0, n, .inl f))) (ha : L t = a) (hin : vp_in i n) (hdg : decode cc pc = .ok (.iaload, 1)) (k9 : kW Γ E A C L cells slots (pc + 1) lo (.int (f i.toNatClampNeg) :: rest)) : kW Γ E A C L cells slots pc lo (.int i :: .ref a :: rest) := by
  obtain ⟨p, l, e, R, s, m, args, below, meth, c, Q, nL⟩ := Γ
  obtain ⟨hx, hb, hml, hown, hts, hAm, hlk, htr⟩ := X
  intro H locs ls hp hS hl
  subst ha
  exact va_iald hx hb hAm.1 (hp.P hC) 0 0 rfl rfl hin hdg (k9 H locs ls hp hS hl)
theorem k_zald (X : kX Γ E A cc own) {t : kT} {a : Nat} {n : Nat} {f : Nat → Int32} {i : Int32} (hC : C t = some (.inl (E.2.1 1, n, .inl f))) (ha : L t = a) (hin : vp_in i n) (hdg : decode cc pc = .ok (.baload, 1)) (k9 : kW Γ E A C L cells slots (pc + 1) lo (.int (f i.toNatClampNeg) :: rest)) : kW Γ E A C L cells slots pc lo (.int i :: .ref a :: rest) := by
  obtain ⟨p, l, e, R, s, m, args, below, meth, c, Q, nL⟩ := Γ
  obtain ⟨hx, hb, hml, hown, hts, hAm, hlk, htr⟩ := X
  intro H locs ls hp hS hl
  subst ha
  exact va_zald hx hb hAm.1 (hp.P hC) 0 1 rfl rfl hin hdg (k9 H locs ls hp hS hl)
theorem k_aald (X : kX Γ E A cc own) {t : kT} {a : Nat} {n j : Nat} {nm : String} {f : Nat → Option Nat} {i : Int32} (hC : C t = some (.inl (E.2.1 j, n, .inr (.inr (.inr (.inr f)))))) (hj : (kty E.2.1)[j]? = some (E.2.1 j, .object nm)) (ha : L t = a) (hin : vp_in i n) (hdg : decode cc pc = .ok (.aaload, 1)) {v : Value} (hv : va_rf (f i.toNatClampNeg) = v) (k9 : kW Γ E A C L cells slots (pc + 1) lo (v :: rest)) : kW Γ E A C L cells slots pc lo (.int i :: .ref a :: rest) := by
  obtain ⟨p, l, e, R, s, m, args, below, meth, c, Q, nL⟩ := Γ
  obtain ⟨hx, hb, hml, hown, hts, hAm, hlk, htr⟩ := X
  intro H locs ls hp hS hl
  subst ha
  subst hv
  exact va_aldq hx hb hAm.1 (hp.P hC) 0 j rfl hj hin hdg (k9 H locs ls hp hS hl)
theorem k_alen (X : kX Γ E A cc own) {t : kT} {a : Nat} {j : Nat} {ty : FieldType} {x : vp_A} (hC : C t = some (.inl (E.2.1 j, x))) (hj : (kty E.2.1)[j]? = some (E.2.1 j, ty)) (ha : L t = a) (hdg : decode cc pc = .ok (.arraylength, 1)) (k9 : kW Γ E A C L cells slots (pc + 1) lo (.int (nI x.1) :: rest)) : kW Γ E A C L cells slots pc lo (.ref a :: rest) := by
  obtain ⟨p, l, e, R, s, m, args, below, meth, c, Q, nL⟩ := Γ
  obtain ⟨hx, hb, hml, hown, hts, hAm, hlk, htr⟩ := X
  intro H locs ls hp hS hl
  subst ha
  exact va_alen hx hb hAm.1 (hp.P hC) 0 j rfl hj rfl hdg (k9 H locs ls hp hS hl)
theorem k_iast (X : kX Γ E A cc own) {t : kT} {a : Nat} {n : Nat} {f : Nat → Int32} {i : Int32} {x : Int32} (hC : C t = some (.inl (E.2.1 0, n, .inl f))) (ha : L t = a) (hin : vp_in i n) (hdg : decode cc pc = .ok (.iastore, 1)) (k9 : kW Γ E A (kup C t (some (.inl (E.2.1 0, n, .inl (upd f i.toNatClampNeg x))))) L cells slots (pc + 1) lo rest) : kW Γ E A C L cells slots pc lo (.int x :: .int i :: .ref a :: rest) := by
  obtain ⟨p, l, e, R, s, m, args, below, meth, c, Q, nL⟩ := Γ
  obtain ⟨hx, hb, hml, hown, hts, hAm, hlk, htr⟩ := X
  intro H locs ls hp hS hl
  subst ha
  refine W.iast hx hb (hp.1 t _ hC).1 ((hAm.1.2 0 _ rfl).1 n (fun j => .int (f j))) (fun q => by cases q) (by show ¬ (i < 0 ∨ (arrV _ _ _).slots.size ≤ _); rw [arrV_size]; exact hin) rfl rfl hdg fun H1 e z oq => ?_
  refine k9 H1 _ ls (hp.upd hC ?_ oq) (hS.put z oq (hp.1 t _ hC).2) hl
  show H1[L t]? = some (vp_cell _ _)
  rw [e]
  rw [vp_cell_i, vp_cell_i, arrV_store]
  congr 2
  funext q
  by_cases hq : q = i.toNatClampNeg
  · subst hq
    simp [updV, upd]
    try rfl
  · simp [updV, upd, hq]
theorem k_zast (X : kX Γ E A cc own) {t : kT} {a : Nat} {n : Nat} {f : Nat → Int32} {i : Int32} {x : Int32} (hC : C t = some (.inl (E.2.1 1, n, .inl f))) (ha : L t = a) (hin : vp_in i n) (hdg : decode cc pc = .ok (.bastore, 1)) (k9 : kW Γ E A (kup C t (some (.inl (E.2.1 1, n, .inl (upd f i.toNatClampNeg (vp_nar .boolean x)))))) L cells slots (pc + 1) lo rest) : kW Γ E A C L cells slots pc lo (.int x :: .int i :: .ref a :: rest) := by
  obtain ⟨p, l, e, R, s, m, args, below, meth, c, Q, nL⟩ := Γ
  obtain ⟨hx, hb, hml, hown, hts, hAm, hlk, htr⟩ := X
  intro H locs ls hp hS hl
  subst ha
  refine W.zast hx hb (hp.1 t _ hC).1 ((hAm.1.2 1 _ rfl).1 n (fun j => .int (f j))) (fun q => by cases q) (by show ¬ (i < 0 ∨ (arrV _ _ _).slots.size ≤ _); rw [arrV_size]; exact hin) rfl rfl hdg fun H1 e z oq => ?_
  refine k9 H1 _ ls (hp.upd hC ?_ oq) (hS.put z oq (hp.1 t _ hC).2) hl
  show H1[L t]? = some (vp_cell _ _)
  rw [e]
  rw [vp_cell_i, vp_cell_i, arrV_store]
  congr 2
  funext q
  by_cases hq : q = i.toNatClampNeg
  · subst hq
    simp [updV, upd, vp_nar]
    try rfl
  · simp [updV, upd, vp_nar, hq]
/-- a reference into a row; its class is the row's, or known to be castable -/
theorem k_aast (X : kX Γ E A cc own) {t u : kT} {a v : Nat} {n j ci : Nat} {nm : String} {f : Nat → Option Nat} {i : Int32} {r : vw_C} {vs : List Value} (hC : C t = some (.inl (E.2.1 j, n, .inr (.inr (.inr (.inr f)))))) (hj : (kty E.2.1)[j]? = some (E.2.1 j, .object nm)) (ha : L t = a) (hu : C u = some (.inr (ci, vs))) (hv : L u = v) (hc : vwCl[ci]? = some r) (hca : r.1 = nm ∨ (r.1, nm) ∈ kCas) (hin : vp_in i n) (hdg : decode cc pc = .ok (.aastore, 1)) (k9 : kW Γ E A (kup C t (some (.inl (E.2.1 j, n, .inr (.inr (.inr (.inr (va_up f i.toNatClampNeg (some v))))))))) L cells slots (pc + 1) lo rest) : kW Γ E A C L cells slots pc lo (.ref v :: .int i :: .ref a :: rest) := by
  obtain ⟨p, l, e, R, s, m, args, below, meth, c, Q, nL⟩ := Γ
  obtain ⟨hx, hb, hml, hown, hts, hAm, hlk, htr⟩ := X
  intro H locs ls hp hS hl
  subst ha
  subst hv
  have hlt : i.toNatClampNeg < n := Nat.not_le.mp fun q => hin (Or.inr q)
  have h0 : ¬ i < 0 := fun q => hin (Or.inl q)
  obtain ⟨r', hr', cellV, g1, g2, g3, -⟩ := (hp.1 u _ hu).1
  have hcls := (hAm.1.1 ci r hc).2
  obtain ⟨kA, comp, k1, k2, k3, -⟩ := (hAm.1.2 j _ hj).2
  obtain ⟨kE, hkE, -⟩ := Vm.findClass_spec k3
  obtain ⟨kC, hkC, -⟩ := id hcls.2
  have hasg : s.vm.assignable (E.1.1 ci) comp = true := by
    rcases hca with h9 | h9
    · rw [← h9] at k3
      have hcomp : comp = E.1.1 ci := Option.some.inj (k3.symm.trans hcls.1)
      rw [hcomp]
      exact va_assign hcls
    · obtain ⟨c0, t1, f1, f2, f3⟩ := Cond.castable_spec (va_Nw.use (A := args) rfl (hAm.2.2.2.2.2.2.1 _ h9))
      cases hcls.1.symm.trans f1
      cases k3.symm.trans f2
      exact f3
  refine W.aast hx hb (hp.1 t _ hC).1 (fun q h => by cases h) (fun h => by cases h) k1 k2 rfl hkE ⟨h0, by show _ < (arrV _ _ _).slots.size; rw [arrV_size]; exact hlt⟩ g1 (fun q h => by rw [g3] at h; cases h) (by rw [g2]; exact hkC) (by rw [g2]; exact hasg) rfl rfl hdg fun H1 e z oq => ?_
  refine k9 H1 _ ls (hp.upd hC ?_ oq) (hS.put z oq (hp.1 t _ hC).2) hl
  show H1[L t]? = some (vp_cell _ _)
  rw [e]
  rw [vp_cell_q, vp_cell_q, arrV_store]
  congr 2
  funext q
  by_cases hq : q = i.toNatClampNeg
  · subst hq
    simp [updV, va_up, va_rf]
  · simp [updV, va_up, hq]
/-- a cast to the thing's own class -/
theorem k_cast (X : kX Γ E A cc own) {t : kT} {a : Nat} {ci index : Nat} {r : vw_C} {vs : List Value} (hC : C t = some (.inr (ci, vs))) (hc : vwCl[ci]? = some r) (ha : L t = a) (hlink : Cond.classLink own index r.1 ∈ wsL_law) (hdg : decode cc pc = .ok (.checkcast index, 3)) (k9 : kW Γ E A C L cells slots (pc + 3) lo (.ref a :: rest)) : kW Γ E A C L cells slots pc lo (.ref a :: rest) := by
  obtain ⟨p, l, e, R, s, m, args, below, meth, c, Q, nL⟩ := Γ
  obtain ⟨hx, hb, hml, hown, hts, hAm, hlk, htr⟩ := X
  intro H locs ls hp hS hl
  subst ha
  exact va_castS hx hb hown (hts _ hlink) (hAm.1.1 ci r hc).2 (va_recv hAm.1 (hp.P hC) (q0 := 0) hc rfl) hdg (k9 H locs ls hp hS hl)
theorem k_castN (X : kX Γ E A cc own) {index : Nat} (hdg : decode cc pc = .ok (.checkcast index, 3)) (k9 : kW Γ E A C L cells slots (pc + 3) lo (.null :: rest)) : kW Γ E A C L cells slots pc lo (.null :: rest) := by
  obtain ⟨p, l, e, R, s, m, args, below, meth, c, Q, nL⟩ := Γ
  obtain ⟨hx, hb, hml, hown, hts, hAm, hlk, htr⟩ := X
  exact fun H locs ls hp hS hl => lv_castN hx hb hdg (k9 H locs ls hp hS hl)
theorem k_objInit (X : kX Γ E A cc own) {a idx : Nat} (hlink : Cond.methodLink own idx Lib.objectInit ∈ wsL_law) (hinst : Cond.instanceMethod Lib.objectInit ∈ wsL_law) (hcode : Cond.code Lib.objectInit ⟨#[0xb1]⟩ 1 none ∈ wsL_law) (hf : 1 ≤ (kRm Γ).frames) (hlo : (rest.map fun v => v.category).sum + 12 ≤ (kRm Γ).locals) (hdg : decode cc pc = .ok (.invokespecial idx, 3)) (k9 : kW Γ E A C L cells slots (pc + 3) lo rest) : kW Γ E A C L cells slots pc lo (.ref a :: rest) := by
  obtain ⟨p, l, e, R, s, m, args, below, meth, c, Q, nL⟩ := Γ
  obtain ⟨hx, hb, hml, hown, hts, hAm, hlk, htr⟩ := X
  intro H locs ls hp hS hl
  exact W.objInit hx hb hown (hts _ hlink) (hts _ hinst) (hts _ hcode) (g := F0 m pc ls (.ref a :: rest)) rfl (hl.1.trans hml.symm) rfl hdg hf (by show 2 * 0 + _ + _ ≤ _; have h9 : (rest.map fun v => v.category).sum + 12 ≤ R.locals := hlo; omega) (k9 H locs ls hp hS hl)

end KR2
/-! contracts -/
def kPc (E : kE) (A : Nat → Prop) (C : kC) (L : kL) (av : List Value) : Array Value → State → Prop := fun v U => v = av.toArray ∧ kp E A C L U.heap ∧ kAm E A U
def kQc (E : kE) (A : Nat → Prop) (P : Option Value → kC → kL → Prop) : Array Value → State → Outcome → State → Prop := fun _ st oc t => (∃ (v : Option Value) (C' : kC) (L' : kL), oc = .returned v ∧ P v C' L' ∧ kp E A C' L' t.heap) ∧ va_F A st t
def kXc (E : kE) (A : Nat → Prop) (PX : String → Prop) (C : kC) (L : kL) : String → State → State → Prop := fun X st t => PX X ∧ kp E A C L t.heap ∧ va_F A st t
/-- a method that returns -/
def kM (l : Launch) (y : MethodName) (cc : ByteArray) (n : Nat) (ret : Option FieldType) (fr lw mc ms : Nat) (E : kE) (A : Nat → Prop) (C : kC) (L : kL) (av : List Value) (P : Option Value → kC → kL → Prop) : Prop :=
  Met l y (.code y cc n ret :: wsL_law) ({ frames := fr, cells := mc, slots := ms, locals := lw } : Room) (kPc E A C L av) (kQc E A P) mc ms A
/-- a method that returns, or throws and leaves all as it was -/
def kMX (l : Launch) (y : MethodName) (cc : ByteArray) (n : Nat) (ret : Option FieldType) (fr lw mc ms : Nat) (E : kE) (A : Nat → Prop) (C : kC) (L : kL) (av : List Value) (P : Option Value → kC → kL → Prop) (PX : String → Prop) : Prop :=
  vx_Met l y (.code y cc n ret :: wsL_law) ({ frames := fr, cells := mc, slots := ms, locals := lw } : Room) (kPc E A C L av) (kQc E A P) (kXc E A PX C L) mc ms A
theorem kPc.blind {E : kE} {A : Nat → Prop} {C : kC} {L : kL} {av : List Value} : FrameBlind (kPc E A C L av) := fun a U g mk h => ⟨h.1, h.2.1, kAm.same (u := U) (U := U.calling g mk a) rfl rfl h.2.2⟩
def kpush (v : Option Value) (rest : List Value) : List Value := match v with
  | none => rest
  | some x => x :: rest
/-- what a method owes at its end -/
def kEnd (Γ : kG) (E : kE) (A : Nat → Prop) (P : Option Value → kC → kL → Prop) (mc ms : Nat) (ret : Option FieldType) : Prop :=
  match Γ with
  | (p, l, e, R, s, m, args, below, meth, c, Q, nL) => meth.sig.returnType = ret ∧ ∀ (H : Heap) (locs : List Loc) (g : JFrame), W p l e R s m args below meth c H locs mc ms (MQ below (kQc E A P) args s mc ms A) g → W p l e R s m args below meth c H locs mc ms Q g
def kThr (Γ : kG) (E : kE) (A : Nat → Prop) (PX : String → Prop) (C : kC) (L : kL) (mc ms : Nat) : Prop :=
  match Γ with
  | (p, l, e, R, s, m, args, below, meth, c, Q, nL) => (∀ x ∈ c.exceptionTable.toList, False) ∧ ∃ P : Option Value → kC → kL → Prop, Q = vx_MQ below (kQc E A P) (kXc E A PX C L) args s mc ms A
section KR3
variable {Γ : kG} {E : kE} {A : Nat → Prop} {cc : ByteArray} {own : String} {C : kC} {L : kL} {cells slots pc : Nat} {lo : List (Nat × Value)} {rest : List Value} {P : Option Value → kC → kL → Prop} {PX : String → Prop} {mc ms : Nat}

theorem k_iret (X : kX Γ E A cc own) {v : Int32} (hE : kEnd Γ E A P mc ms (some .int)) (hdg : decode cc pc = .ok (.ireturn, 1)) (hc : cells ≤ mc) (hs : slots ≤ ms) (hP : P (some (.int v)) C L) : kW Γ E A C L cells slots pc lo [.int v] := by
  obtain ⟨p, l, e, R, s, m, args, below, meth, c, Q, nL⟩ := Γ
  obtain ⟨hx, hb, hml, hown, hts, hAm, hlk, htr⟩ := X
  intro H locs ls hp hS hl
  exact W.widen hc hs (hE.2 _ _ _ (W.iret hx hb hE.1 (fun t ht hW => ⟨⟨_, C, L, rfl, hP, by rw [ht]; exact hp⟩, hS.F ht⟩) hS.2.2 hdg))
theorem k_vret (X : kX Γ E A cc own) (hE : kEnd Γ E A P mc ms none) (hdg : decode cc pc = .ok (.return_, 1)) (hc : cells ≤ mc) (hs : slots ≤ ms) (hP : P none C L) : kW Γ E A C L cells slots pc lo [] := by
  obtain ⟨p, l, e, R, s, m, args, below, meth, c, Q, nL⟩ := Γ
  obtain ⟨hx, hb, hml, hown, hts, hAm, hlk, htr⟩ := X
  intro H locs ls hp hS hl
  exact W.widen hc hs (hE.2 _ _ _ (W.vret hx hb hE.1 (fun t ht hW => ⟨⟨_, C, L, rfl, hP, by rw [ht]; exact hp⟩, hS.F ht⟩) hS.2.2 hdg))
theorem k_zret (X : kX Γ E A cc own) {v : Int32} (hE : kEnd Γ E A P mc ms (some .boolean)) (hn : narrow .boolean (.int v) = .int v) (hdg : decode cc pc = .ok (.ireturn, 1)) (hc : cells ≤ mc) (hs : slots ≤ ms) (hP : P (some (.int v)) C L) : kW Γ E A C L cells slots pc lo [.int v] := by
  obtain ⟨p, l, e, R, s, m, args, below, meth, c, Q, nL⟩ := Γ
  obtain ⟨hx, hb, hml, hown, hts, hAm, hlk, htr⟩ := X
  intro H locs ls hp hS hl
  exact W.widen hc hs (hE.2 _ _ _ (W.zret hx hb hE.1 hn (fun t ht hW => ⟨⟨_, C, L, rfl, hP, by rw [ht]; exact hp⟩, hS.F ht⟩) hS.2.2 hdg))
theorem k_aret (X : kX Γ E A cc own) {v : Value} {rt : FieldType} (hE : kEnd Γ E A P mc ms (some rt)) (hrt : (∃ n, rt = .object n) ∨ ∃ t, rt = .array t) (hv : v = .null ∨ ∃ a, v = .ref a) (hdg : decode cc pc = .ok (.areturn, 1)) (hc : cells ≤ mc) (hs : slots ≤ ms) (hP : P (some v) C L) : kW Γ E A C L cells slots pc lo [v] := by
  obtain ⟨p, l, e, R, s, m, args, below, meth, c, Q, nL⟩ := Γ
  obtain ⟨hx, hb, hml, hown, hts, hAm, hlk, htr⟩ := X
  intro H locs ls hp hS hl
  exact W.widen hc hs (hE.2 _ _ _ (W.aret hx hb hE.1 hrt hv (fun t ht hW => ⟨⟨_, C, L, rfl, hP, by rw [ht]; exact hp⟩, hS.F ht⟩) hS.2.2 hdg))
end KR3
section KR4
variable {p : Program} {l : Launch} {e : Env} {R : Room} {s : State} {m : MethodId} {args : Array Value} {below : List Frame} {meth : Method} {c : Code} {H : Heap} {locs : List Loc} {cells slots : Nat} {Q : State → Prop}
variable {E : kE} {A : Nat → Prop} {C : kC} {L : kL} {pc mc ms : Nat} {ls : Array Slot} {rest st0 : List Value} {P : Option Value → kC → kL → Prop} {PX : String → Prop} {a : Array Value}
theorem kt_keep {st₀ t T' : State} {L9 : List Loc} (h0 : st₀.heap = H) (e1 : T'.heap = t.heap) (hS : va_S A s.heap H locs) (hL : ∀ q ∈ L9, A q.base) (hF : va_F A st₀ t) : va_S A s.heap T'.heap (locs ++ L9) := by
  obtain ⟨hz, hk⟩ := hF
  rw [h0] at hz hk
  exact ⟨Nat.le_trans hS.1 (by rw [e1]; exact hz), fun q h1 h2 => by rw [e1, hk q (Nat.lt_of_lt_of_le h1 hS.1) h2]; exact hS.2.1 q h1 h2, fun q hq => by
      rcases List.mem_append.mp hq with h | h
      · exact hS.2.2 q h
      · exact hL q h⟩
theorem k_cont (hr : va_Run p l e R s m args below meth c H locs cells slots mc ms (F0 m pc ls st0) rest (kQc E A P a) A) (hS : va_S A s.heap H locs)
    (kk : ∀ (v : Option Value) (C' : kC) (L' : kL) (H1 : Heap) (locs1 : List Loc), P v C' L' → kp E A C' L' H1 → va_S A s.heap H1 locs1 → W p l e R s m args below meth c H1 locs1 (cells + mc) (slots + ms) Q (F0 m (pc + 3) ls (kpush v rest))) : W p l e R s m args below meth c H locs cells slots Q (F0 m pc ls st0) := by
  intro T hT X
  obtain ⟨v, st₀, t, T', L9, h0, X', hL, e1, e2, ⟨⟨v', C', L', hv, hp, hb⟩, hF⟩, st⟩ := hr T hT X
  cases hv
  obtain ⟨t2, a1, b1⟩ := kk v C' L' T'.heap (locs ++ L9) hp (by rw [e1]; exact hb) (kt_keep h0 e1 hS hL hF) T' rfl X'
  refine ⟨t2, st t2 ?_, b1⟩
  cases v <;> exact a1
theorem k_contX (hr : vx_Run p l e R s m args below meth c H locs cells slots mc ms (F0 m pc ls st0) rest (kQc E A P a) (kXc E A PX C L) A) (hS : va_S A s.heap H locs)
    (kx : ∀ (X9 : String) (ce : Cell) (q9 : Addr) (H1 : Heap) (locs1 : List Loc), PX X9 → kp E A C L H1 → va_S A s.heap H1 locs1 → H1[q9]? = some ce → ce.vm = .none → s.vm.findClass X9 = some ce.cls → vx_W p l e R s m args below meth c H1 locs1 (cells + mc) (slots + ms) Q (F0 m pc ls rest) q9)
    (kk : ∀ (v : Option Value) (C' : kC) (L' : kL) (H1 : Heap) (locs1 : List Loc), P v C' L' → kp E A C' L' H1 → va_S A s.heap H1 locs1 → W p l e R s m args below meth c H1 locs1 (cells + mc) (slots + ms) Q (F0 m (pc + 3) ls (kpush v rest))) : W p l e R s m args below meth c H locs cells slots Q (F0 m pc ls st0) := by
  intro T hT X
  rcases hr T hT X with ⟨v, st₀, t, T', L9, h0, X', hL, e1, e2, ⟨⟨v', C', L', hv, hp, hb⟩, hF⟩, st⟩ | ⟨q, st₀, t, T', L9, X9, ce, h0, X', hL, e1, e2, ⟨hpx, hkp, hF⟩, hce, hcv, hcl, st⟩
  · cases hv
    obtain ⟨t2, a1, b1⟩ := kk v C' L' T'.heap (locs ++ L9) hp (by rw [e1]; exact hb) (kt_keep h0 e1 hS hL hF) T' rfl X'
    refine ⟨t2, st t2 ?_, b1⟩
    cases v <;> exact a1
  · obtain ⟨t2, a1, b1⟩ := kx X9 ce q T'.heap (locs ++ L9) hpx (by rw [e1]; exact hkp) (kt_keep h0 e1 hS hL hF) (by rw [e1]; exact hce) hcv hcl T' rfl X'
    exact ⟨t2, st.trans a1, b1⟩
theorem kt_am {U : State} (hAm : kAm E A s) (hS : va_S A s.heap H locs) (hU : U.heap = H) (hW : s.WarmedH U.vm) : kAm E A U := by
  refine kAm.warm hW (by rw [hU]; exact hS.1) (fun q h1 h2 => by rw [hU]; exact hS.2.1 q h1 h2) hAm
end KR4
/-- the words that a call needs -/
def kV (y : MethodName) (cc : ByteArray) (n : Nat) (ret : Option FieldType) (na : Nat) : Prop := Cond.instanceMethod y ∈ wsL_law ∧ Cond.selects y.cls y y ∈ wsL_law ∧ Cond.initialized y.cls ∈ wsL_law ∧ Cond.code y cc n ret ∈ wsL_law ∧ y.cls ≠ "java/lang/invoke/MethodHandle" ∧ y.cls ≠ "java/lang/invoke/VarHandle" ∧ (parseMethodDescriptor y.desc).map (fun d => d.parameters.length) = some na
def kSt9 (y : MethodName) (cc : ByteArray) (n : Nat) (ret : Option FieldType) (na : Nat) : Prop := Cond.static y ∈ wsL_law ∧ Cond.initialized y.cls ∈ wsL_law ∧ Cond.code y cc n ret ∈ wsL_law ∧ y.cls ≠ "java/lang/invoke/MethodHandle" ∧ y.cls ≠ "java/lang/invoke/VarHandle" ∧ (parseMethodDescriptor y.desc).map (fun d => d.parameters.length) = some na
def kI (y : MethodName) (cc : ByteArray) (n : Nat) (na : Nat) : Prop := Cond.instanceMethod y ∈ wsL_law ∧ Cond.initialized y.cls ∈ wsL_law ∧ Cond.code y cc n none ∈ wsL_law ∧ y.name = "<init>" ∧ y.cls ≠ "java/lang/invoke/MethodHandle" ∧ y.cls ≠ "java/lang/invoke/VarHandle" ∧ (parseMethodDescriptor y.desc).map (fun d => d.parameters.length) = some na
theorem kV.good {own : String} {idx n na : Nat} {y : MethodName} {cc : ByteArray} {ret : Option FieldType} (h : kV y cc n ret na) (hl : Cond.methodLink own idx y ∈ wsL_law) : GoodIn wsL_law (wsV own idx y.cls y (.code y cc n ret :: wsL_law)) := by
  refine kGI fun w hw => ?_
  unfold wsV at hw
  rcases List.mem_append.mp hw with h9 | h9
  · simp only [List.mem_cons, List.not_mem_nil, or_false] at h9
    rcases h9 with e | e | e | e
    · rw [e]; exact hl
    · rw [e]; exact h.1
    · rw [e]; exact h.2.1
    · rw [e]; exact h.2.2.1
  · rcases List.mem_cons.mp h9 with e | e
    · rw [e]; exact h.2.2.2.1
    · exact e
theorem kSt9.good {own : String} {idx n na : Nat} {y : MethodName} {cc : ByteArray} {ret : Option FieldType} (h : kSt9 y cc n ret na) (hl : Cond.methodLink own idx y ∈ wsL_law) : GoodIn wsL_law (va_wsS own idx y (.code y cc n ret :: wsL_law)) := by
  refine kGI fun w hw => ?_
  unfold va_wsS at hw
  rcases List.mem_append.mp hw with h9 | h9
  · simp only [List.mem_cons, List.not_mem_nil, or_false] at h9
    rcases h9 with e | e | e
    · rw [e]; exact hl
    · rw [e]; exact h.1
    · rw [e]; exact h.2.1
  · rcases List.mem_cons.mp h9 with e | e
    · rw [e]; exact h.2.2.1
    · exact e
theorem kI.good {n na : Nat} {y : MethodName} {cc : ByteArray} (h : kI y cc n na) : GoodIn wsL_law (.code y cc n none :: wsL_law) := by
  refine kGI fun w hw => ?_
  rcases List.mem_cons.mp hw with e | e
  · rw [e]; exact h.2.2.1
  · exact e
section KR5
variable {Γ : kG} {E : kE} {A : Nat → Prop} {cc : ByteArray} {own : String} {C : kC} {L : kL} {cells slots pc : Nat} {lo : List (Nat × Value)} {rest : List Value} {P : Option Value → kC → kL → Prop} {PX : String → Prop} {mc ms : Nat}
variable {y : MethodName} {cy : ByteArray} {n9 na fr lw mc9 ms9 idx : Nat} {ret : Option FieldType} {av : List Value} {P9 : Option Value → kC → kL → Prop} {PX9 : String → Prop} {b : Nat} {st : List Value}
def kTr (Γ : kG) : Prop := Γ.2.1.stackTraces = false
theorem kX.tr (X : kX Γ E A cc own) : kTr Γ := by
  obtain ⟨p, l, e, R, s, m, args, below, meth, c, Q, nL⟩ := Γ
  obtain ⟨hx, hb, hml, hown, hts, hAm, hlk, htr⟩ := X
  exact htr
theorem k_callV (X : kX Γ E A cc own) (hv : kV y cy n9 ret na) (hlink : Cond.methodLink own idx y ∈ wsL_law) (hM : kM Γ.2.1 y cy n9 ret fr lw mc9 ms9 E A C L (.ref b :: av) P9) {t : kT} {ci : Nat} {vs : List Value} {r : vw_C} (hC : C t = some (.inr (ci, vs))) (hc9 : vwCl[ci]? = some r) (hcls : r.1 = y.cls) (hb9 : L t = b) (hna : av.length = na) (hst : av.reverse ++ .ref b :: rest = st) (hcat : (rest.map fun v => v.category).sum ≤ 8) (hR : fr + 1 ≤ (kRm Γ).frames ∧ 8 + (n9 + 11) + lw ≤ (kRm Γ).locals) (hf : cells + mc9 ≤ (kRm Γ).cells ∧ slots + ms9 ≤ (kRm Γ).slots) (hdg : decode cc pc = .ok (.invokevirtual idx, 3))
    (k9 : ∀ (v : Option Value) (C' : kC) (L' : kL), P9 v C' L' → kW Γ E A C' L' (cells + mc9) (slots + ms9) (pc + 3) lo (kpush v rest)) : kW Γ E A C L cells slots pc lo st := by
  obtain ⟨p, l, e, R, s, m, args, below, meth, c, Q, nL⟩ := Γ
  obtain ⟨hx, hb, hml, hown, hts, hAm, hlk, htr⟩ := X
  intro H locs ls hp hS hl
  subst hst
  subst hb9
  refine k_cont (va_runV ⟨hx, hb, hml, hown, hts⟩ hM (cwV na hts (hv.good hlink) rfl rfl rfl ⟨rfl, hv.2.2.2.2.1, hv.2.2.2.2.2.1, hv.2.2.2.2.2.2⟩ hR) ⟨kPc.blind, ?_, fun U hU hW => ⟨rfl, by rw [hU]; exact hp, kt_am hAm hS hU hW⟩⟩ rfl hna hl.1 rfl (lv_room hcat) hdg hf) hS (fun v C' L' H1 locs1 h1 h2 h3 => k9 v C' L' h1 H1 locs1 ls h2 h3 hl)
  rw [← hcls]
  exact va_recv hAm.1 (hp.P hC) (q0 := 0) hc9 rfl
theorem k_callS (X : kX Γ E A cc own) (hv : kSt9 y cy n9 ret na) (hlink : Cond.methodLink own idx y ∈ wsL_law) (hM : kM Γ.2.1 y cy n9 ret fr lw mc9 ms9 E A C L av P9) (hna : av.length = na) (hst : av.reverse ++ rest = st) (hcat : (rest.map fun v => v.category).sum ≤ 8) (hR : fr + 1 ≤ (kRm Γ).frames ∧ 8 + (n9 + 11) + lw ≤ (kRm Γ).locals) (hf : cells + mc9 ≤ (kRm Γ).cells ∧ slots + ms9 ≤ (kRm Γ).slots) (hdg : decode cc pc = .ok (.invokestatic idx, 3))
    (k9 : ∀ (v : Option Value) (C' : kC) (L' : kL), P9 v C' L' → kW Γ E A C' L' (cells + mc9) (slots + ms9) (pc + 3) lo (kpush v rest)) : kW Γ E A C L cells slots pc lo st := by
  obtain ⟨p, l, e, R, s, m, args, below, meth, c, Q, nL⟩ := Γ
  obtain ⟨hx, hb, hml, hown, hts, hAm, hlk, htr⟩ := X
  intro H locs ls hp hS hl
  subst hst
  exact k_cont (va_runS ⟨hx, hb, hml, hown, hts⟩ hM (va_cwS na hts (hv.good hlink) rfl rfl rfl ⟨hv.2.2.2.1, hv.2.2.2.2.1, hv.2.2.2.2.2⟩ hR) ⟨kPc.blind, fun U hU hW => ⟨rfl, by rw [hU]; exact hp, kt_am hAm hS hU hW⟩⟩ rfl hna hl.1 rfl (lv_room hcat) hdg hf) hS (fun v C' L' H1 locs1 h1 h2 h3 => k9 v C' L' h1 H1 locs1 ls h2 h3 hl)
theorem k_callI (X : kX Γ E A cc own) (hv : kI y cy n9 na) (hlink : Cond.methodLink own idx y ∈ wsL_law) (hM : kM Γ.2.1 y cy n9 none fr lw mc9 ms9 E A C L (.ref b :: av) P9) (hna : av.length = na) (hst : av.reverse ++ .ref b :: rest = st) (hcat : (rest.map fun v => v.category).sum ≤ 8) (hR : fr + 1 ≤ (kRm Γ).frames ∧ 8 + (n9 + 11) + lw ≤ (kRm Γ).locals) (hf : cells + mc9 ≤ (kRm Γ).cells ∧ slots + ms9 ≤ (kRm Γ).slots) (hdg : decode cc pc = .ok (.invokespecial idx, 3))
    (k9 : ∀ (v : Option Value) (C' : kC) (L' : kL), P9 v C' L' → kW Γ E A C' L' (cells + mc9) (slots + ms9) (pc + 3) lo (kpush v rest)) : kW Γ E A C L cells slots pc lo st := by
  obtain ⟨p, l, e, R, s, m, args, below, meth, c, Q, nL⟩ := Γ
  obtain ⟨hx, hb, hml, hown, hts, hAm, hlk, htr⟩ := X
  intro H locs ls hp hS hl
  subst hst
  exact k_cont (va_runI ⟨hx, hb, hml, hown, hts⟩ hM (cwI na hts hv.good rfl rfl rfl (hts _ hv.2.1) (hts _ hlink) (hts _ hv.1) hv.2.2.2.1 ⟨hv.2.2.2.2.1, hv.2.2.2.2.2.1, hv.2.2.2.2.2.2⟩ hR) ⟨kPc.blind, fun U hU hW => ⟨rfl, by rw [hU]; exact hp, kt_am hAm hS hU hW⟩⟩ rfl hna hl.1 rfl (lv_room hcat) hdg hf) hS (fun v C' L' H1 locs1 h1 h2 h3 => k9 v C' L' h1 H1 locs1 ls h2 h3 hl)
/-- a constructor of a nest mate's -/
theorem k_callIN (X : kX Γ E A cc own) (hv : kI y cy n9 na) {host : String} (hlink : (own, idx, y, host) ∈ kNst) (hM : kM Γ.2.1 y cy n9 none fr lw mc9 ms9 E A C L (.ref b :: av) P9) (hna : av.length = na) (hst : av.reverse ++ .ref b :: rest = st) (hcat : (rest.map fun v => v.category).sum ≤ 8) (hR : fr + 1 ≤ (kRm Γ).frames ∧ 8 + (n9 + 11) + lw ≤ (kRm Γ).locals) (hf : cells + mc9 ≤ (kRm Γ).cells ∧ slots + ms9 ≤ (kRm Γ).slots) (hdg : decode cc pc = .ok (.invokespecial idx, 3))
    (k9 : ∀ (v : Option Value) (C' : kC) (L' : kL), P9 v C' L' → kW Γ E A C' L' (cells + mc9) (slots + ms9) (pc + 3) lo (kpush v rest)) : kW Γ E A C L cells slots pc lo st := by
  obtain ⟨p, l, e, R, s, m, args, below, meth, c, Q, nL⟩ := Γ
  obtain ⟨hx, hb, hml, hown, hts, hAm, hlk, htr⟩ := X
  intro H locs ls hp hS hl
  subst hst
  have hNl : va_Nw (.methodLinkNest own idx y host) s := hAm.2.2.2.2.2.2.2.1 _ hlink
  exact k_cont (va_runIN ⟨hx, hb, hml, hown, hts⟩ hM ⟨va_cnB na hts hv.good rfl rfl rfl hNl (hts _ hv.2.1) ⟨hv.2.2.2.2.1, hv.2.2.2.2.2.1, hv.2.2.2.2.2.2⟩ hR, hv.2.2.2.1, hts _ hv.1⟩ ⟨kPc.blind, fun U hU hW => ⟨rfl, by rw [hU]; exact hp, kt_am hAm hS hU hW⟩⟩ rfl hna hl.1 rfl (lv_room hcat) hdg hf) hS (fun v C' L' H1 locs1 h1 h2 h3 => k9 v C' L' h1 H1 locs1 ls h2 h3 hl)
/-- calls that may throw, in a method without handlers: it goes on to the caller, all as it was at the entry -/
theorem k_callVX (X : kX Γ E A cc own) {C0 : kC} {L0 : kL} (hT : kThr Γ E A PX C0 L0 mc ms) (hv : kV y cy n9 ret na) (hlink : Cond.methodLink own idx y ∈ wsL_law) (hM : kMX Γ.2.1 y cy n9 ret fr lw mc9 ms9 E A C L (.ref b :: av) P9 PX9) (hPX : ∀ X9, PX9 X9 → PX X9 ∧ C0 = C ∧ L0 = L) {t : kT} {ci : Nat} {vs : List Value} {r : vw_C} (hC : C t = some (.inr (ci, vs))) (hc9 : vwCl[ci]? = some r) (hcls : r.1 = y.cls) (hb9 : L t = b) (hna : av.length = na) (hst : av.reverse ++ .ref b :: rest = st) (hcat : (rest.map fun v => v.category).sum ≤ 8) (hR : fr + 1 ≤ (kRm Γ).frames ∧ 8 + (n9 + 11) + lw ≤ (kRm Γ).locals) (hf : cells + mc9 ≤ (kRm Γ).cells ∧ slots + ms9 ≤ (kRm Γ).slots) (hm : cells + mc9 ≤ mc ∧ slots + ms9 ≤ ms) (hdg : decode cc pc = .ok (.invokevirtual idx, 3))
    (k9 : ∀ (v : Option Value) (C' : kC) (L' : kL), P9 v C' L' → kW Γ E A C' L' (cells + mc9) (slots + ms9) (pc + 3) lo (kpush v rest)) : kW Γ E A C L cells slots pc lo st := by
  obtain ⟨p, l, e, R, s, m, args, below, meth, c, Q, nL⟩ := Γ
  obtain ⟨hx, hb, hml, hown, hts, hAm, hlk, htr⟩ := X
  obtain ⟨hnt, P8, hQ⟩ := hT
  intro H locs ls hp hS hl
  subst hst
  subst hb9
  refine k_contX (vx_runV ⟨hx, hb, hml, hown, hts⟩ hM (cwV na hts (hv.good hlink) rfl rfl rfl ⟨rfl, hv.2.2.2.2.1, hv.2.2.2.2.2.1, hv.2.2.2.2.2.2⟩ hR) ⟨kPc.blind, ?_, fun U hU hW => ⟨rfl, by rw [hU]; exact hp, kt_am hAm hS hU hW⟩⟩ rfl hna hl.1 rfl (lv_room hcat) hdg hf) hS (fun X9 ce q9 H1 locs1 h1 h2 h3 h4 h5 h6 => ?_) (fun v C' L' H1 locs1 h1 h2 h3 => k9 v C' L' h1 H1 locs1 ls h2 h3 hl)
  · rw [← hcls]
    exact va_recv hAm.1 (hp.P hC) (q0 := 0) hc9 rfl
  · obtain ⟨g1, g2, g3⟩ := hPX X9 h1
    subst g2; subst g3; subst hQ
    exact vx_out (fun x hx => (hnt x hx).elim) hlk h4 h5 h6 (fun t ht hal => ⟨g1, by rw [ht]; exact h2, h3.F ht⟩) h3.2.2 hm.1 hm.2
theorem k_callSX (X : kX Γ E A cc own) {C0 : kC} {L0 : kL} (hT : kThr Γ E A PX C0 L0 mc ms) (hv : kSt9 y cy n9 ret na) (hlink : Cond.methodLink own idx y ∈ wsL_law) (hM : kMX Γ.2.1 y cy n9 ret fr lw mc9 ms9 E A C L av P9 PX9) (hPX : ∀ X9, PX9 X9 → PX X9 ∧ C0 = C ∧ L0 = L) (hna : av.length = na) (hst : av.reverse ++ rest = st) (hcat : (rest.map fun v => v.category).sum ≤ 8) (hR : fr + 1 ≤ (kRm Γ).frames ∧ 8 + (n9 + 11) + lw ≤ (kRm Γ).locals) (hf : cells + mc9 ≤ (kRm Γ).cells ∧ slots + ms9 ≤ (kRm Γ).slots) (hm : cells + mc9 ≤ mc ∧ slots + ms9 ≤ ms) (hdg : decode cc pc = .ok (.invokestatic idx, 3))
    (k9 : ∀ (v : Option Value) (C' : kC) (L' : kL), P9 v C' L' → kW Γ E A C' L' (cells + mc9) (slots + ms9) (pc + 3) lo (kpush v rest)) : kW Γ E A C L cells slots pc lo st := by
  obtain ⟨p, l, e, R, s, m, args, below, meth, c, Q, nL⟩ := Γ
  obtain ⟨hx, hb, hml, hown, hts, hAm, hlk, htr⟩ := X
  obtain ⟨hnt, P8, hQ⟩ := hT
  intro H locs ls hp hS hl
  subst hst
  refine k_contX (vx_runS ⟨hx, hb, hml, hown, hts⟩ hM (va_cwS na hts (hv.good hlink) rfl rfl rfl ⟨hv.2.2.2.1, hv.2.2.2.2.1, hv.2.2.2.2.2⟩ hR) ⟨kPc.blind, fun U hU hW => ⟨rfl, by rw [hU]; exact hp, kt_am hAm hS hU hW⟩⟩ rfl hna hl.1 rfl (lv_room hcat) hdg hf) hS (fun X9 ce q9 H1 locs1 h1 h2 h3 h4 h5 h6 => ?_) (fun v C' L' H1 locs1 h1 h2 h3 => k9 v C' L' h1 H1 locs1 ls h2 h3 hl)
  obtain ⟨g1, g2, g3⟩ := hPX X9 h1
  subst g2; subst g3; subst hQ
  exact vx_out (fun x hx => (hnt x hx).elim) hlk h4 h5 h6 (fun t ht hal => ⟨g1, by rw [ht]; exact h2, h3.F ht⟩) h3.2.2 hm.1 hm.2
/-- throw new E("..") -/
theorem k_throw (X : kX Γ E A cc RX5) (hT : kThr Γ E A PX C L mc ms) {cls text : String} {ik is ic : Nat} (hcls : Bundle.fit cls = true) (hk : Cond.classLink RX5 ik cls ∈ wsL_law) (hini : Cond.initialized cls ∈ wsL_law) (hstr : (is, text) ∈ kStr) (hat : ∀ w ∈ (vx_atS RX5 ic cls ["java/lang/RuntimeException", "java/lang/Exception"]).filter goodWord, w ∈ wsL_law) (hbad : ∀ w ∈ (vx_atS RX5 ic cls ["java/lang/RuntimeException", "java/lang/Exception"]).filter (fun w => !goodWord w), w ∈ [Cond.castable cls cls, .declares (Bundle.initS "java/lang/RuntimeException"), .declares (Bundle.initS "java/lang/Exception"), .declares (Bundle.initS "java/lang/Throwable")]) (hcas : (cls, cls) ∈ kCas)
    (hgood : ∀ w ∈ Cond.classLink RX5 ik cls :: Cond.initialized cls :: vx_atS RX5 ic cls ["java/lang/RuntimeException", "java/lang/Exception"], vx_ot w = true) (hPX : PX cls)
    (d0 : decode cc pc = .ok (.new ik, 3)) (d3 : decode cc (pc + 3) = .ok (.dup, 1)) (d4 : decode cc (pc + 4) = .ok (.ldc is, 2)) (d6 : decode cc (pc + 6) = .ok (.invokespecial ic, 3)) (d9 : decode cc (pc + 9) = .ok (.athrow, 1))
    (hRf : 5 < (kRm Γ).frames) (hRl : (rest.map fun v => v.category).sum + 82 ≤ (kRm Γ).locals) (hRc : cells + 1 ≤ (kRm Γ).cells) (hRs : slots + 6 ≤ (kRm Γ).slots) (hc : cells + 1 ≤ mc) (hs : slots + 6 ≤ ms) : kW Γ E A C L cells slots pc lo rest := by
  obtain ⟨p, l, e, R, s, m, args, below, meth, c, Q, nL⟩ := Γ
  obtain ⟨hx, hb, hml, hown, hts, hAm, hlk, htr⟩ := X
  obtain ⟨hnt, P8, hQ⟩ := hT
  intro H locs ls hp hS hl
  subst hQ
  obtain ⟨sa, hsa⟩ := hAm.2.2.2.2.1 _ hstr
  have hD := hAm.2.2.2.2.2.2.2.2.2
  have hca : ∀ w ∈ [Cond.castable cls cls, .declares (Bundle.initS "java/lang/RuntimeException"), .declares (Bundle.initS "java/lang/Exception"), .declares (Bundle.initS "java/lang/Throwable")], w.before args s = true := vx_c (va_Nw.use rfl (hAm.2.2.2.2.2.2.1 _ hcas)) (vx_c (va_Nw.use rfl (hD "java/lang/RuntimeException" (by simp [kDcl]))) (vx_c (va_Nw.use rfl (hD "java/lang/Exception" (by simp [kDcl]))) (vx_c (va_Nw.use rfl (hD "java/lang/Throwable" (by simp [kDcl]))) vx_n)))
  exact vx_throwS (names := ["java/lang/RuntimeException", "java/lang/Exception"]) hx hb htr hown hcls (fun n hn => by
    simp only [List.mem_cons, List.not_mem_nil, or_false] at hn
    rcases hn with e | e <;> rw [e] <;> decide +kernel) (hts _ hk) (hts _ hini) hsa (vx_hat (fun w hw => hts w (hat w hw)) hbad hca) hgood hAm.2.2.1.1 hAm.2.2.1.2 hS (hl.1.trans hml.symm) d0 d3 d4 d6 d9 (fun x hx => (hnt x hx).elim) hRf hRl hRc hRs hlk
    (fun t hal hz hq => ⟨hPX, hp.kept hq, ⟨Nat.le_trans hS.1 hz, fun q h1 h2 => (hq q (Nat.lt_of_lt_of_le h1 hS.1)).trans (hS.2.1 q h1 h2)⟩⟩) hS.2.2 hc hs
end KR5
/-! the entry -/
theorem kM.of {l : Launch} {y : MethodName} {cc : ByteArray} {n : Nat} {ret : Option FieldType} {fr lw mc ms : Nat} {E : kE} {A : Nat → Prop} {C : kC} {L : kL} {av : List Value} {P : Option Value → kC → kL → Prop} (htr : l.stackTraces = false) (hy : plainName y.cls = true) (hlen : (lg_sl av).length ≤ n)
    (body : ∀ Γ : kG, Γ.2.1 = l → kRm Γ = ({ frames := fr, cells := mc, slots := ms, locals := lw } : Room) → kNl Γ = n → (kMe Γ).name = y.name → kX Γ E A cc y.cls → kEnd Γ E A P mc ms ret → kW Γ E A C L 0 0 0 (lv_args 0 av) []) : kM l y cc n ret fr lw mc ms E A C L av P := by
  refine Met.ofW (cc := cc) (maxL := n) (ret := ret) hy rfl ?_
  intro p e s m args below meth c s₁ B hml hv
  obtain ⟨rfl, hp, hAm⟩ := hv
  have hts := atoms_spec (ws := .code y cc n ret :: wsL_law) B.pre
  have h9 := body (p, l, e, _, s, m, av.toArray, below, meth, c, _, n) rfl rfl rfl (name_of_methodNamed B.named B.method).1 ⟨B.exec, B.bytes, hml, findClass_of_methodNamed B.named, fun w hw => hts w (List.mem_cons_of_mem _ hw), hAm, B.notSynchronized, htr⟩ ⟨B.returns, fun H locs g k => k⟩
  rw [lg_entry_eq]
  exact h9 s.heap [] _ hp va_S.rf (lv_entry av hlen)
theorem kMX.of {l : Launch} {y : MethodName} {cc : ByteArray} {n : Nat} {ret : Option FieldType} {fr lw mc ms : Nat} {E : kE} {A : Nat → Prop} {C : kC} {L : kL} {av : List Value} {P : Option Value → kC → kL → Prop} {PX : String → Prop} (htr : l.stackTraces = false) (hy : plainName y.cls = true) (hlen : (lg_sl av).length ≤ n)
    (body : ∀ Γ : kG, Γ.2.1 = l → kRm Γ = ({ frames := fr, cells := mc, slots := ms, locals := lw } : Room) → kNl Γ = n → kX Γ E A cc y.cls → kEnd Γ E A P mc ms ret → kThr Γ E A PX C L mc ms → kW Γ E A C L 0 0 0 (lv_args 0 av) []) : kMX l y cc n ret fr lw mc ms E A C L av P PX := by
  refine vx_ofW (cc := cc) (maxL := n) (ret := ret) hy rfl ?_
  intro p e s m args below meth c s₁ B hml hnt hv
  obtain ⟨rfl, hp, hAm⟩ := hv
  have hts := atoms_spec (ws := .code y cc n ret :: wsL_law) B.pre
  have h9 := body (p, l, e, _, s, m, av.toArray, below, meth, c, _, n) rfl rfl rfl ⟨B.exec, B.bytes, hml, findClass_of_methodNamed B.named, fun w hw => hts w (List.mem_cons_of_mem _ hw), hAm, B.notSynchronized, htr⟩ ⟨B.returns, fun H locs g k => vx_ret k⟩ ⟨hnt, P, rfl⟩
  rw [lg_entry_eq]
  exact h9 s.heap [] _ hp va_S.rf (lv_entry av hlen)