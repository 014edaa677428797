/-! THE CLAIM OUT OF ONE WALK OF THE LAW'S BODY. Your part is whole_start (and what it stands on); all else here is the same for every law, but numbers. -/
def R_law : String := "FieldStoreLaw"
def lw_P (b : Addr) (xs : List Int32) (args : Array Value) (s : State) : Prop := args = #[.ref b] ∧ s.IntsAt b xs ∧ xs.length ≤ 260 ∧ (Jvm.Cond.and given_1 narrow_1).before args s = true
def lw_Q (_ : Array Value) (s : State) (o : Outcome) (t : State) : Prop := o = .returned (some (.int 1)) ∧ Framed s o t [] 755171 6836111
def lw_Z (below : List Frame) (a : Array Value) (s : State) : State → Prop := fun t => ∃ o, t.status = .running ∧ Ended t below o ∧ lw_Q a s o t
/-- the law's own end, with 1 on the stack, nothing written that was there before, its room as the claim has it -/
theorem lw_ret {p : Program} {l : Launch} {e : Env} {s : State} {m : MethodId} {below : List Frame} {meth : Method} {c : Code} {b : Nat} (hx : p.tables.exec = Jvm.exec) (hb : c.code = code) (hr : meth.sig.returnType = ret) (hlocks : meth.locks = false) {pc : Nat} {H : Heap} {ls : Array Slot} (hdg : decode code pc = .ok (.ireturn, 1)) : W p l e room_1 s m #[Value.ref b] below meth c H [] 755171 6836111 (lw_Z below #[Value.ref b] s) (F0 m pc ls [.int 1]) := by
  intro T hT X
  obtain ⟨fs, hret, hrun, hended, hW, hframe⟩ := X.leave (v := some (.int 1)) (hlocks := hlocks) (fun h => by rw [hr] at h; cases h)
  have hmeth' : T.vm.method? m = some meth := X.method'
  refine ⟨T.setFrames fs, ?_, .returned (some (.int 1)), hrun, hended, rfl, ⟨_, rfl⟩, hW, hframe⟩
  jvm_step X.here [X.here.top, hx, hb, hdg, hmeth', hr, ret, narrow_b1]
  (try refine ⟨rfl, ?_⟩); (try refine ⟨rfl, ?_⟩)
  first | (intro acts; rw [hret _ acts rfl rfl rfl]) | rw [hret _ _ rfl rfl rfl]
  exact Steps.refl _
/-- what holds at the law's entry: the machine, the code, the tables' words (any of lw_tbl by 'hts w (by decide +kernel)'), the script of L ints xs at the cell b, what the Statement gives of the start (any of its parts by flat_of_before) -/
def lw_At (p : Program) (s : State) (m : MethodId) (meth : Method) (c : Code) (b L : Nat) (xs : Nat → Int32) : Prop :=
  p.tables.exec = Jvm.exec ∧ c.code = code ∧ meth.sig.returnType = ret ∧ c.maxLocals = 10 ∧ s.vm.findClass R_law = some m.cls ∧ (∀ w ∈ lw_tbl, w.before #[Value.ref b] s = true) ∧ va_X b L xs s s.heap ∧ b < s.heap.size ∧ meth.locks = false ∧ (Jvm.Cond.and given_1 narrow_1).before #[Value.ref b] s = true
theorem kLRq {x q : Nat} (e : x = q) : (some (.ref q) : Option Value) = some (.ref x) := by rw [e]
theorem start_inv : kOk S00 N00 0 0 := by
  refine ⟨⟨by decide, fun i hi => absurd hi (Nat.not_lt_zero i), fun d hd => ⟨⟨10, by decide, rfl⟩, ⟨fun n hn => Or.inl rfl, ?_⟩, ⟨fun k hk => absurd hk (Nat.not_lt_zero k), rfl⟩, ⟨Nat.le_refl 0, Nat.le_refl 0, fun j hj => absurd hj (Nat.not_lt_zero j), fun j j' hj => absurd hj (Nat.not_lt_zero j), fun k hk => absurd hk (Nat.not_lt_zero k)⟩, ⟨Nat.le_refl 0, fun i hi => absurd hi (Nat.not_lt_zero i)⟩⟩⟩, ⟨by decide, fun d hd => ⟨Nat.zero_le 512, Nat.zero_le 512, Nat.le_refl 0, Nat.zero_le 512, fun i hi => absurd hi (Nat.not_lt_zero i)⟩⟩, rfl, fun d hd => Nat.le_refl 0⟩
  rw [kcn_0 (f := kCq (S00 5 d)) (n := 40) (fun k hk => if_pos rfl)]
  rfl
set_option maxHeartbeats 4000000 in
set_option maxRecDepth 100000 in
theorem law_body {Γ : kG} {E : kE} {A : Nat → Prop} {b n : Nat} {xs : Nat → Int32} (Kc : kLc Γ E A b n xs) : kW Γ E A (fun _ => none) (fun _ => 0) 0 0 0 (lv_args 0 [.ref b]) [] := by
  have Kc2 := Kc
  obtain ⟨X, hN, hR, hsc, hn, rt⟩ := Kc2
  refine k_lo (lo' := [(0, .ref b)]) ⟨rfl, trivial⟩ ?_
  refine k_new0 X (1, 0, 0) (ci := 6) (q := (RX5, TX5, 3)) rfl inlX5 tyX5 tyX5_ok kb_0 kb_1 kb_2 (fs := [.null, .null, .int 0]) (fun j hj => by rcases (show j = 0 ∨ j = 1 ∨ j = 2 from by have : j < 3 := hj; omega) with rfl | rfl | rfl <;> rfl) dL_law_0 (by rw [hR]; exact Nat.le_of_ble_eq_true rfl) (by rw [hR]; exact Nat.le_of_ble_eq_true rfl) (fun q1 => ?_)
  refine k_dup X dL_law_3 rfl ?_
  refine k_callI (rest := [.ref q1]) X ki_X5_init kb_4 (c_X5_init X.tr (q0 := q1) kup_s kup_s (kupL (by decide))) rfl rfl (Nat.le_of_ble_eq_true rfl) ⟨by rw [hR]; exact Nat.le_of_ble_eq_true rfl, by rw [hR]; exact Nat.le_of_ble_eq_true rfl⟩ ⟨by rw [hR]; exact Nat.le_of_ble_eq_true rfl, by rw [hR]; exact Nat.le_of_ble_eq_true rfl⟩ dL_law_4 (fun v C1 L1 h9 => ?_)
  obtain ⟨rfl, hX1, hF1, hL1⟩ := h9
  rw [kup_s] at hL1
  refine k_astore_n X dL_law_7 rfl (by rw [hN]; decide) ?_
  refine k_new0 X (101, 0, 0) (ci := 6) (q := (RX5, TX5, 3)) rfl inlX5 tyX5 tyX5_ok kb_0 kb_1 kb_2 (fs := [.null, .null, .int 0]) (fun j hj => by rcases (show j = 0 ∨ j = 1 ∨ j = 2 from by have : j < 3 := hj; omega) with rfl | rfl | rfl <;> rfl) dL_law_8 (by rw [hR]; exact Nat.le_of_ble_eq_true rfl) (by rw [hR]; exact Nat.le_of_ble_eq_true rfl) (fun q101 => ?_)
  refine k_dup X dL_law_11 rfl ?_
  have n160 : C1 (160, 0, 0) = none := (hF1 (160, 0, 0) (show 30 ≤ 160 by decide)).1.trans (kupL (by decide))
  refine k_callI (rest := [.ref q101]) X ki_X5_init kb_4 (c_X5_init X.tr (C := kq (kup C1 (101, 0, 0) (some (.inr (6, [.null, .null, .int 0]))))) (L := kq (kup L1 (101, 0, 0) q101)) (q0 := q101) (show kup L1 (101, 0, 0) q101 (101, 0, 0) = q101 from kup_s) (show kup C1 (101, 0, 0) _ (101, 0, 0) = _ from kup_s) (show kup C1 (101, 0, 0) _ (160, 0, 0) = none from (kupL (by decide)).trans n160)).q rfl rfl (Nat.le_of_ble_eq_true rfl) ⟨by rw [hR]; exact Nat.le_of_ble_eq_true rfl, by rw [hR]; exact Nat.le_of_ble_eq_true rfl⟩ ⟨by rw [hR]; exact Nat.le_of_ble_eq_true rfl, by rw [hR]; exact Nat.le_of_ble_eq_true rfl⟩ dL_law_12 (fun v C2 L2 h9 => ?_)
  obtain ⟨rfl, hY2, hF2, hL2⟩ := h9
  have hL3 : L2 (101, 0, 0) = q101 := hL2.trans (show kup L1 (101, 0, 0) q101 (101, 0, 0) = q101 from kup_s)
  have hX2 : isX E C2 L2 S00 N00 := isX.keepA (C := kup C1 (101, 0, 0) (some (.inr (6, [.null, .null, .int 0])))) (L := kup L1 (101, 0, 0) q101) (hX1.low (fun t ht => ⟨kupL (by omega), kupL (by omega)⟩)) hF2
  have hq2 := hF2.q200
  have hL4 : L2 (1, 0, 0) = q1 := hq2.2.trans ((kupL (by decide)).trans hL1)
  refine k_astore_n X dL_law_15 rfl (by rw [hN]; decide) ?_
  refine k_iconst (v := nI 4) X dL_law_16 (by decide) ?_
  refine k_newi X (200, 0, 0) 4 kb_3 (by decide) (by decide) (by decide) dL_law_17 (by rw [hR]; exact Nat.le_of_ble_eq_true rfl) (by rw [hR]; exact Nat.le_of_ble_eq_true rfl) (fun q200 => ?_)
  refine k_astore_n X dL_law_19 rfl (by rw [hN]; decide) ?_
  refine k_iconst (v := nI 0) X dL_law_20 (by decide) ?_
  refine k_istore X dL_law_21 (by rw [hN]; decide) ?_
  refine k_bipush (v := nI 16) X dL_law_23 (by decide) ?_
  refine k_aload_n X dL_law_25 rfl rfl ?_
  refine k_iconst (v := nI 0) X dL_law_26 (by decide) ?_
  refine k_callD X hsc hn (k := 0) (by decide) (Nat.le_of_ble_eq_true rfl) ⟨by rw [hR]; exact Nat.le_of_ble_eq_true rfl, by rw [hR]; exact Nat.le_of_ble_eq_true rfl⟩ ⟨by rw [hR]; exact Nat.le_of_ble_eq_true rfl, by rw [hR]; exact Nat.le_of_ble_eq_true rfl⟩ dL_law_27 (fun z hz => ?_)
  refine k_bipush (v := nI 35) X dL_law_30 (by decide) ?_
  refine k_iremN X hz (by decide) (by decide) dL_law_32 ?_
  refine k_iaddN X dL_law_33 ?_
  obtain ⟨th, eth, hth⟩ : ∃ th, 16 + z % 35 = th ∧ th ≤ 50 := ⟨_, rfl, by have := Nat.mod_lt z (show 0 < 35 by decide); omega⟩
  refine k_rw (y := nI th) (congrArg nI eth) ?_
  refine k_istore X dL_law_34 (by rw [hN]; decide) ?_
  refine k_iconst (v := nI 1) X dL_law_36 (by decide) ?_
  refine k_istore X dL_law_37 (by rw [hN]; decide) ?_
  refine k_iconst (v := nI 0) X dL_law_39 (by decide) ?_
  refine k_istore X dL_law_40 (by rw [hN]; decide) ?_
  have e1 : kup L2 (200, 0, 0) q200 (1, 0, 0) = q1 := (kupL (by decide)).trans hL4
  have e101 : kup L2 (200, 0, 0) q200 (101, 0, 0) = q101 := (kupL (by decide)).trans hL3
  have e200 : kup L2 (200, 0, 0) q200 (200, 0, 0) = q200 := kup_s
  refine k_lo (lo' := [(0, .ref b), (1, .ref (kup L2 (200, 0, 0) q200 (1, 0, 0))), (2, .ref (kup L2 (200, 0, 0) q200 (101, 0, 0))), (3, .ref (kup L2 (200, 0, 0) q200 (200, 0, 0))), (4, .int (nI (kA3 N00))), (5, .int (nI th)), (6, .int (nI 1)), (7, .int (nI 0))]) ⟨rfl, kLRq e1, kLRq e101, kLRq e200, rfl, rfl, rfl, rfl, trivial⟩ ?_
  refine la_42 Kc hth th 0 _ _ S00 N00 (fun _ => 0) _ _ (Nat.zero_add th) ⟨hX2.low (fun t ht => ⟨kupL (by omega), kupL (by omega)⟩), hY2.low (fun t ht => ⟨?_, ?_⟩), kup_s, fun d hd => rfl, start_inv⟩ (by first | omega | exact Nat.le_of_ble_eq_true rfl) (by first | omega | exact Nat.le_of_ble_eq_true rfl)
  · show kup C2 (200, 0, 0) _ (kr t.1, t.2) = C2 (kr t.1, t.2)
    exact kupL (by show kr t.1 ≠ 200; rw [kr_lo (by omega)]; omega)
  · show kup L2 (200, 0, 0) _ (kr t.1, t.2) = L2 (kr t.1, t.2)
    exact kupL (by show kr t.1 ≠ 200; rw [kr_lo (by omega)]; omega)
theorem kflags {l : Launch} (h : l.flags = flags0) : l.stackTraces = false := by
  unfold Launch.stackTraces
  rw [h]
  decide +kernel
set_option maxRecDepth 100000 in
theorem whole_start {p : Program} {e : Env} {s : State} {m : MethodId} {below : List Frame} {meth : Method} {c : Code} (l : Launch) (hflags : l.flags = flags0) {b L : Nat} {xs : Nat → Int32} (hL : L ≤ 260) (C0 : lw_At p s m meth c b L xs) : W p l e room_1 s m #[Value.ref b] below meth c s.heap [] 0 0 (lw_Z below #[Value.ref b] s) (entryFrame m ([Value.ref b] : List Value).toArray 10) := by
  obtain ⟨hx, hb, hr, hml, hown, hts, hX, hbl, hlocks, hgv⟩ := C0
  obtain ⟨E, hAm⟩ := law_am hts hgv
  have hbA : ¬ (fun q : Nat => s.heap.size ≤ q) b := Nat.not_le.mpr hbl
  have X : kX (p, l, e, room_1, s, m, #[Value.ref b], below, meth, c, lw_Z below #[Value.ref b] s, 10) E (fun q : Nat => s.heap.size ≤ q) cL_law RL := ⟨hx, hb, hml, hown, fun w hw => hts w (wsL_law_in w hw), hAm, hlocks, kflags hflags⟩
  have K : kLc (p, l, e, room_1, s, m, #[Value.ref b], below, meth, c, lw_Z below #[Value.ref b] s, 10) E (fun q : Nat => s.heap.size ≤ q) b L xs := by
    refine ⟨X, rfl, rfl, ⟨hX, hbl, hbA⟩, by omega, fun C9 L9 cells slots pc lo hc hs hdg => ?_⟩
    intro H locs ls hp hS hl
    refine va_forget (fun q hq => hS.2.2 q hq) ?_
    exact W.widen hc hs (lw_ret hx hb hr hlocks hdg)
  have hp0 : kp E (fun q : Nat => s.heap.size ≤ q) (fun _ => none) (fun _ => 0) s.heap := ⟨fun t e9 h => (by cases h), fun t u e9 f h => (by cases h)⟩
  rw [lg_entry_eq]
  exact law_body K s.heap [] _ hp0 va_S.rf (lv_entry [.ref b] (Nat.le_of_ble_eq_true rfl))
