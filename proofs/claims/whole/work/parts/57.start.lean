/-! THE CLAIM OUT OF ONE WALK OF THE LAW'S BODY. Your part is whole_start (and what it stands on); all else here is the same for every law, but numbers. -/
def R_law : String := "FieldStoreLaw"
def lw_P (b : Addr) (xs : List Int32) (args : Array Value) (s : State) : Prop := args = #[.ref b] ∧ s.IntsAt b xs ∧ xs.length ≤ 2560 ∧ (Jvm.Cond.and given_1 narrow_1).before args s = true
def lw_Q (_ : Array Value) (s : State) (o : Outcome) (t : State) : Prop := o = .returned (some (.int 1)) ∧ Framed s o t [] 601024 7293034
def lw_Z (below : List Frame) (a : Array Value) (s : State) : State → Prop := fun t => ∃ o, t.status = .running ∧ Ended t below o ∧ lw_Q a s o t
/-- the law's own end, with 1 on the stack, nothing written that was there before, its room as the claim has it -/
theorem lw_ret {p : Program} {l : Launch} {e : Env} {s : State} {m : MethodId} {below : List Frame} {meth : Method} {c : Code} {b : Nat} (hx : p.tables.exec = Jvm.exec) (hb : c.code = code) (hr : meth.sig.returnType = ret) (hlocks : meth.locks = false) {pc : Nat} {H : Heap} {ls : Array Slot} (hdg : decode code pc = .ok (.ireturn, 1)) : W p l e room_1 s m #[Value.ref b] below meth c H [] 601024 7293034 (lw_Z below #[Value.ref b] s) (F0 m pc ls [.int 1]) := by
  intro T hT X
  obtain ⟨fs, hret, hrun, hended, hW, hframe⟩ := X.leave (v := some (.int 1)) (hlocks := hlocks) (fun h => by rw [hr] at h; cases h)
  have hmeth' : T.vm.method? m = some meth := X.method'
  refine ⟨T.setFrames fs, ?_, .returned (some (.int 1)), hrun, hended, rfl, ⟨_, rfl⟩, hW, hframe⟩
  jvm_step X.here [X.here.top, hx, hb, hdg, hmeth', hr, ret, narrow_b1]
  (try refine ⟨rfl, ?_⟩); (try refine ⟨rfl, ?_⟩)
  first | (intro acts; rw [hret _ acts rfl rfl rfl]) | rw [hret _ _ rfl rfl rfl]
  exact Steps.refl _
/-- what holds at the law's entry: the machine, the code, the tables' words (any of lw_tbl by 'hts w (by decide +kernel)'), the script of L ints xs at the cell b, what the Statement gives of the start (any of its parts by flat_of_before) -/
def lw_At (p : Program) (s : State) (m : MethodId) (meth : Method) (c : Code) (b L : Nat) (xs : Nat → Int32) : Prop :=
  p.tables.exec = Jvm.exec ∧ c.code = code ∧ meth.sig.returnType = ret ∧ c.maxLocals = 7 ∧ s.vm.findClass R_law = some m.cls ∧ (∀ w ∈ lw_tbl, w.before #[Value.ref b] s = true) ∧ va_X b L xs s s.heap ∧ b < s.heap.size ∧ meth.locks = false ∧ (Jvm.Cond.and given_1 narrow_1).before #[Value.ref b] s = true
theorem isX.low {E : kE} {C C' : kC} {L L' : kL} {S : kI4} {N : kN3} (h : isX E C L S N) (hm : ∀ t : kT, (t.1 ≤ 19 ∨ t.1 = 60) → C' t = C t ∧ L' t = L t) : isX E C' L' S N := by
  refine ⟨h.1.keep (fun f i hf => (hm _ (show f ≤ 19 ∨ f = 60 by omega)).1) (fun f i hf => (hm _ (show f ≤ 19 ∨ f = 60 by omega)).2) (fun _ _ _ _ => rfl) rfl, fun d hd => (h.2 d hd).keep (fun f k h1 h2 h3 h4 => (hm _ (show f ≤ 19 ∨ f = 60 by omega)).1) (fun f k h1 h2 h3 h4 => (hm _ (show f ≤ 19 ∨ f = 60 by omega)).2) (fun _ _ _ _ _ => rfl) (fun _ _ _ _ => rfl)⟩
theorem kLRq {x q : Nat} (e : x = q) : (some (.ref q) : Option Value) = some (.ref x) := by rw [e]
theorem kupL {α : Type} {C : kT → α} {f0 : Nat} {e : α} {t : kT} (h : t.1 ≠ f0) : kup C (f0, 0, 0) e t = C t := kup_n (fun z => h (by rw [z]))
set_option maxHeartbeats 4000000 in
set_option maxRecDepth 100000 in
theorem law_body {Γ : kG} {E : kE} {A : Nat → Prop} {b n : Nat} {xs : Nat → Int32} (K : kLc Γ E A b n xs) (hn : n ≤ 2560) : kW Γ E A (fun _ => none) (fun _ => 0) 0 0 0 (lv_args 0 [.ref b]) [] := by
  have K2 := K
  obtain ⟨X, hN, hR, rd, ln, rt⟩ := K2
  refine k_lo (lo' := [(0, .ref b)]) ⟨rfl, trivial⟩ ?_
  refine k_new0 X (1, 0, 0) (ci := 6) (q := (RX5, TX5, 3)) rfl inlX5 tyX5 tyX5_ok kb_0 kb_1 kb_2 (fs := [.null, .null, .int 0]) (fun j hj => by rcases (show j = 0 ∨ j = 1 ∨ j = 2 from by have : j < 3 := hj; omega) with rfl | rfl | rfl <;> rfl) dL_law_0 (by rw [hR]; exact Nat.le_of_ble_eq_true rfl) (by rw [hR]; exact Nat.le_of_ble_eq_true rfl) (fun q1 => ?_)
  refine k_dup X dL_law_3 rfl ?_
  refine k_callI (rest := [.ref q1]) X ki_X5_init kb_7 (c_X5_init X.tr (q0 := q1) kup_s kup_s (kupL (by decide))) rfl rfl (Nat.le_of_ble_eq_true rfl) ⟨by rw [hR]; exact Nat.le_of_ble_eq_true rfl, by rw [hR]; exact Nat.le_of_ble_eq_true rfl⟩ ⟨by rw [hR]; exact Nat.le_of_ble_eq_true rfl, by rw [hR]; exact Nat.le_of_ble_eq_true rfl⟩ dL_law_4 (fun v C1 L1 h9 => ?_)
  obtain ⟨rfl, hX1, -, hL1⟩ := h9
  rw [kup_s] at hL1
  refine k_astore_n X dL_law_7 rfl (by rw [hN]; decide) ?_
  refine k_new0 X (30, 0, 0) (ci := 7) (q := (RX6, TX6, 25)) rfl inlX6 tyX6 tyX6_ok kb_3 kb_4 kb_5 (fs := [.int (nI 0), .int (nI 0), .null, .null, .null, .null, .null, .null, .null, .null, .null, .null, .null, .null, .int (nI 0), .null, .null, .null, .null, .null, .null, .int (nI 0), .null, .null, .int (nI 0)]) (fun j hj => by rcases (show j = 0 ∨ j = 1 ∨ j = 2 ∨ j = 3 ∨ j = 4 ∨ j = 5 ∨ j = 6 ∨ j = 7 ∨ j = 8 ∨ j = 9 ∨ j = 10 ∨ j = 11 ∨ j = 12 ∨ j = 13 ∨ j = 14 ∨ j = 15 ∨ j = 16 ∨ j = 17 ∨ j = 18 ∨ j = 19 ∨ j = 20 ∨ j = 21 ∨ j = 22 ∨ j = 23 ∨ j = 24 from by have : j < 25 := hj; omega) with rfl | rfl | rfl | rfl | rfl | rfl | rfl | rfl | rfl | rfl | rfl | rfl | rfl | rfl | rfl | rfl | rfl | rfl | rfl | rfl | rfl | rfl | rfl | rfl | rfl <;> rfl) dL_law_8 (by rw [hR]; exact Nat.le_of_ble_eq_true rfl) (by rw [hR]; exact Nat.le_of_ble_eq_true rfl) (fun q30 => ?_)
  refine k_dup X dL_law_11 rfl ?_
  refine k_callI (rest := [.ref q30]) X ki_X6_init kb_53 (c_X6_init X.tr (q0 := q30) kup_s kup_s) rfl rfl (Nat.le_of_ble_eq_true rfl) ⟨by rw [hR]; exact Nat.le_of_ble_eq_true rfl, by rw [hR]; exact Nat.le_of_ble_eq_true rfl⟩ ⟨by rw [hR]; exact Nat.le_of_ble_eq_true rfl, by rw [hR]; exact Nat.le_of_ble_eq_true rfl⟩ dL_law_12 (fun v C2 L2 h9 => ?_)
  obtain ⟨rfl, hM2, hm2, hL2⟩ := h9
  rw [kup_s] at hL2
  refine k_astore_n X dL_law_15 rfl (by rw [hN]; decide) ?_
  refine k_iconst (v := nI 1) X dL_law_16 (by decide) ?_
  refine k_newj X (54, 0, 0) 1 kb_6 (by decide) (by decide) (by decide) dL_law_17 (by rw [hR]; exact Nat.le_of_ble_eq_true rfl) (by rw [hR]; exact Nat.le_of_ble_eq_true rfl) (fun q54 => ?_)
  refine k_astore_n X dL_law_19 rfl (by rw [hN]; decide) ?_
  refine k_iconst (v := nI 0) X dL_law_20 (by decide) ?_
  refine k_istore X dL_law_21 (by rw [hN]; decide) ?_
  have e1 : kup L2 (54, 0, 0) q54 (1, 0, 0) = q1 := (kupL (by decide)).trans ((hm2 (1, 0, 0) (Or.inl (by decide))).2.trans ((kupL (by decide)).trans hL1))
  have e30 : kup L2 (54, 0, 0) q54 (30, 0, 0) = q30 := (kupL (by decide)).trans hL2
  have e54 : kup L2 (54, 0, 0) q54 (54, 0, 0) = q54 := kup_s
  refine k_lo (lo' := kLo b (kup L2 (54, 0, 0) q54) 0) ⟨rfl, kLRq e1, kLRq e30, kLRq e54, rfl, trivial⟩ ?_
  refine lw_loop K hn 513 0 _ _ S00 N00 M00 Q00 _ _ (by decide) (Nat.zero_le _) ⟨hX1.low (fun t ht => ?_), ⟨nI 0, hM2.keep (fun t h1 h2 => kupL (by omega)) (fun t h1 h2 => kupL (by omega))⟩, ⟨_, kup_s⟩, kSim.start, fun p => Or.inl (if_neg (by omega))⟩ (Nat.le_refl 0) ⟨by first | omega | (dsimp only; omega), by first | omega | (dsimp only; omega)⟩
  have z54 : t.1 ≠ 54 := by omega
  have z30 : t.1 ≠ 30 := by omega
  have m := hm2 t (by omega)
  exact ⟨(kupL z54).trans (m.1.trans (kupL z30)), (kupL z54).trans (m.2.trans (kupL z30))⟩
theorem kflags {l : Launch} (h : l.flags = flags0) : l.stackTraces = false := by
  unfold Launch.stackTraces
  rw [h]
  decide +kernel
set_option maxRecDepth 100000 in
theorem whole_start {p : Program} {e : Env} {s : State} {m : MethodId} {below : List Frame} {meth : Method} {c : Code} (l : Launch) (hflags : l.flags = flags0) {b L : Nat} {xs : Nat → Int32} (hL : L ≤ 2560) (C0 : lw_At p s m meth c b L xs) : W p l e room_1 s m #[Value.ref b] below meth c s.heap [] 0 0 (lw_Z below #[Value.ref b] s) (entryFrame m ([Value.ref b] : List Value).toArray 7) := by
  obtain ⟨hx, hb, hr, hml, hown, hts, hX, hbl, hlocks, hgv⟩ := C0
  obtain ⟨E, hAm⟩ := law_am hts hgv
  have hbA : ¬ (fun q : Nat => s.heap.size ≤ q) b := Nat.not_le.mpr hbl
  have X : kX (p, l, e, room_1, s, m, #[Value.ref b], below, meth, c, lw_Z below #[Value.ref b] s, 7) E (fun q : Nat => s.heap.size ≤ q) cL_law RL := ⟨hx, hb, hml, hown, fun w hw => hts w (wsL_law_in w hw), hAm, hlocks, kflags hflags⟩
  have K : kLc (p, l, e, room_1, s, m, #[Value.ref b], below, meth, c, lw_Z below #[Value.ref b] s, 7) E (fun q : Nat => s.heap.size ≤ q) b L xs := by
    refine ⟨X, rfl, rfl, fun C9 L9 cells slots pc lo rest i hi hdg k => ?_, fun C9 L9 cells slots pc lo rest hdg k => ?_, fun C9 L9 cells slots pc lo hc hs hdg => ?_⟩
    · intro H locs ls hp hS hl
      refine va_sld hx hb hX hbl hbA hS (vp_in_nI hi (by omega)) hdg ?_
      rw [nI_clamp (by omega)]
      exact k H locs ls hp hS hl
    · intro H locs ls hp hS hl
      exact va_slen hx hb hX hbl hbA hS hdg (k H locs ls hp hS hl)
    · intro H locs ls hp hS hl
      refine va_forget (fun q hq => hS.2.2 q hq) ?_
      exact W.widen hc hs (lw_ret hx hb hr hlocks hdg)
  have hp0 : kp E (fun q : Nat => s.heap.size ≤ q) (fun _ => none) (fun _ => 0) s.heap := ⟨fun t e9 h => (by cases h), fun t u e9 f h => (by cases h)⟩
  rw [lg_entry_eq]
  exact law_body K hL s.heap [] _ hp0 va_S.rf (lv_entry [.ref b] (Nat.le_of_ble_eq_true rfl))
