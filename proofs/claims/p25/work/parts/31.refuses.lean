/-! refuses: every call of it throws -/
theorem kneg0 {x : Nat} (hx : x < 2 ^ 30) : (-1) - nI x < 0 := by
  rw [Int32.lt_iff_toInt_lt, Int32.toInt_sub, nI_toInt (by omega), show ((-1 : Int32)).toInt = -1 from by decide, show ((0 : Int32)).toInt = 0 from by decide, Int.bmod_eq_of_le (by omega) (by omega)]
  omega
theorem kneg {x : Nat} {hi : Int32} (hx : x < 2 ^ 30) (h : kin ((-1) - nI x) (nI 0) hi) : False := h.1 (kneg0 hx)
theorem kneg3 {x n : Nat} (hx : x < 2 ^ 30) (h : kix ((-1) - nI x) n) : False := h.1 (kneg0 hx)
theorem kbig {m hi : Nat} {lo : Int32} (h2 : hi < 2 ^ 31) (h : hi < m ∧ m < 2 ^ 31) (z : kin (nI m) lo (nI hi)) : False := nI_ge h.1 h.2 z.2
theorem kbig0 {m : Nat} {lo : Int32} (h : 2 < m ∧ m < 2 ^ 31) (z : kin (nI m) lo (if nI 0 = nI 0 then nI 2 else nI 10000)) : False := by
  rw [if_pos rfl] at z
  exact nI_ge h.1 h.2 z.2
theorem kbig1 {m : Nat} {lo : Int32} (h : 10000 < m ∧ m < 2 ^ 31) (z : kin (nI m) lo (if nI 1 = nI 0 then nI 2 else nI 10000)) : False := by
  rw [if_neg (by decide)] at z
  exact nI_ge h.1 h.2 z.2
theorem kin4 {x : Int32} (h : kin x (nI 0) (nI 3)) : kix x 4 := by
  obtain ⟨n, _, h2, rfl⟩ := h.ex (by decide) (by decide)
  exact kix.of (by omega) (by decide)
theorem kK01 : kin (nI 0) (nI 0) (nI 1) ∧ kin (nI 1) (nI 0) (if nI 0 = nI 0 then nI 2 else nI 10000) := by
  rw [if_pos rfl]
  exact ⟨kin_ok (by decide) (by decide), kin_ok (by decide) (by decide)⟩
theorem kin01 : ¬ kin (nI 0) (nI 1) (nI 100) := fun h => h.1 (by decide)
theorem kx999 {x k : Nat} (hx : x < 2 ^ 30) (hk : k < 2 ^ 29) : nI 999 - nI x ≠ nI (1000 + k) := fun e => by
  have z := pk_sub_toInt (a := 999) (b := x) (by decide) hx
  rw [e, nI_toInt (by omega)] at z
  omega
/-- what refuses knows -/
def kRf (E : kE) (C : kC) (S : kI4) (N : kN3) (f : Nat → Int32) (x d : Nat) (no od : Int32) : Prop :=
  (x < 9973 ∧ d < 4 ∧ N 2 d 0 ≤ 512) ∧ ¬ kix od 4 ∧ ¬ kix no (N 1 0 0) ∧ (∀ o, kHf S N d no o → o = none) ∧ (∀ m, m < 10000 → ∀ o, kHf S N d (nI (1000 + N 2 d 0 + m)) o → o = none) ∧ (kNa E C f ∧ f d = nI (N 2 d 0)) ∧ (∀ e, e < 4 → N 3 e 0 < 512) ∧ (∀ e, e < 4 → N 2 e 0 < 512 ∧ N 3 e 0 < 512) ∧ ∀ e, e < 4 → N 5 e 0 ≤ N 4 e 0
section KRF
variable {E : kE} {C : kC} {S : kI4} {N : kN3} {f : Nat → Int32} {x d : Nat} {no od : Int32}
theorem kRf.hx (F : kRf E C S N f x d no od) : x < 9973 := F.1.1
theorem kRf.hd (F : kRf E C S N f x d no od) : d < 4 := F.1.2.1
theorem kRf.hod (F : kRf E C S N f x d no od) : ¬ kix od 4 := F.2.1
theorem kRf.hno (F : kRf E C S N f x d no od) : ¬ kix no (N 1 0 0) := F.2.2.1
theorem kRf.nk (F : kRf E C S N f x d no od) : ∀ o, kHf S N d no o → o = none := F.2.2.2.1
theorem kRf.big (F : kRf E C S N f x d no od) (m : Nat) (hm : m < 10000) : ∀ o, kHf S N d (nI (1000 + N 2 d 0 + m)) o → o = none := F.2.2.2.2.1 m hm
theorem kRf.big0 (F : kRf E C S N f x d no od) : ∀ o, kHf S N d (nI (1000 + N 2 d 0)) o → o = none := F.2.2.2.2.1 0 (by decide)
theorem kRf.big2 (F : kRf E C S N f x d no od) : ∀ o, kHf S N d (nI (1000 + N 2 d 0 + x)) o → o = none := F.2.2.2.2.1 x (by have := F.hx; omega)
theorem kRf.big3 (F : kRf E C S N f x d no od) (k : Nat) (hk : k < N 2 d 0) : nI (1000 + N 2 d 0 + x) ≠ nI (1000 + k) := fun e => by
  have h1 := F.hx
  have h2 := F.1.2.2
  have := nI_inj e (by omega) (by omega)
  omega
theorem kRf.k999 (F : kRf E C S N f x d no od) (k : Nat) (hk : k < N 2 d 0) : nI 999 - nI x ≠ nI (1000 + k) := by
  have h1 := F.hx
  have h2 := F.1.2.2
  exact kx999 (by omega) (by omega)
theorem kRf.na (F : kRf E C S N f x d no od) : C (200, 0, 0) = some (.inl (E.2.1 0, 4, .inl f)) := F.2.2.2.2.2.1.1
theorem kRf.n2 (F : kRf E C S N f x d no od) : f (nI d).toNatClampNeg = nI (N 2 d 0) := by
  rw [nI_clamp (by have := F.hd; omega)]
  exact F.2.2.2.2.2.1.2
theorem kRf.h3 (F : kRf E C S N f x d no od) : ∀ e, e < 4 → N 3 e 0 < 512 := F.2.2.2.2.2.2.1
theorem kRf.h23 (F : kRf E C S N f x d no od) : ∀ e, e < 4 → N 2 e 0 < 512 ∧ N 3 e 0 < 512 := F.2.2.2.2.2.2.2.1
theorem kRf.h54 (F : kRf E C S N f x d no od) : ∀ e, e < 4 → N 5 e 0 ≤ N 4 e 0 := F.2.2.2.2.2.2.2.2
end KRF
theorem kRf.mk {E : kE} {C : kC} {S : kI4} {N : kN3} {f : Nat → Int32} {x d T : Nat} {no od : Int32} (hO : okX S N) (V : vS S N T) (hx : x < 9973) (hd : d < 4) (hna : kNa E C f) (hn2 : ∀ d, d < 4 → f d = nI (N 2 d 0)) (h512 : ∀ d, d < 4 → N 3 d 0 < 512) (ho : ¬ kix od 4) (hn : ¬ kix no (N 1 0 0)) (hk : ∀ k, k < 512 → no ≠ nI (1000 + k)) : kRf E C S N f x d no od := by
  have hV := V.1
  have h2 := (hO.2 d hd).1
  refine ⟨⟨hx, hd, h2⟩, ho, hn, hf_no (fun k hk2 => hk k (by omega)) (fun n hn40 e => ?_), fun m hm => hf_no (fun k hk2 e => ?_) (fun n hn40 e => ?_), ⟨hna, hn2 d hd⟩, h512, fun e he => ⟨Nat.lt_of_le_of_lt (V.m2 he) (h512 e he), h512 e he⟩, fun e he => V.h5 he⟩
  · rcases (V.2.2 d hd).2.1.1 n hn40 with z | z
    · exact z
    · exact absurd (by rw [e]; exact kix.of z.2.1 (by omega)) hn
  · have := nI_inj e (by omega) (by omega)
    omega
  · have := nI_inj e (by omega) (by omega)
    omega
theorem kRf.pos {E : kE} {C : kC} {S : kI4} {N : kN3} {f : Nat → Int32} {x T : Nat} (hO : okX S N) (V : vS S N T) (hx : x < 9973) (hna : kNa E C f) (hn2 : ∀ d, d < 4 → f d = nI (N 2 d 0)) (h512 : ∀ d, d < 4 → N 3 d 0 < 512) : kRf E C S N f x (x % 4) (nI ((N 1 0 0) + (x % 50))) (nI (4 + (x % 50))) := by
  have hV := V.1
  have h50 : x % 50 < 50 := Nat.mod_lt _ (by decide)
  refine kRf.mk hO V hx (Nat.mod_lt _ (by decide)) hna hn2 h512 (fun z => ?_) (fun z => ?_) (fun k hk e => ?_)
  · exact nI_nlt (by omega) (by omega) z.2
  · exact nI_nlt (by omega) (by omega) z.2
  · have := nI_inj e (by omega) (by omega)
    omega
theorem kRf.neg {E : kE} {C : kC} {S : kI4} {N : kN3} {f : Nat → Int32} {x T : Nat} (hO : okX S N) (V : vS S N T) (hx : x < 9973) (hna : kNa E C f) (hn2 : ∀ d, d < 4 → f d = nI (N 2 d 0)) (h512 : ∀ d, d < 4 → N 3 d 0 < 512) : kRf E C S N f x (x % 4) ((-1) - (nI (x % 50))) ((-1) - (nI (x % 50))) := by
  have h50 : x % 50 < 50 := Nat.mod_lt _ (by decide)
  refine kRf.mk hO V hx (Nat.mod_lt _ (by decide)) hna hn2 h512 (fun z => kneg3 (by omega) z) (fun z => kneg3 (by omega) z) (fun k hk e => ?_)
  have z := kneg0 (x := x % 50) (by omega)
  rw [e] at z
  exact nI_pos (by omega) z
set_option maxHeartbeats 4000000 in
set_option maxRecDepth 100000 in
theorem rf_53 {Γ : kG} {E : kE} {A : Nat → Prop} {C : kC} {L : kL} {S : kI4} {N : kN3} (X : kX Γ E A cL_refuses RL) (hN : kNl Γ = 8) (hR : kRm Γ = ({ frames := 11, cells := 400, slots := 12000, locals := 268 } : Room)) (hX : isX E C L S N) (hO : okX S N) {T : Nat} (V : vS S N T) {x d : Nat} {no od : Int32} {f : Nat → Int32} (F : kRf E C S N f x d no od) {cells slots : Nat} (hc : cells + 20 ≤ 400) (hs : slots + 342 ≤ 12000) (k : ∀ c s, c = cells + 20 → s = slots + 342 → kW Γ E A C L c s 106 [(0, .ref (L (1, 0, 0))), (1, .ref (L (200, 0, 0))), (2, .int (nI x)), (3, .int no), (4, .int od), (5, .int (nI d))] []) : kW Γ E A C L cells slots 53 [(0, .ref (L (1, 0, 0))), (1, .ref (L (200, 0, 0))), (2, .int (nI x)), (3, .int no), (4, .int od), (5, .int (nI d))] [] := by
  have hx := F.hx
  have hd := F.hd
  refine k_aload_n X dL_refuses_53 rfl rfl ?_
  refine k_iload X dL_refuses_54 rfl ?_
  refine k_iconst (v := (nI 0)) X dL_refuses_56 (by decide) ?_
  refine k_callSH (rest := []) X ksh_add kb_68 (r_add_IA X.tr hX hO od (nI 0) (fun z => F.hod (kin4 z.1))) rfl rfl (Nat.le_of_ble_eq_true rfl) ⟨by rw [hR]; exact Nat.le_of_ble_eq_true rfl, by rw [hR]; exact Nat.le_of_ble_eq_true rfl⟩ ⟨by rw [hR]; dsimp only; omega, by rw [hR]; dsimp only; omega⟩ dL_refuses_57 (fun v57 C9 L9 h9 => ?_)
  obtain ⟨rfl, rfl, rfl⟩ := h9
  refine k_ldc X kb_73 dL_refuses_60 ?_
  refine k_icmp_ne (tgt := 653) X dL_refuses_62 (by decide) (fun c62 => absurd c62 (fun z => z rfl)) (fun c62 => ?_)
  refine k_aload_n X dL_refuses_65 rfl rfl ?_
  refine k_iload X dL_refuses_66 rfl ?_
  refine k_bipush (v := (nI 10)) X dL_refuses_68 (by decide) ?_
  refine k_iload_n X dL_refuses_70 rfl rfl ?_
  refine k_iaddN X dL_refuses_71 ?_
  refine k_callSH (rest := []) X ksh_add kb_68 (r_add_IA X.tr hX hO (nI d) (nI (10 + x)) (fun z => kbig (by decide) (by omega) z.2)) rfl rfl (Nat.le_of_ble_eq_true rfl) ⟨by rw [hR]; exact Nat.le_of_ble_eq_true rfl, by rw [hR]; exact Nat.le_of_ble_eq_true rfl⟩ ⟨by rw [hR]; dsimp only; omega, by rw [hR]; dsimp only; omega⟩ dL_refuses_72 (fun v72 C9 L9 h9 => ?_)
  obtain ⟨rfl, rfl, rfl⟩ := h9
  refine k_ldc X kb_73 dL_refuses_75 ?_
  refine k_icmp_ne (tgt := 653) X dL_refuses_77 (by decide) (fun c77 => absurd c77 (fun z => z rfl)) (fun c77 => ?_)
  refine k_aload_n X dL_refuses_80 rfl rfl ?_
  refine k_iload X dL_refuses_81 rfl ?_
  refine k_iconst (v := (-1)) X dL_refuses_83 (by decide) ?_
  refine k_iload_n X dL_refuses_84 rfl rfl ?_
  refine k_isub X dL_refuses_85 ?_
  refine k_callSH (rest := []) X ksh_add kb_68 (r_add_IA X.tr hX hO (nI d) ((-1) - (nI x)) (fun z => kneg (by omega) z.2)) rfl rfl (Nat.le_of_ble_eq_true rfl) ⟨by rw [hR]; exact Nat.le_of_ble_eq_true rfl, by rw [hR]; exact Nat.le_of_ble_eq_true rfl⟩ ⟨by rw [hR]; dsimp only; omega, by rw [hR]; dsimp only; omega⟩ dL_refuses_86 (fun v86 C9 L9 h9 => ?_)
  obtain ⟨rfl, rfl, rfl⟩ := h9
  refine k_ldc X kb_73 dL_refuses_89 ?_
  refine k_icmp_ne (tgt := 653) X dL_refuses_91 (by decide) (fun c91 => absurd c91 (fun z => z rfl)) (fun c91 => ?_)
  refine k_aload_n X dL_refuses_94 rfl rfl ?_
  refine k_iload_n X dL_refuses_95 rfl rfl ?_
  refine k_bipush (v := (nI 9)) X dL_refuses_96 (by decide) ?_
  refine k_callSH (rest := []) X ksh_give kb_158 (r_give_IO X.tr hX hO no (nI 9) F.hno) rfl rfl (Nat.le_of_ble_eq_true rfl) ⟨by rw [hR]; exact Nat.le_of_ble_eq_true rfl, by rw [hR]; exact Nat.le_of_ble_eq_true rfl⟩ ⟨by rw [hR]; dsimp only; omega, by rw [hR]; dsimp only; omega⟩ dL_refuses_98 (fun v98 C9 L9 h9 => ?_)
  obtain ⟨rfl, rfl, rfl⟩ := h9
  refine k_ldc X kb_162 dL_refuses_101 ?_
  refine k_icmp_ne (tgt := 653) X dL_refuses_103 (by decide) (fun c103 => absurd c103 (fun z => z rfl)) (fun c103 => ?_)
  exact k _ _ (by omega) (by omega)

set_option maxHeartbeats 4000000 in
set_option maxRecDepth 100000 in
theorem rf_106 {Γ : kG} {E : kE} {A : Nat → Prop} {C : kC} {L : kL} {S : kI4} {N : kN3} (X : kX Γ E A cL_refuses RL) (hN : kNl Γ = 8) (hR : kRm Γ = ({ frames := 11, cells := 400, slots := 12000, locals := 268 } : Room)) (hX : isX E C L S N) (hO : okX S N) {T : Nat} (V : vS S N T) {x d : Nat} {no od : Int32} {f : Nat → Int32} (F : kRf E C S N f x d no od) {cells slots : Nat} (hc : cells + 15 ≤ 400) (hs : slots + 90 ≤ 12000) (k : ∀ c s, c = cells + 15 → s = slots + 90 → kW Γ E A C L c s 205 [(0, .ref (L (1, 0, 0))), (1, .ref (L (200, 0, 0))), (2, .int (nI x)), (3, .int no), (4, .int od), (5, .int (nI d))] []) : kW Γ E A C L cells slots 106 [(0, .ref (L (1, 0, 0))), (1, .ref (L (200, 0, 0))), (2, .int (nI x)), (3, .int no), (4, .int od), (5, .int (nI d))] [] := by
  have hx := F.hx
  have hd := F.hd
  refine k_aload_n X dL_refuses_106 rfl rfl ?_
  refine k_iload_n X dL_refuses_107 rfl rfl ?_
  refine k_bipush (v := (nI 9)) X dL_refuses_108 (by decide) ?_
  refine k_bipush (v := (nI 9)) X dL_refuses_110 (by decide) ?_
  refine k_callSH (rest := []) X ksh_set kb_191 (r_set_IO X.tr hX hO no (nI 9) (nI 9) F.hno) rfl rfl (Nat.le_of_ble_eq_true rfl) ⟨by rw [hR]; exact Nat.le_of_ble_eq_true rfl, by rw [hR]; exact Nat.le_of_ble_eq_true rfl⟩ ⟨by rw [hR]; dsimp only; omega, by rw [hR]; dsimp only; omega⟩ dL_refuses_112 (fun v112 C9 L9 h9 => ?_)
  obtain ⟨rfl, rfl, rfl⟩ := h9
  refine k_ldc X kb_162 dL_refuses_115 ?_
  refine k_icmp_ne (tgt := 653) X dL_refuses_117 (by decide) (fun c117 => absurd c117 (fun z => z rfl)) (fun c117 => ?_)
  refine k_aload_n X dL_refuses_120 rfl rfl ?_
  refine k_iload_n X dL_refuses_121 rfl rfl ?_
  refine k_callSH (rest := []) X ksh_crew kb_380 (r_crew_IO X.tr hX hO no F.hno) rfl rfl (Nat.le_of_ble_eq_true rfl) ⟨by rw [hR]; exact Nat.le_of_ble_eq_true rfl, by rw [hR]; exact Nat.le_of_ble_eq_true rfl⟩ ⟨by rw [hR]; dsimp only; omega, by rw [hR]; dsimp only; omega⟩ dL_refuses_122 (fun v122 C9 L9 h9 => ?_)
  obtain ⟨rfl, rfl, rfl⟩ := h9
  refine k_ldc X kb_162 dL_refuses_125 ?_
  refine k_icmp_ne (tgt := 653) X dL_refuses_127 (by decide) (fun c127 => absurd c127 (fun z => z rfl)) (fun c127 => ?_)
  refine k_aload_n X dL_refuses_130 rfl rfl ?_
  refine k_iload_n X dL_refuses_131 rfl rfl ?_
  refine k_callSH (rest := []) X ksh_site kb_387 (r_site_IO X.tr hX hO no F.hno) rfl rfl (Nat.le_of_ble_eq_true rfl) ⟨by rw [hR]; exact Nat.le_of_ble_eq_true rfl, by rw [hR]; exact Nat.le_of_ble_eq_true rfl⟩ ⟨by rw [hR]; dsimp only; omega, by rw [hR]; dsimp only; omega⟩ dL_refuses_132 (fun v132 C9 L9 h9 => ?_)
  obtain ⟨rfl, rfl, rfl⟩ := h9
  refine k_ldc X kb_162 dL_refuses_135 ?_
  refine k_icmp_ne (tgt := 653) X dL_refuses_137 (by decide) (fun c137 => absurd c137 (fun z => z rfl)) (fun c137 => ?_)
  refine k_aload_n X dL_refuses_140 rfl rfl ?_
  refine k_iload_n X dL_refuses_141 rfl rfl ?_
  refine k_bipush (v := (nI 9)) X dL_refuses_142 (by decide) ?_
  refine k_callSH (rest := []) X ksh_value kb_395 (r_value_IO X.tr hX hO no (nI 9) F.hno) rfl rfl (Nat.le_of_ble_eq_true rfl) ⟨by rw [hR]; exact Nat.le_of_ble_eq_true rfl, by rw [hR]; exact Nat.le_of_ble_eq_true rfl⟩ ⟨by rw [hR]; dsimp only; omega, by rw [hR]; dsimp only; omega⟩ dL_refuses_144 (fun v144 C9 L9 h9 => ?_)
  obtain ⟨rfl, rfl, rfl⟩ := h9
  refine k_ldc X kb_162 dL_refuses_147 ?_
  refine k_icmp_ne (tgt := 653) X dL_refuses_149 (by decide) (fun c149 => absurd c149 (fun z => z rfl)) (fun c149 => ?_)
  refine k_aload_n X dL_refuses_152 rfl rfl ?_
  refine k_iload_n X dL_refuses_153 rfl rfl ?_
  refine k_iconst (v := (nI 0)) X dL_refuses_154 (by decide) ?_
  refine k_callSH (rest := []) X ksh_version kb_406 (r_version_IO X.tr hX hO no (nI 0) F.hno) rfl rfl (Nat.le_of_ble_eq_true rfl) ⟨by rw [hR]; exact Nat.le_of_ble_eq_true rfl, by rw [hR]; exact Nat.le_of_ble_eq_true rfl⟩ ⟨by rw [hR]; dsimp only; omega, by rw [hR]; dsimp only; omega⟩ dL_refuses_155 (fun v155 C9 L9 h9 => ?_)
  obtain ⟨rfl, rfl, rfl⟩ := h9
  refine k_ldc X kb_162 dL_refuses_158 ?_
  refine k_icmp_ne (tgt := 653) X dL_refuses_160 (by decide) (fun c160 => absurd c160 (fun z => z rfl)) (fun c160 => ?_)
  refine k_aload_n X dL_refuses_163 rfl rfl ?_
  refine k_iload X dL_refuses_164 rfl ?_
  refine k_bipush (v := (nI 99)) X dL_refuses_166 (by decide) ?_
  refine k_callSH (rest := []) X ksh_setRoom kb_213 (r_setRoom_IO X.tr hX hO od (nI 99) F.hod) rfl rfl (Nat.le_of_ble_eq_true rfl) ⟨by rw [hR]; exact Nat.le_of_ble_eq_true rfl, by rw [hR]; exact Nat.le_of_ble_eq_true rfl⟩ ⟨by rw [hR]; dsimp only; omega, by rw [hR]; dsimp only; omega⟩ dL_refuses_168 (fun v168 C9 L9 h9 => ?_)
  obtain ⟨rfl, rfl, rfl⟩ := h9
  refine k_ldc X kb_162 dL_refuses_171 ?_
  refine k_icmp_ne (tgt := 653) X dL_refuses_173 (by decide) (fun c173 => absurd c173 (fun z => z rfl)) (fun c173 => ?_)
  refine k_aload_n X dL_refuses_176 rfl rfl ?_
  refine k_iload X dL_refuses_177 rfl ?_
  refine k_bipush (v := (nI 41)) X dL_refuses_179 (by decide) ?_
  refine k_iload_n X dL_refuses_181 rfl rfl ?_
  refine k_iaddN X dL_refuses_182 ?_
  refine k_callSH (rest := []) X ksh_setRoom kb_213 (r_setRoom_IA X.tr hX hO (nI d) (nI (41 + x)) (fun z => kbig (by decide) (by omega) z) (kix.of F.hd (by decide))) rfl rfl (Nat.le_of_ble_eq_true rfl) ⟨by rw [hR]; exact Nat.le_of_ble_eq_true rfl, by rw [hR]; exact Nat.le_of_ble_eq_true rfl⟩ ⟨by rw [hR]; dsimp only; omega, by rw [hR]; dsimp only; omega⟩ dL_refuses_183 (fun v183 C9 L9 h9 => ?_)
  obtain ⟨rfl, rfl, rfl⟩ := h9
  refine k_ldc X kb_73 dL_refuses_186 ?_
  refine k_icmp_ne (tgt := 653) X dL_refuses_188 (by decide) (fun c188 => absurd c188 (fun z => z rfl)) (fun c188 => ?_)
  refine k_aload_n X dL_refuses_191 rfl rfl ?_
  refine k_iload X dL_refuses_192 rfl ?_
  refine k_iconst (v := (-1)) X dL_refuses_194 (by decide) ?_
  refine k_iload_n X dL_refuses_195 rfl rfl ?_
  refine k_isub X dL_refuses_196 ?_
  refine k_callSH (rest := []) X ksh_setRoom kb_213 (r_setRoom_IA X.tr hX hO (nI d) ((-1) - (nI x)) (fun z => kneg (by omega) z) (kix.of F.hd (by decide))) rfl rfl (Nat.le_of_ble_eq_true rfl) ⟨by rw [hR]; exact Nat.le_of_ble_eq_true rfl, by rw [hR]; exact Nat.le_of_ble_eq_true rfl⟩ ⟨by rw [hR]; dsimp only; omega, by rw [hR]; dsimp only; omega⟩ dL_refuses_197 (fun v197 C9 L9 h9 => ?_)
  obtain ⟨rfl, rfl, rfl⟩ := h9
  refine k_ldc X kb_73 dL_refuses_200 ?_
  refine k_icmp_ne (tgt := 653) X dL_refuses_202 (by decide) (fun c202 => absurd c202 (fun z => z rfl)) (fun c202 => ?_)
  exact k _ _ (by omega) (by omega)

set_option maxHeartbeats 4000000 in
set_option maxRecDepth 100000 in
theorem rf_205 {Γ : kG} {E : kE} {A : Nat → Prop} {C : kC} {L : kL} {S : kI4} {N : kN3} (X : kX Γ E A cL_refuses RL) (hN : kNl Γ = 8) (hR : kRm Γ = ({ frames := 11, cells := 400, slots := 12000, locals := 268 } : Room)) (hX : isX E C L S N) (hO : okX S N) {T : Nat} (V : vS S N T) {x d : Nat} {no od : Int32} {f : Nat → Int32} (F : kRf E C S N f x d no od) {cells slots : Nat} (hc : cells + 135 ≤ 400) (hs : slots + 570 ≤ 12000) (k : ∀ c s, c = cells + 135 → s = slots + 570 → kW Γ E A C L c s 301 [(0, .ref (L (1, 0, 0))), (1, .ref (L (200, 0, 0))), (2, .int (nI x)), (3, .int no), (4, .int od), (5, .int (nI d))] []) : kW Γ E A C L cells slots 205 [(0, .ref (L (1, 0, 0))), (1, .ref (L (200, 0, 0))), (2, .int (nI x)), (3, .int no), (4, .int od), (5, .int (nI d))] [] := by
  have hx := F.hx
  have hd := F.hd
  refine k_aload_n X dL_refuses_205 rfl rfl ?_
  refine k_iload X dL_refuses_206 rfl ?_
  refine k_callSH (rest := []) X ksh_fetch kb_225 (r_fetch_IO X.tr hX hO od F.hod) rfl rfl (Nat.le_of_ble_eq_true rfl) ⟨by rw [hR]; exact Nat.le_of_ble_eq_true rfl, by rw [hR]; exact Nat.le_of_ble_eq_true rfl⟩ ⟨by rw [hR]; dsimp only; omega, by rw [hR]; dsimp only; omega⟩ dL_refuses_208 (fun v208 C9 L9 h9 => ?_)
  obtain ⟨rfl, rfl, rfl⟩ := h9
  refine k_ldc X kb_162 dL_refuses_211 ?_
  refine k_icmp_ne (tgt := 653) X dL_refuses_213 (by decide) (fun c213 => absurd c213 (fun z => z rfl)) (fun c213 => ?_)
  refine k_aload_n X dL_refuses_216 rfl rfl ?_
  refine k_iload X dL_refuses_217 rfl ?_
  refine k_callSH (rest := []) X ksh_held kb_413 (r_held_IO X.tr hX hO od F.hod) rfl rfl (Nat.le_of_ble_eq_true rfl) ⟨by rw [hR]; exact Nat.le_of_ble_eq_true rfl, by rw [hR]; exact Nat.le_of_ble_eq_true rfl⟩ ⟨by rw [hR]; dsimp only; omega, by rw [hR]; dsimp only; omega⟩ dL_refuses_219 (fun v219 C9 L9 h9 => ?_)
  obtain ⟨rfl, rfl, rfl⟩ := h9
  refine k_ldc X kb_162 dL_refuses_222 ?_
  refine k_icmp_ne (tgt := 653) X dL_refuses_224 (by decide) (fun c224 => absurd c224 (fun z => z rfl)) (fun c224 => ?_)
  refine k_aload_n X dL_refuses_227 rfl rfl ?_
  refine k_iload X dL_refuses_228 rfl ?_
  refine k_iconst (v := (nI 0)) X dL_refuses_230 (by decide) ?_
  refine k_callSH (rest := []) X ksh_holds kb_420 (r_holds_IO X.tr hX hO od (nI 0) F.hod) rfl rfl (Nat.le_of_ble_eq_true rfl) ⟨by rw [hR]; exact Nat.le_of_ble_eq_true rfl, by rw [hR]; exact Nat.le_of_ble_eq_true rfl⟩ ⟨by rw [hR]; dsimp only; omega, by rw [hR]; dsimp only; omega⟩ dL_refuses_231 (fun v231 C9 L9 h9 => ?_)
  obtain ⟨rfl, rfl, rfl⟩ := h9
  refine k_ldc X kb_162 dL_refuses_234 ?_
  refine k_icmp_ne (tgt := 653) X dL_refuses_236 (by decide) (fun c236 => absurd c236 (fun z => z rfl)) (fun c236 => ?_)
  refine k_aload_n X dL_refuses_239 rfl rfl ?_
  refine k_iload X dL_refuses_240 rfl ?_
  refine k_iconst (v := (nI 0)) X dL_refuses_242 (by decide) ?_
  refine k_bipush (v := (nI 9)) X dL_refuses_243 (by decide) ?_
  refine k_callSH (rest := []) X ksh_heldValue kb_427 (r_heldValue_IO X.tr hX hO od (nI 0) (nI 9) F.hod) rfl rfl (Nat.le_of_ble_eq_true rfl) ⟨by rw [hR]; exact Nat.le_of_ble_eq_true rfl, by rw [hR]; exact Nat.le_of_ble_eq_true rfl⟩ ⟨by rw [hR]; dsimp only; omega, by rw [hR]; dsimp only; omega⟩ dL_refuses_245 (fun v245 C9 L9 h9 => ?_)
  obtain ⟨rfl, rfl, rfl⟩ := h9
  refine k_ldc X kb_162 dL_refuses_248 ?_
  refine k_icmp_ne (tgt := 653) X dL_refuses_250 (by decide) (fun c250 => absurd c250 (fun z => z rfl)) (fun c250 => ?_)
  refine k_aload_n X dL_refuses_253 rfl rfl ?_
  refine k_iload X dL_refuses_254 rfl ?_
  refine k_iconst (v := (nI 0)) X dL_refuses_256 (by decide) ?_
  refine k_iconst (v := (nI 2)) X dL_refuses_257 (by decide) ?_
  refine k_iload_n X dL_refuses_258 rfl rfl ?_
  refine k_iaddN X dL_refuses_259 ?_
  refine k_callSH (rest := []) X ksh_heldValue kb_427 (r_heldValue_IA X.tr hX hO (nI d) (nI 0) (nI (2 + x)) (fun z => kbig (by decide) (by omega) z) (kix.of F.hd (by decide))) rfl rfl (Nat.le_of_ble_eq_true rfl) ⟨by rw [hR]; exact Nat.le_of_ble_eq_true rfl, by rw [hR]; exact Nat.le_of_ble_eq_true rfl⟩ ⟨by rw [hR]; dsimp only; omega, by rw [hR]; dsimp only; omega⟩ dL_refuses_260 (fun v260 C9 L9 h9 => ?_)
  obtain ⟨rfl, rfl, rfl⟩ := h9
  refine k_ldc X kb_73 dL_refuses_263 ?_
  refine k_icmp_ne (tgt := 653) X dL_refuses_265 (by decide) (fun c265 => absurd c265 (fun z => z rfl)) (fun c265 => ?_)
  refine k_aload_n X dL_refuses_268 rfl rfl ?_
  refine k_iload X dL_refuses_269 rfl ?_
  refine k_iload_n X dL_refuses_271 rfl rfl ?_
  refine k_iconst (v := (nI 0)) X dL_refuses_272 (by decide) ?_
  refine k_callSH (rest := []) X ksh_heldValue kb_427 (r_heldValue_IS X.tr hX hO (nI d) no (nI 0) F.hd rfl (kin_ok (by decide) (by decide)) F.nk) rfl rfl (Nat.le_of_ble_eq_true rfl) ⟨by rw [hR]; exact Nat.le_of_ble_eq_true rfl, by rw [hR]; exact Nat.le_of_ble_eq_true rfl⟩ ⟨by rw [hR]; dsimp only; omega, by rw [hR]; dsimp only; omega⟩ dL_refuses_273 (fun v273 C9 L9 h9 => ?_)
  obtain ⟨rfl, rfl, rfl⟩ := h9
  refine k_ldc X kb_74 dL_refuses_276 ?_
  refine k_icmp_ne (tgt := 653) X dL_refuses_278 (by decide) (fun c278 => absurd c278 (fun z => z rfl)) (fun c278 => ?_)
  refine k_aload_n X dL_refuses_281 rfl rfl ?_
  refine k_iload X dL_refuses_282 rfl ?_
  refine k_sipush (v := (nI 1000)) X dL_refuses_284 (by decide) ?_
  refine k_aload_n X dL_refuses_287 rfl rfl ?_
  refine k_iload X dL_refuses_288 rfl ?_
  refine k_iald X F.na rfl (pk_in d 4 F.hd) dL_refuses_290 ?_
  refine k_rw (y := nI (N 2 d 0)) F.n2 ?_
  refine k_iaddN X dL_refuses_291 ?_
  refine k_iconst (v := (nI 1)) X dL_refuses_292 (by decide) ?_
  refine k_callSH (rest := []) X ksh_heldValue kb_427 (r_heldValue_IS X.tr hX hO (nI d) (nI (1000 + (N 2 d 0))) (nI 1) F.hd rfl (kin_ok (by decide) (by decide)) F.big0) rfl rfl (Nat.le_of_ble_eq_true rfl) ⟨by rw [hR]; exact Nat.le_of_ble_eq_true rfl, by rw [hR]; exact Nat.le_of_ble_eq_true rfl⟩ ⟨by rw [hR]; dsimp only; omega, by rw [hR]; dsimp only; omega⟩ dL_refuses_293 (fun v293 C9 L9 h9 => ?_)
  obtain ⟨rfl, rfl, rfl⟩ := h9
  refine k_ldc X kb_74 dL_refuses_296 ?_
  refine k_icmp_ne (tgt := 653) X dL_refuses_298 (by decide) (fun c298 => absurd c298 (fun z => z rfl)) (fun c298 => ?_)
  exact k _ _ (by omega) (by omega)

set_option maxHeartbeats 4000000 in
set_option maxRecDepth 100000 in
theorem rf_301 {Γ : kG} {E : kE} {A : Nat → Prop} {C : kC} {L : kL} {S : kI4} {N : kN3} (X : kX Γ E A cL_refuses RL) (hN : kNl Γ = 8) (hR : kRm Γ = ({ frames := 11, cells := 400, slots := 12000, locals := 268 } : Room)) (hX : isX E C L S N) (hO : okX S N) {T : Nat} (V : vS S N T) {x d : Nat} {no od : Int32} {f : Nat → Int32} (F : kRf E C S N f x d no od) {cells slots : Nat} (hc : cells + 36 ≤ 400) (hs : slots + 4980 ≤ 12000) (k : ∀ c s, c = cells + 36 → s = slots + 4980 → kW Γ E A C L c s 397 [(0, .ref (L (1, 0, 0))), (1, .ref (L (200, 0, 0))), (2, .int (nI x)), (3, .int no), (4, .int od), (5, .int (nI d))] []) : kW Γ E A C L cells slots 301 [(0, .ref (L (1, 0, 0))), (1, .ref (L (200, 0, 0))), (2, .int (nI x)), (3, .int no), (4, .int od), (5, .int (nI d))] [] := by
  have hx := F.hx
  have hd := F.hd
  refine k_aload_n X dL_refuses_301 rfl rfl ?_
  refine k_iload X dL_refuses_302 rfl ?_
  refine k_iconst (v := (nI 0)) X dL_refuses_304 (by decide) ?_
  refine k_bipush (v := (nI 9)) X dL_refuses_305 (by decide) ?_
  refine k_bipush (v := (nI 9)) X dL_refuses_307 (by decide) ?_
  refine k_callSH (rest := []) X ksh_change kb_254 (r_change_IO X.tr hX hO F.h3 od (nI 0) (nI 9) (nI 9) F.hod) rfl rfl (Nat.le_of_ble_eq_true rfl) ⟨by rw [hR]; exact Nat.le_of_ble_eq_true rfl, by rw [hR]; exact Nat.le_of_ble_eq_true rfl⟩ ⟨by rw [hR]; dsimp only; omega, by rw [hR]; dsimp only; omega⟩ dL_refuses_309 (fun v309 C9 L9 h9 => ?_)
  obtain ⟨rfl, rfl, rfl⟩ := h9
  refine k_ldc X kb_162 dL_refuses_312 ?_
  refine k_icmp_ne (tgt := 653) X dL_refuses_314 (by decide) (fun c314 => absurd c314 (fun z => z rfl)) (fun c314 => ?_)
  refine k_aload_n X dL_refuses_317 rfl rfl ?_
  refine k_iload X dL_refuses_318 rfl ?_
  refine k_iconst (v := (nI 0)) X dL_refuses_320 (by decide) ?_
  refine k_iconst (v := (nI 2)) X dL_refuses_321 (by decide) ?_
  refine k_iload_n X dL_refuses_322 rfl rfl ?_
  refine k_iaddN X dL_refuses_323 ?_
  refine k_iconst (v := (nI 0)) X dL_refuses_324 (by decide) ?_
  refine k_callSH (rest := []) X ksh_change kb_254 (r_change_IA X.tr hX hO F.h3 (nI d) (nI 0) (nI (2 + x)) (nI 0) (fun z => kbig (by decide) (by omega) z.1) (kix.of F.hd (by decide))) rfl rfl (Nat.le_of_ble_eq_true rfl) ⟨by rw [hR]; exact Nat.le_of_ble_eq_true rfl, by rw [hR]; exact Nat.le_of_ble_eq_true rfl⟩ ⟨by rw [hR]; dsimp only; omega, by rw [hR]; dsimp only; omega⟩ dL_refuses_325 (fun v325 C9 L9 h9 => ?_)
  obtain ⟨rfl, rfl, rfl⟩ := h9
  refine k_ldc X kb_73 dL_refuses_328 ?_
  refine k_icmp_ne (tgt := 653) X dL_refuses_330 (by decide) (fun c330 => absurd c330 (fun z => z rfl)) (fun c330 => ?_)
  refine k_aload_n X dL_refuses_333 rfl rfl ?_
  refine k_iload X dL_refuses_334 rfl ?_
  refine k_iconst (v := (nI 0)) X dL_refuses_336 (by decide) ?_
  refine k_iconst (v := (nI 0)) X dL_refuses_337 (by decide) ?_
  refine k_iconst (v := (nI 3)) X dL_refuses_338 (by decide) ?_
  refine k_iload_n X dL_refuses_339 rfl rfl ?_
  refine k_iaddN X dL_refuses_340 ?_
  refine k_callSH (rest := []) X ksh_change kb_254 (r_change_IA X.tr hX hO F.h3 (nI d) (nI 0) (nI 0) (nI (3 + x)) (fun z => kbig0 (by omega) z.2) (kix.of F.hd (by decide))) rfl rfl (Nat.le_of_ble_eq_true rfl) ⟨by rw [hR]; exact Nat.le_of_ble_eq_true rfl, by rw [hR]; exact Nat.le_of_ble_eq_true rfl⟩ ⟨by rw [hR]; dsimp only; omega, by rw [hR]; dsimp only; omega⟩ dL_refuses_341 (fun v341 C9 L9 h9 => ?_)
  obtain ⟨rfl, rfl, rfl⟩ := h9
  refine k_ldc X kb_73 dL_refuses_344 ?_
  refine k_icmp_ne (tgt := 653) X dL_refuses_346 (by decide) (fun c346 => absurd c346 (fun z => z rfl)) (fun c346 => ?_)
  refine k_aload_n X dL_refuses_349 rfl rfl ?_
  refine k_iload X dL_refuses_350 rfl ?_
  refine k_iconst (v := (nI 0)) X dL_refuses_352 (by decide) ?_
  refine k_iconst (v := (nI 1)) X dL_refuses_353 (by decide) ?_
  refine k_sipush (v := (nI 10001)) X dL_refuses_354 (by decide) ?_
  refine k_iload_n X dL_refuses_357 rfl rfl ?_
  refine k_iaddN X dL_refuses_358 ?_
  refine k_callSH (rest := []) X ksh_change kb_254 (r_change_IA X.tr hX hO F.h3 (nI d) (nI 0) (nI 1) (nI (10001 + x)) (fun z => kbig1 (by omega) z.2) (kix.of F.hd (by decide))) rfl rfl (Nat.le_of_ble_eq_true rfl) ⟨by rw [hR]; exact Nat.le_of_ble_eq_true rfl, by rw [hR]; exact Nat.le_of_ble_eq_true rfl⟩ ⟨by rw [hR]; dsimp only; omega, by rw [hR]; dsimp only; omega⟩ dL_refuses_359 (fun v359 C9 L9 h9 => ?_)
  obtain ⟨rfl, rfl, rfl⟩ := h9
  refine k_ldc X kb_73 dL_refuses_362 ?_
  refine k_icmp_ne (tgt := 653) X dL_refuses_364 (by decide) (fun c364 => absurd c364 (fun z => z rfl)) (fun c364 => ?_)
  refine k_aload_n X dL_refuses_367 rfl rfl ?_
  refine k_iload X dL_refuses_368 rfl ?_
  refine k_iconst (v := (nI 0)) X dL_refuses_370 (by decide) ?_
  refine k_iconst (v := (nI 1)) X dL_refuses_371 (by decide) ?_
  refine k_iconst (v := (-1)) X dL_refuses_372 (by decide) ?_
  refine k_iload_n X dL_refuses_373 rfl rfl ?_
  refine k_isub X dL_refuses_374 ?_
  refine k_callSH (rest := []) X ksh_change kb_254 (r_change_IA X.tr hX hO F.h3 (nI d) (nI 0) (nI 1) ((-1) - (nI x)) (fun z => kneg (by omega) z.2) (kix.of F.hd (by decide))) rfl rfl (Nat.le_of_ble_eq_true rfl) ⟨by rw [hR]; exact Nat.le_of_ble_eq_true rfl, by rw [hR]; exact Nat.le_of_ble_eq_true rfl⟩ ⟨by rw [hR]; dsimp only; omega, by rw [hR]; dsimp only; omega⟩ dL_refuses_375 (fun v375 C9 L9 h9 => ?_)
  obtain ⟨rfl, rfl, rfl⟩ := h9
  refine k_ldc X kb_73 dL_refuses_378 ?_
  refine k_icmp_ne (tgt := 653) X dL_refuses_380 (by decide) (fun c380 => absurd c380 (fun z => z rfl)) (fun c380 => ?_)
  refine k_aload_n X dL_refuses_383 rfl rfl ?_
  refine k_iload X dL_refuses_384 rfl ?_
  refine k_iload_n X dL_refuses_386 rfl rfl ?_
  refine k_iconst (v := (nI 0)) X dL_refuses_387 (by decide) ?_
  refine k_iconst (v := (nI 1)) X dL_refuses_388 (by decide) ?_
  refine k_callSH (rest := []) X ksh_change kb_254 (r_change_IS X.tr hX hO F.h3 (nI d) no (nI 0) (nI 1) F.hd rfl kK01 F.nk) rfl rfl (Nat.le_of_ble_eq_true rfl) ⟨by rw [hR]; exact Nat.le_of_ble_eq_true rfl, by rw [hR]; exact Nat.le_of_ble_eq_true rfl⟩ ⟨by rw [hR]; dsimp only; omega, by rw [hR]; dsimp only; omega⟩ dL_refuses_389 (fun v389 C9 L9 h9 => ?_)
  obtain ⟨rfl, rfl, rfl⟩ := h9
  refine k_ldc X kb_74 dL_refuses_392 ?_
  refine k_icmp_ne (tgt := 653) X dL_refuses_394 (by decide) (fun c394 => absurd c394 (fun z => z rfl)) (fun c394 => ?_)
  exact k _ _ (by omega) (by omega)

set_option maxHeartbeats 4000000 in
set_option maxRecDepth 100000 in
theorem rf_397 {Γ : kG} {E : kE} {A : Nat → Prop} {C : kC} {L : kL} {S : kI4} {N : kN3} (X : kX Γ E A cL_refuses RL) (hN : kNl Γ = 8) (hR : kRm Γ = ({ frames := 11, cells := 400, slots := 12000, locals := 268 } : Room)) (hX : isX E C L S N) (hO : okX S N) {T : Nat} (V : vS S N T) {x d : Nat} {no od : Int32} {f : Nat → Int32} (F : kRf E C S N f x d no od) {cells slots : Nat} (hc : cells + 24 ≤ 400) (hs : slots + 4094 ≤ 12000) (k : ∀ c s, c = cells + 24 → s = slots + 4094 → kW Γ E A C L c s 483 [(0, .ref (L (1, 0, 0))), (1, .ref (L (200, 0, 0))), (2, .int (nI x)), (3, .int no), (4, .int od), (5, .int (nI d))] []) : kW Γ E A C L cells slots 397 [(0, .ref (L (1, 0, 0))), (1, .ref (L (200, 0, 0))), (2, .int (nI x)), (3, .int no), (4, .int od), (5, .int (nI d))] [] := by
  have hx := F.hx
  have hd := F.hd
  refine k_aload_n X dL_refuses_397 rfl rfl ?_
  refine k_iload X dL_refuses_398 rfl ?_
  refine k_sipush (v := (nI 1000)) X dL_refuses_400 (by decide) ?_
  refine k_aload_n X dL_refuses_403 rfl rfl ?_
  refine k_iload X dL_refuses_404 rfl ?_
  refine k_iald X F.na rfl (pk_in d 4 F.hd) dL_refuses_406 ?_
  refine k_rw (y := nI (N 2 d 0)) F.n2 ?_
  refine k_iaddN X dL_refuses_407 ?_
  refine k_iload_n X dL_refuses_408 rfl rfl ?_
  refine k_iaddN X dL_refuses_409 ?_
  refine k_iconst (v := (nI 0)) X dL_refuses_410 (by decide) ?_
  refine k_iconst (v := (nI 1)) X dL_refuses_411 (by decide) ?_
  refine k_callSH (rest := []) X ksh_change kb_254 (r_change_IS X.tr hX hO F.h3 (nI d) (nI ((1000 + (N 2 d 0)) + x)) (nI 0) (nI 1) F.hd rfl kK01 F.big2) rfl rfl (Nat.le_of_ble_eq_true rfl) ⟨by rw [hR]; exact Nat.le_of_ble_eq_true rfl, by rw [hR]; exact Nat.le_of_ble_eq_true rfl⟩ ⟨by rw [hR]; dsimp only; omega, by rw [hR]; dsimp only; omega⟩ dL_refuses_412 (fun v412 C9 L9 h9 => ?_)
  obtain ⟨rfl, rfl, rfl⟩ := h9
  refine k_ldc X kb_74 dL_refuses_415 ?_
  refine k_icmp_ne (tgt := 653) X dL_refuses_417 (by decide) (fun c417 => absurd c417 (fun z => z rfl)) (fun c417 => ?_)
  refine k_aload_n X dL_refuses_420 rfl rfl ?_
  refine k_iload X dL_refuses_421 rfl ?_
  refine k_bipush (v := (nI 99)) X dL_refuses_423 (by decide) ?_
  refine k_callSH (rest := []) X ksh_make kb_304 (r_make_IO X.tr hX hO F.h23 od (nI 99) F.hod) rfl rfl (Nat.le_of_ble_eq_true rfl) ⟨by rw [hR]; exact Nat.le_of_ble_eq_true rfl, by rw [hR]; exact Nat.le_of_ble_eq_true rfl⟩ ⟨by rw [hR]; dsimp only; omega, by rw [hR]; dsimp only; omega⟩ dL_refuses_425 (fun v425 C9 L9 h9 => ?_)
  obtain ⟨rfl, rfl, rfl⟩ := h9
  refine k_ldc X kb_162 dL_refuses_428 ?_
  refine k_icmp_ne (tgt := 653) X dL_refuses_430 (by decide) (fun c430 => absurd c430 (fun z => z rfl)) (fun c430 => ?_)
  refine k_aload_n X dL_refuses_433 rfl rfl ?_
  refine k_iload X dL_refuses_434 rfl ?_
  refine k_bipush (v := (nI 10)) X dL_refuses_436 (by decide) ?_
  refine k_iload_n X dL_refuses_438 rfl rfl ?_
  refine k_iaddN X dL_refuses_439 ?_
  refine k_callSH (rest := []) X ksh_make kb_304 (r_make_IA X.tr hX hO F.h23 (nI d) (nI (10 + x)) (fun z => kbig (by decide) (by omega) z) (kix.of F.hd (by decide))) rfl rfl (Nat.le_of_ble_eq_true rfl) ⟨by rw [hR]; exact Nat.le_of_ble_eq_true rfl, by rw [hR]; exact Nat.le_of_ble_eq_true rfl⟩ ⟨by rw [hR]; dsimp only; omega, by rw [hR]; dsimp only; omega⟩ dL_refuses_440 (fun v440 C9 L9 h9 => ?_)
  obtain ⟨rfl, rfl, rfl⟩ := h9
  refine k_ldc X kb_73 dL_refuses_443 ?_
  refine k_icmp_ne (tgt := 653) X dL_refuses_445 (by decide) (fun c445 => absurd c445 (fun z => z rfl)) (fun c445 => ?_)
  refine k_aload_n X dL_refuses_448 rfl rfl ?_
  refine k_iload X dL_refuses_449 rfl ?_
  refine k_sipush (v := (nI 1000)) X dL_refuses_451 (by decide) ?_
  refine k_callSH (rest := []) X ksh_numberOf kb_434 (r_numberOf_IO X.tr hX hO od (nI 1000) F.hod) rfl rfl (Nat.le_of_ble_eq_true rfl) ⟨by rw [hR]; exact Nat.le_of_ble_eq_true rfl, by rw [hR]; exact Nat.le_of_ble_eq_true rfl⟩ ⟨by rw [hR]; dsimp only; omega, by rw [hR]; dsimp only; omega⟩ dL_refuses_454 (fun v454 C9 L9 h9 => ?_)
  obtain ⟨rfl, rfl, rfl⟩ := h9
  refine k_ldc X kb_162 dL_refuses_457 ?_
  refine k_icmp_ne (tgt := 653) X dL_refuses_459 (by decide) (fun c459 => absurd c459 (fun z => z rfl)) (fun c459 => ?_)
  refine k_aload_n X dL_refuses_462 rfl rfl ?_
  refine k_iload X dL_refuses_463 rfl ?_
  refine k_sipush (v := (nI 1000)) X dL_refuses_465 (by decide) ?_
  refine k_aload_n X dL_refuses_468 rfl rfl ?_
  refine k_iload X dL_refuses_469 rfl ?_
  refine k_iald X F.na rfl (pk_in d 4 F.hd) dL_refuses_471 ?_
  refine k_rw (y := nI (N 2 d 0)) F.n2 ?_
  refine k_iaddN X dL_refuses_472 ?_
  refine k_iload_n X dL_refuses_473 rfl rfl ?_
  refine k_iaddN X dL_refuses_474 ?_
  refine k_callSH (rest := []) X ksh_numberOf kb_434 (r_numberOf_IA X.tr hX hO (nI d) (nI ((1000 + (N 2 d 0)) + x)) F.hd rfl (fun k hk => F.big3 k hk)) rfl rfl (Nat.le_of_ble_eq_true rfl) ⟨by rw [hR]; exact Nat.le_of_ble_eq_true rfl, by rw [hR]; exact Nat.le_of_ble_eq_true rfl⟩ ⟨by rw [hR]; dsimp only; omega, by rw [hR]; dsimp only; omega⟩ dL_refuses_475 (fun v475 C9 L9 h9 => ?_)
  obtain ⟨rfl, rfl, rfl⟩ := h9
  refine k_ldc X kb_73 dL_refuses_478 ?_
  refine k_icmp_ne (tgt := 653) X dL_refuses_480 (by decide) (fun c480 => absurd c480 (fun z => z rfl)) (fun c480 => ?_)
  exact k _ _ (by omega) (by omega)

set_option maxHeartbeats 4000000 in
set_option maxRecDepth 100000 in
theorem rf_483 {Γ : kG} {E : kE} {A : Nat → Prop} {C : kC} {L : kL} {S : kI4} {N : kN3} (X : kX Γ E A cL_refuses RL) (hN : kNl Γ = 8) (hR : kRm Γ = ({ frames := 11, cells := 400, slots := 12000, locals := 268 } : Room)) (hX : isX E C L S N) (hO : okX S N) {T : Nat} (V : vS S N T) {x d : Nat} {no od : Int32} {f : Nat → Int32} (F : kRf E C S N f x d no od) {cells slots : Nat} (hc : cells + 12 ≤ 400) (hs : slots + 72 ≤ 12000) (k : ∀ c s, c = cells + 12 → s = slots + 72 → kW Γ E A C L c s 572 [(0, .ref (L (1, 0, 0))), (1, .ref (L (200, 0, 0))), (2, .int (nI x)), (3, .int no), (4, .int od), (5, .int (nI d))] []) : kW Γ E A C L cells slots 483 [(0, .ref (L (1, 0, 0))), (1, .ref (L (200, 0, 0))), (2, .int (nI x)), (3, .int no), (4, .int od), (5, .int (nI d))] [] := by
  have hx := F.hx
  have hd := F.hd
  refine k_aload_n X dL_refuses_483 rfl rfl ?_
  refine k_iload X dL_refuses_484 rfl ?_
  refine k_sipush (v := (nI 999)) X dL_refuses_486 (by decide) ?_
  refine k_iload_n X dL_refuses_489 rfl rfl ?_
  refine k_isub X dL_refuses_490 ?_
  refine k_callSH (rest := []) X ksh_numberOf kb_434 (r_numberOf_IA X.tr hX hO (nI d) ((nI 999) - (nI x)) F.hd rfl (fun k hk => F.k999 k hk)) rfl rfl (Nat.le_of_ble_eq_true rfl) ⟨by rw [hR]; exact Nat.le_of_ble_eq_true rfl, by rw [hR]; exact Nat.le_of_ble_eq_true rfl⟩ ⟨by rw [hR]; dsimp only; omega, by rw [hR]; dsimp only; omega⟩ dL_refuses_491 (fun v491 C9 L9 h9 => ?_)
  obtain ⟨rfl, rfl, rfl⟩ := h9
  refine k_ldc X kb_73 dL_refuses_494 ?_
  refine k_icmp_ne (tgt := 653) X dL_refuses_496 (by decide) (fun c496 => absurd c496 (fun z => z rfl)) (fun c496 => ?_)
  refine k_aload_n X dL_refuses_499 rfl rfl ?_
  refine k_iload X dL_refuses_500 rfl ?_
  refine k_iconst (v := (nI 0)) X dL_refuses_502 (by decide) ?_
  refine k_callSH (rest := []) X ksh_send kb_331 (r_send_IO X.tr hX hO F.h54 od (nI 0) F.hod) rfl rfl (Nat.le_of_ble_eq_true rfl) ⟨by rw [hR]; exact Nat.le_of_ble_eq_true rfl, by rw [hR]; exact Nat.le_of_ble_eq_true rfl⟩ ⟨by rw [hR]; dsimp only; omega, by rw [hR]; dsimp only; omega⟩ dL_refuses_503 (fun v503 C9 L9 h9 => ?_)
  obtain ⟨rfl, rfl, rfl⟩ := h9
  refine k_ldc X kb_162 dL_refuses_506 ?_
  refine k_icmp_ne (tgt := 653) X dL_refuses_508 (by decide) (fun c508 => absurd c508 (fun z => z rfl)) (fun c508 => ?_)
  refine k_aload_n X dL_refuses_511 rfl rfl ?_
  refine k_iload X dL_refuses_512 rfl ?_
  refine k_iconst (v := (nI 0)) X dL_refuses_514 (by decide) ?_
  refine k_callSH (rest := []) X ksh_send kb_331 (r_send_IA X.tr hX hO F.h54 (nI d) (nI 0) ⟨kix.of F.hd (by decide), kin01⟩) rfl rfl (Nat.le_of_ble_eq_true rfl) ⟨by rw [hR]; exact Nat.le_of_ble_eq_true rfl, by rw [hR]; exact Nat.le_of_ble_eq_true rfl⟩ ⟨by rw [hR]; dsimp only; omega, by rw [hR]; dsimp only; omega⟩ dL_refuses_515 (fun v515 C9 L9 h9 => ?_)
  obtain ⟨rfl, rfl, rfl⟩ := h9
  refine k_ldc X kb_73 dL_refuses_518 ?_
  refine k_icmp_ne (tgt := 653) X dL_refuses_520 (by decide) (fun c520 => absurd c520 (fun z => z rfl)) (fun c520 => ?_)
  refine k_aload_n X dL_refuses_523 rfl rfl ?_
  refine k_iload X dL_refuses_524 rfl ?_
  refine k_bipush (v := (nI 101)) X dL_refuses_526 (by decide) ?_
  refine k_iload_n X dL_refuses_528 rfl rfl ?_
  refine k_iaddN X dL_refuses_529 ?_
  refine k_callSH (rest := []) X ksh_send kb_331 (r_send_IA X.tr hX hO F.h54 (nI d) (nI (101 + x)) ⟨kix.of F.hd (by decide), (fun z => kbig (by decide) (by omega) z)⟩) rfl rfl (Nat.le_of_ble_eq_true rfl) ⟨by rw [hR]; exact Nat.le_of_ble_eq_true rfl, by rw [hR]; exact Nat.le_of_ble_eq_true rfl⟩ ⟨by rw [hR]; dsimp only; omega, by rw [hR]; dsimp only; omega⟩ dL_refuses_530 (fun v530 C9 L9 h9 => ?_)
  obtain ⟨rfl, rfl, rfl⟩ := h9
  refine k_ldc X kb_73 dL_refuses_533 ?_
  refine k_icmp_ne (tgt := 653) X dL_refuses_535 (by decide) (fun c535 => absurd c535 (fun z => z rfl)) (fun c535 => ?_)
  refine k_aload_n X dL_refuses_538 rfl rfl ?_
  refine k_iload X dL_refuses_539 rfl ?_
  refine k_callSH (rest := []) X ksh_waiting kb_324 (r_waiting_IO X.tr hX hO od F.hod) rfl rfl (Nat.le_of_ble_eq_true rfl) ⟨by rw [hR]; exact Nat.le_of_ble_eq_true rfl, by rw [hR]; exact Nat.le_of_ble_eq_true rfl⟩ ⟨by rw [hR]; dsimp only; omega, by rw [hR]; dsimp only; omega⟩ dL_refuses_541 (fun v541 C9 L9 h9 => ?_)
  obtain ⟨rfl, rfl, rfl⟩ := h9
  refine k_ldc X kb_162 dL_refuses_544 ?_
  refine k_icmp_ne (tgt := 653) X dL_refuses_546 (by decide) (fun c546 => absurd c546 (fun z => z rfl)) (fun c546 => ?_)
  refine k_aload_n X dL_refuses_549 rfl rfl ?_
  refine k_iload X dL_refuses_550 rfl ?_
  refine k_callSH (rest := []) X ksh_pile kb_442 (r_pile_IO X.tr hX hO od F.hod) rfl rfl (Nat.le_of_ble_eq_true rfl) ⟨by rw [hR]; exact Nat.le_of_ble_eq_true rfl, by rw [hR]; exact Nat.le_of_ble_eq_true rfl⟩ ⟨by rw [hR]; dsimp only; omega, by rw [hR]; dsimp only; omega⟩ dL_refuses_552 (fun v552 C9 L9 h9 => ?_)
  obtain ⟨rfl, rfl, rfl⟩ := h9
  refine k_ldc X kb_162 dL_refuses_555 ?_
  refine k_icmp_ne (tgt := 653) X dL_refuses_557 (by decide) (fun c557 => absurd c557 (fun z => z rfl)) (fun c557 => ?_)
  refine k_aload_n X dL_refuses_560 rfl rfl ?_
  refine k_iload X dL_refuses_561 rfl ?_
  refine k_iconst (v := (nI 0)) X dL_refuses_563 (by decide) ?_
  refine k_callSH (rest := []) X ksh_reason kb_450 (r_reason_IO X.tr hX hO od (nI 0) (Or.inl F.hod)) rfl rfl (Nat.le_of_ble_eq_true rfl) ⟨by rw [hR]; exact Nat.le_of_ble_eq_true rfl, by rw [hR]; exact Nat.le_of_ble_eq_true rfl⟩ ⟨by rw [hR]; dsimp only; omega, by rw [hR]; dsimp only; omega⟩ dL_refuses_564 (fun v564 C9 L9 h9 => ?_)
  obtain ⟨rfl, rfl, rfl⟩ := h9
  refine k_ldc X kb_162 dL_refuses_567 ?_
  refine k_icmp_ne (tgt := 653) X dL_refuses_569 (by decide) (fun c569 => absurd c569 (fun z => z rfl)) (fun c569 => ?_)
  exact k _ _ (by omega) (by omega)

set_option maxHeartbeats 4000000 in
set_option maxRecDepth 100000 in
theorem rf_572 {Γ : kG} {E : kE} {A : Nat → Prop} {C : kC} {L : kL} {S : kI4} {N : kN3} (X : kX Γ E A cL_refuses RL) (hN : kNl Γ = 8) (hR : kRm Γ = ({ frames := 11, cells := 400, slots := 12000, locals := 268 } : Room)) (hX : isX E C L S N) (hO : okX S N) {T : Nat} (V : vS S N T) {x d : Nat} {no od : Int32} {f : Nat → Int32} (F : kRf E C S N f x d no od) {cells slots : Nat} (hc : cells + 10 ≤ 400) (hs : slots + 60 ≤ 12000) (k : ∀ c s, c = cells + 10 → s = slots + 60 → kW Γ E A C L c s 649 [(0, .ref (L (1, 0, 0))), (1, .ref (L (200, 0, 0))), (2, .int (nI x)), (3, .int no), (4, .int od), (5, .int (nI d))] []) : kW Γ E A C L cells slots 572 [(0, .ref (L (1, 0, 0))), (1, .ref (L (200, 0, 0))), (2, .int (nI x)), (3, .int no), (4, .int od), (5, .int (nI d))] [] := by
  have hx := F.hx
  have hd := F.hd
  refine k_aload_n X dL_refuses_572 rfl rfl ?_
  refine k_iload X dL_refuses_573 rfl ?_
  refine k_iconst (v := (-1)) X dL_refuses_575 (by decide) ?_
  refine k_iload_n X dL_refuses_576 rfl rfl ?_
  refine k_isub X dL_refuses_577 ?_
  refine k_callSH (rest := []) X ksh_reason kb_450 (r_reason_IO X.tr hX hO (nI d) ((-1) - (nI x)) (Or.inr ⟨d, F.hd, rfl, (fun z => kneg3 (by omega) z)⟩)) rfl rfl (Nat.le_of_ble_eq_true rfl) ⟨by rw [hR]; exact Nat.le_of_ble_eq_true rfl, by rw [hR]; exact Nat.le_of_ble_eq_true rfl⟩ ⟨by rw [hR]; dsimp only; omega, by rw [hR]; dsimp only; omega⟩ dL_refuses_578 (fun v578 C9 L9 h9 => ?_)
  obtain ⟨rfl, rfl, rfl⟩ := h9
  refine k_ldc X kb_162 dL_refuses_581 ?_
  refine k_icmp_ne (tgt := 653) X dL_refuses_583 (by decide) (fun c583 => absurd c583 (fun z => z rfl)) (fun c583 => ?_)
  refine k_aload_n X dL_refuses_586 rfl rfl ?_
  refine k_iload X dL_refuses_587 rfl ?_
  refine k_aload_n X dL_refuses_589 rfl rfl ?_
  refine k_iload X dL_refuses_590 rfl ?_
  refine k_callSH (rest := [.int (nI d), .ref (L (1, 0, 0))]) X ksh_pile kb_442 (g_pile X.tr hX hO F.hd) rfl rfl (Nat.le_of_ble_eq_true rfl) ⟨by rw [hR]; exact Nat.le_of_ble_eq_true rfl, by rw [hR]; exact Nat.le_of_ble_eq_true rfl⟩ ⟨by rw [hR]; dsimp only; omega, by rw [hR]; dsimp only; omega⟩ dL_refuses_592 (fun v592 C9 L9 h9 => ?_)
  obtain ⟨rfl, rfl, rfl⟩ := h9
  refine k_iload_n X dL_refuses_595 rfl rfl ?_
  refine k_iaddN X dL_refuses_596 ?_
  refine k_callSH (rest := []) X ksh_reason kb_450 (r_reason_IO X.tr hX hO (nI d) (nI ((N 5 d 0) + x)) (Or.inr ⟨d, F.hd, rfl, (fun z => absurd z.2 (nI_nlt (by omega) (by have := (hO.2 d F.hd).2.2.2.1; omega)))⟩)) rfl rfl (Nat.le_of_ble_eq_true rfl) ⟨by rw [hR]; exact Nat.le_of_ble_eq_true rfl, by rw [hR]; exact Nat.le_of_ble_eq_true rfl⟩ ⟨by rw [hR]; dsimp only; omega, by rw [hR]; dsimp only; omega⟩ dL_refuses_597 (fun v597 C9 L9 h9 => ?_)
  obtain ⟨rfl, rfl, rfl⟩ := h9
  refine k_ldc X kb_162 dL_refuses_600 ?_
  refine k_icmp_ne (tgt := 653) X dL_refuses_602 (by decide) (fun c602 => absurd c602 (fun z => z rfl)) (fun c602 => ?_)
  refine k_aload_n X dL_refuses_605 rfl rfl ?_
  refine k_iload X dL_refuses_606 rfl ?_
  refine k_aload_n X dL_refuses_608 rfl rfl ?_
  refine k_iload X dL_refuses_609 rfl ?_
  refine k_callSH (rest := [.int (nI d), .ref (L (1, 0, 0))]) X ksh_pile kb_442 (g_pile X.tr hX hO F.hd) rfl rfl (Nat.le_of_ble_eq_true rfl) ⟨by rw [hR]; exact Nat.le_of_ble_eq_true rfl, by rw [hR]; exact Nat.le_of_ble_eq_true rfl⟩ ⟨by rw [hR]; dsimp only; omega, by rw [hR]; dsimp only; omega⟩ dL_refuses_611 (fun v611 C9 L9 h9 => ?_)
  obtain ⟨rfl, rfl, rfl⟩ := h9
  refine k_callSH (rest := []) X ksh_refusedValue kb_463 (r_refusedValue_IO X.tr hX hO (nI d) (nI (N 5 d 0)) (Or.inr ⟨d, F.hd, rfl, (fun z => absurd z.2 (nI_nlt (Nat.le_refl _) (by have := (hO.2 d F.hd).2.2.2.1; omega)))⟩)) rfl rfl (Nat.le_of_ble_eq_true rfl) ⟨by rw [hR]; exact Nat.le_of_ble_eq_true rfl, by rw [hR]; exact Nat.le_of_ble_eq_true rfl⟩ ⟨by rw [hR]; dsimp only; omega, by rw [hR]; dsimp only; omega⟩ dL_refuses_614 (fun v614 C9 L9 h9 => ?_)
  obtain ⟨rfl, rfl, rfl⟩ := h9
  refine k_ldc X kb_162 dL_refuses_617 ?_
  refine k_icmp_ne (tgt := 653) X dL_refuses_619 (by decide) (fun c619 => absurd c619 (fun z => z rfl)) (fun c619 => ?_)
  refine k_aload_n X dL_refuses_622 rfl rfl ?_
  refine k_iload X dL_refuses_623 rfl ?_
  refine k_iload_n X dL_refuses_625 rfl rfl ?_
  refine k_callSH (rest := []) X ksh_holds kb_420 (g_holds0 X.tr hX hO F.hd no F.nk) rfl rfl (Nat.le_of_ble_eq_true rfl) ⟨by rw [hR]; exact Nat.le_of_ble_eq_true rfl, by rw [hR]; exact Nat.le_of_ble_eq_true rfl⟩ ⟨by rw [hR]; dsimp only; omega, by rw [hR]; dsimp only; omega⟩ dL_refuses_626 (fun v626 C9 L9 h9 => ?_)
  obtain ⟨rfl, rfl, rfl⟩ := h9
  refine k_if_ne (tgt := 653) X dL_refuses_629 (by decide) (fun c629 => absurd c629 (fun z => z (by decide))) (fun c629 => ?_)
  refine k_aload_n X dL_refuses_632 rfl rfl ?_
  refine k_iload X dL_refuses_633 rfl ?_
  refine k_sipush (v := (nI 1000)) X dL_refuses_635 (by decide) ?_
  refine k_aload_n X dL_refuses_638 rfl rfl ?_
  refine k_iload X dL_refuses_639 rfl ?_
  refine k_iald X F.na rfl (pk_in d 4 F.hd) dL_refuses_641 ?_
  refine k_rw (y := nI (N 2 d 0)) F.n2 ?_
  refine k_iaddN X dL_refuses_642 ?_
  refine k_callSH (rest := []) X ksh_holds kb_420 (g_holds0 X.tr hX hO F.hd (nI (1000 + (N 2 d 0))) F.big0) rfl rfl (Nat.le_of_ble_eq_true rfl) ⟨by rw [hR]; exact Nat.le_of_ble_eq_true rfl, by rw [hR]; exact Nat.le_of_ble_eq_true rfl⟩ ⟨by rw [hR]; dsimp only; omega, by rw [hR]; dsimp only; omega⟩ dL_refuses_643 (fun v643 C9 L9 h9 => ?_)
  obtain ⟨rfl, rfl, rfl⟩ := h9
  refine k_if_ne (tgt := 653) X dL_refuses_646 (by decide) (fun c646 => absurd c646 (fun z => z (by decide))) (fun c646 => ?_)
  exact k _ _ (by omega) (by omega)

set_option maxHeartbeats 4000000 in
set_option maxRecDepth 100000 in
theorem rf_829 {Γ : kG} {E : kE} {A : Nat → Prop} {C : kC} {L : kL} {S : kI4} {N : kN3} (X : kX Γ E A cL_refuses RL) (hN : kNl Γ = 8) (hR : kRm Γ = ({ frames := 11, cells := 400, slots := 12000, locals := 268 } : Room)) (hX : isX E C L S N) (hO : okX S N) {T : Nat} (V : vS S N T) {x d : Nat} {no od : Int32} {f : Nat → Int32} (F : kRf E C S N f x d no od) (hE : kEnd Γ E A (fun v C' L' => v = some (.int (nI 1)) ∧ L = L' ∧ C = C') 400 12000 (some .boolean)) {cells slots : Nat} (hc : cells + 6 ≤ 400) (hs : slots + 110 ≤ 12000) : kW Γ E A C L cells slots 829 [(0, .ref (L (1, 0, 0))), (1, .ref (L (200, 0, 0))), (2, .int (nI x)), (3, .int no), (4, .int od), (5, .int (nI d)), (6, .int (nI 1))] [] := by
  refine k_iload X dL_refuses_829 rfl ?_
  refine k_if_eq (tgt := 858) X dL_refuses_831 (by decide) (fun c831 => absurd c831 (by decide)) (fun c831 => ?_)
  refine k_aload_n X dL_refuses_834 rfl rfl ?_
  refine k_callV (rest := []) X kv_X5_jobs kb_59 (c_jobs X.tr hX hO) hX.1.1.1 rfl rfl rfl rfl rfl (Nat.le_of_ble_eq_true rfl) ⟨by rw [hR]; exact Nat.le_of_ble_eq_true rfl, by rw [hR]; exact Nat.le_of_ble_eq_true rfl⟩ ⟨by rw [hR]; dsimp only; omega, by rw [hR]; dsimp only; omega⟩ dL_refuses_835 (fun v835 C9 L9 h9 => ?_)
  obtain ⟨rfl, rfl, rfl⟩ := h9
  refine k_bipush (v := (nI 40)) X dL_refuses_838 (by decide) ?_
  refine k_icmp_lt (tgt := 854) X dL_refuses_840 (by decide) (fun c840 => ?_) (fun c840 => ?_)
  ·
    refine k_iconst (v := (nI 1)) X dL_refuses_854 (by decide) ?_
    refine k_goto (tgt := 859) X dL_refuses_855 (by decide) ?_
    exact k_zret X hE kz1 dL_refuses_859 (by first | omega | exact Nat.le_of_ble_eq_true rfl | (dsimp only; omega)) (by first | omega | exact Nat.le_of_ble_eq_true rfl | (dsimp only; omega)) ⟨rfl, rfl, rfl⟩
  ·
    have c40 : N 1 0 0 = 40 := by
      have := hO.1
      rw [nI_ltI (by omega) (by decide)] at c840
      omega
    refine k_aload_n X dL_refuses_843 rfl rfl ?_
    refine k_iconst (v := (nI 0)) X dL_refuses_844 (by decide) ?_
    refine k_iconst (v := (nI 0)) X dL_refuses_845 (by decide) ?_
    refine k_callSH (rest := []) X ksh_add kb_68 (r_add_IS X.tr hX hO (nI 0) (nI 0) ⟨(kin_ok (by decide) (by decide)), (kin_ok (by decide) (by decide))⟩ c40) rfl rfl (Nat.le_of_ble_eq_true rfl) ⟨by rw [hR]; exact Nat.le_of_ble_eq_true rfl, by rw [hR]; exact Nat.le_of_ble_eq_true rfl⟩ ⟨by rw [hR]; dsimp only; omega, by rw [hR]; dsimp only; omega⟩ dL_refuses_846 (fun v846 C9 L9 h9 => ?_)
    obtain ⟨rfl, rfl, rfl⟩ := h9
    refine k_ldc X kb_74 dL_refuses_849 ?_
    refine k_icmp_ne (tgt := 858) X dL_refuses_851 (by decide) (fun c851 => absurd c851 (fun z => z rfl)) (fun c851 => ?_)
    refine k_iconst (v := (nI 1)) X dL_refuses_854 (by decide) ?_
    refine k_goto (tgt := 859) X dL_refuses_855 (by decide) ?_
    exact k_zret X hE kz1 dL_refuses_859 (by first | omega | exact Nat.le_of_ble_eq_true rfl | (dsimp only; omega)) (by first | omega | exact Nat.le_of_ble_eq_true rfl | (dsimp only; omega)) ⟨rfl, rfl, rfl⟩

set_option maxHeartbeats 4000000 in
set_option maxRecDepth 100000 in
theorem rf_649 {Γ : kG} {E : kE} {A : Nat → Prop} {C : kC} {L : kL} {S : kI4} {N : kN3} (X : kX Γ E A cL_refuses RL) (hN : kNl Γ = 8) (hR : kRm Γ = ({ frames := 11, cells := 400, slots := 12000, locals := 268 } : Room)) (hX : isX E C L S N) (hO : okX S N) {T : Nat} (V : vS S N T) {x d : Nat} {no od : Int32} {f : Nat → Int32} (F : kRf E C S N f x d no od) (hE : kEnd Γ E A (fun v C' L' => v = some (.int (nI 1)) ∧ L = L' ∧ C = C') 400 12000 (some .boolean)) {cells slots : Nat} (hc : cells + 40 ≤ 400) (hs : slots + 1200 ≤ 12000) : kW Γ E A C L cells slots 649 [(0, .ref (L (1, 0, 0))), (1, .ref (L (200, 0, 0))), (2, .int (nI x)), (3, .int no), (4, .int od), (5, .int (nI d))] [] := by
  have hx := F.hx
  have hd := F.hd
  refine k_iconst (v := (nI 1)) X dL_refuses_649 (by decide) ?_
  refine k_goto (tgt := 654) X dL_refuses_650 (by decide) ?_
  refine k_istore X dL_refuses_654 (by rw [hN]; decide) ?_
  refine k_iload X dL_refuses_656 rfl ?_
  refine k_if_eq (tgt := 829) X dL_refuses_658 (by decide) (fun c658 => absurd c658 (by decide)) (fun c658 => ?_)
  refine k_aload_n X dL_refuses_661 rfl rfl ?_
  refine k_callV (rest := []) X kv_X5_jobs kb_59 (c_jobs X.tr hX hO) hX.1.1.1 rfl rfl rfl rfl rfl (Nat.le_of_ble_eq_true rfl) ⟨by rw [hR]; exact Nat.le_of_ble_eq_true rfl, by rw [hR]; exact Nat.le_of_ble_eq_true rfl⟩ ⟨by rw [hR]; dsimp only; omega, by rw [hR]; dsimp only; omega⟩ dL_refuses_662 (fun v662 C9 L9 h9 => ?_)
  obtain ⟨rfl, rfl, rfl⟩ := h9
  refine k_if_le (tgt := 829) X dL_refuses_665 (by decide) (fun c665 => k_lo (lo' := [(0, .ref (L (1, 0, 0))), (1, .ref (L (200, 0, 0))), (2, .int (nI x)), (3, .int no), (4, .int od), (5, .int (nI d)), (6, .int (nI 1))]) ⟨rfl, rfl, rfl, rfl, rfl, rfl, rfl, trivial⟩ (rf_829 X hN hR hX hO V F hE (by omega) (by omega))) (fun c665 => ?_)
  have hjp : 0 < N 1 0 0 := by
    rcases Nat.eq_zero_or_pos (N 1 0 0) with z | z
    · exact absurd (by rw [z]; decide) c665
    · exact z
  have hj40 := hO.1
  refine k_iload_n X dL_refuses_668 rfl rfl ?_
  refine k_iconst (v := (nI 4)) X dL_refuses_669 (by decide) ?_
  refine k_idivN X (by omega) (by omega) (by omega) dL_refuses_670 ?_
  refine k_aload_n X dL_refuses_671 rfl rfl ?_
  refine k_callV (rest := [.int (nI (x / 4))]) X kv_X5_jobs kb_59 (c_jobs X.tr hX hO) hX.1.1.1 rfl rfl rfl rfl rfl (Nat.le_of_ble_eq_true rfl) ⟨by rw [hR]; exact Nat.le_of_ble_eq_true rfl, by rw [hR]; exact Nat.le_of_ble_eq_true rfl⟩ ⟨by rw [hR]; dsimp only; omega, by rw [hR]; dsimp only; omega⟩ dL_refuses_672 (fun v672 C9 L9 h9 => ?_)
  obtain ⟨rfl, rfl, rfl⟩ := h9
  refine k_iremN X (by omega) (by omega) (by omega) dL_refuses_675 ?_
  obtain ⟨jj, hjj2, hjj⟩ : ∃ jj, x / 4 % N 1 0 0 = jj ∧ jj < N 1 0 0 := ⟨_, rfl, Nat.mod_lt _ hjp⟩
  rw [hjj2]
  have hkj : kix (nI jj) (N 1 0 0) := kix.of hjj (by omega)
  refine k_istore X dL_refuses_676 (by rw [hN]; decide) ?_
  refine k_aload_n X dL_refuses_678 rfl rfl ?_
  refine k_iload X dL_refuses_679 rfl ?_
  refine k_iload X dL_refuses_681 rfl ?_
  refine k_callSH (rest := []) X ksh_give kb_158 (r_give_IA X.tr hX hO (nI jj) od (fun z => F.hod (kin4 z)) hkj) rfl rfl (Nat.le_of_ble_eq_true rfl) ⟨by rw [hR]; exact Nat.le_of_ble_eq_true rfl, by rw [hR]; exact Nat.le_of_ble_eq_true rfl⟩ ⟨by rw [hR]; dsimp only; omega, by rw [hR]; dsimp only; omega⟩ dL_refuses_683 (fun v683 C9 L9 h9 => ?_)
  obtain ⟨rfl, rfl, rfl⟩ := h9
  refine k_ldc X kb_73 dL_refuses_686 ?_
  refine k_icmp_ne (tgt := 826) X dL_refuses_688 (by decide) (fun c688 => absurd c688 (fun z => z rfl)) (fun c688 => ?_)
  refine k_aload_n X dL_refuses_691 rfl rfl ?_
  refine k_iload X dL_refuses_692 rfl ?_
  refine k_iconst (v := (nI 2)) X dL_refuses_694 (by decide) ?_
  refine k_iload_n X dL_refuses_695 rfl rfl ?_
  refine k_iaddN X dL_refuses_696 ?_
  refine k_iconst (v := (nI 0)) X dL_refuses_697 (by decide) ?_
  refine k_callSH (rest := []) X ksh_set kb_191 (r_set_IA X.tr hX hO (nI jj) (nI (2 + x)) (nI 0) (fun z => kbig (by decide) (by omega) z.1) hkj) rfl rfl (Nat.le_of_ble_eq_true rfl) ⟨by rw [hR]; exact Nat.le_of_ble_eq_true rfl, by rw [hR]; exact Nat.le_of_ble_eq_true rfl⟩ ⟨by rw [hR]; dsimp only; omega, by rw [hR]; dsimp only; omega⟩ dL_refuses_698 (fun v698 C9 L9 h9 => ?_)
  obtain ⟨rfl, rfl, rfl⟩ := h9
  refine k_ldc X kb_73 dL_refuses_701 ?_
  refine k_icmp_ne (tgt := 826) X dL_refuses_703 (by decide) (fun c703 => absurd c703 (fun z => z rfl)) (fun c703 => ?_)
  refine k_aload_n X dL_refuses_706 rfl rfl ?_
  refine k_iload X dL_refuses_707 rfl ?_
  refine k_iconst (v := (nI 0)) X dL_refuses_709 (by decide) ?_
  refine k_iconst (v := (nI 3)) X dL_refuses_710 (by decide) ?_
  refine k_iload_n X dL_refuses_711 rfl rfl ?_
  refine k_iaddN X dL_refuses_712 ?_
  refine k_callSH (rest := []) X ksh_set kb_191 (r_set_IA X.tr hX hO (nI jj) (nI 0) (nI (3 + x)) (fun z => kbig0 (by omega) z.2) hkj) rfl rfl (Nat.le_of_ble_eq_true rfl) ⟨by rw [hR]; exact Nat.le_of_ble_eq_true rfl, by rw [hR]; exact Nat.le_of_ble_eq_true rfl⟩ ⟨by rw [hR]; dsimp only; omega, by rw [hR]; dsimp only; omega⟩ dL_refuses_713 (fun v713 C9 L9 h9 => ?_)
  obtain ⟨rfl, rfl, rfl⟩ := h9
  refine k_ldc X kb_73 dL_refuses_716 ?_
  refine k_icmp_ne (tgt := 826) X dL_refuses_718 (by decide) (fun c718 => absurd c718 (fun z => z rfl)) (fun c718 => ?_)
  refine k_aload_n X dL_refuses_721 rfl rfl ?_
  refine k_iload X dL_refuses_722 rfl ?_
  refine k_iconst (v := (nI 1)) X dL_refuses_724 (by decide) ?_
  refine k_sipush (v := (nI 10001)) X dL_refuses_725 (by decide) ?_
  refine k_iload_n X dL_refuses_728 rfl rfl ?_
  refine k_iaddN X dL_refuses_729 ?_
  refine k_callSH (rest := []) X ksh_set kb_191 (r_set_IA X.tr hX hO (nI jj) (nI 1) (nI (10001 + x)) (fun z => kbig1 (by omega) z.2) hkj) rfl rfl (Nat.le_of_ble_eq_true rfl) ⟨by rw [hR]; exact Nat.le_of_ble_eq_true rfl, by rw [hR]; exact Nat.le_of_ble_eq_true rfl⟩ ⟨by rw [hR]; dsimp only; omega, by rw [hR]; dsimp only; omega⟩ dL_refuses_730 (fun v730 C9 L9 h9 => ?_)
  obtain ⟨rfl, rfl, rfl⟩ := h9
  refine k_ldc X kb_73 dL_refuses_733 ?_
  refine k_icmp_ne (tgt := 826) X dL_refuses_735 (by decide) (fun c735 => absurd c735 (fun z => z rfl)) (fun c735 => ?_)
  refine k_aload_n X dL_refuses_738 rfl rfl ?_
  refine k_iload X dL_refuses_739 rfl ?_
  refine k_iconst (v := (nI 1)) X dL_refuses_741 (by decide) ?_
  refine k_iconst (v := (-1)) X dL_refuses_742 (by decide) ?_
  refine k_iload_n X dL_refuses_743 rfl rfl ?_
  refine k_isub X dL_refuses_744 ?_
  refine k_callSH (rest := []) X ksh_set kb_191 (r_set_IA X.tr hX hO (nI jj) (nI 1) ((-1) - (nI x)) (fun z => kneg (by omega) z.2) hkj) rfl rfl (Nat.le_of_ble_eq_true rfl) ⟨by rw [hR]; exact Nat.le_of_ble_eq_true rfl, by rw [hR]; exact Nat.le_of_ble_eq_true rfl⟩ ⟨by rw [hR]; dsimp only; omega, by rw [hR]; dsimp only; omega⟩ dL_refuses_745 (fun v745 C9 L9 h9 => ?_)
  obtain ⟨rfl, rfl, rfl⟩ := h9
  refine k_ldc X kb_73 dL_refuses_748 ?_
  refine k_icmp_ne (tgt := 826) X dL_refuses_750 (by decide) (fun c750 => absurd c750 (fun z => z rfl)) (fun c750 => ?_)
  refine k_aload_n X dL_refuses_753 rfl rfl ?_
  refine k_iload X dL_refuses_754 rfl ?_
  refine k_iconst (v := (nI 2)) X dL_refuses_756 (by decide) ?_
  refine k_iload_n X dL_refuses_757 rfl rfl ?_
  refine k_iaddN X dL_refuses_758 ?_
  refine k_callSH (rest := []) X ksh_value kb_395 (r_value_IA X.tr hX hO (nI jj) (nI (2 + x)) (fun z => kbig (by decide) (by omega) z) hkj) rfl rfl (Nat.le_of_ble_eq_true rfl) ⟨by rw [hR]; exact Nat.le_of_ble_eq_true rfl, by rw [hR]; exact Nat.le_of_ble_eq_true rfl⟩ ⟨by rw [hR]; dsimp only; omega, by rw [hR]; dsimp only; omega⟩ dL_refuses_759 (fun v759 C9 L9 h9 => ?_)
  obtain ⟨rfl, rfl, rfl⟩ := h9
  refine k_ldc X kb_73 dL_refuses_762 ?_
  refine k_icmp_ne (tgt := 826) X dL_refuses_764 (by decide) (fun c764 => absurd c764 (fun z => z rfl)) (fun c764 => ?_)
  refine k_aload_n X dL_refuses_767 rfl rfl ?_
  refine k_iload X dL_refuses_768 rfl ?_
  refine k_iconst (v := (-1)) X dL_refuses_770 (by decide) ?_
  refine k_iload_n X dL_refuses_771 rfl rfl ?_
  refine k_isub X dL_refuses_772 ?_
  refine k_callSH (rest := []) X ksh_version kb_406 (r_version_IA X.tr hX hO (nI jj) ((-1) - (nI x)) (fun z => kneg (by omega) z) hkj) rfl rfl (Nat.le_of_ble_eq_true rfl) ⟨by rw [hR]; exact Nat.le_of_ble_eq_true rfl, by rw [hR]; exact Nat.le_of_ble_eq_true rfl⟩ ⟨by rw [hR]; dsimp only; omega, by rw [hR]; dsimp only; omega⟩ dL_refuses_773 (fun v773 C9 L9 h9 => ?_)
  obtain ⟨rfl, rfl, rfl⟩ := h9
  refine k_ldc X kb_73 dL_refuses_776 ?_
  refine k_icmp_ne (tgt := 826) X dL_refuses_778 (by decide) (fun c778 => absurd c778 (fun z => z rfl)) (fun c778 => ?_)
  refine k_aload_n X dL_refuses_781 rfl rfl ?_
  refine k_iload X dL_refuses_782 rfl ?_
  refine k_iload X dL_refuses_784 rfl ?_
  refine k_callSH (rest := []) X ksh_holds kb_420 (g_holds X.tr hX hO V F.hd hjj) rfl rfl (Nat.le_of_ble_eq_true rfl) ⟨by rw [hR]; exact Nat.le_of_ble_eq_true rfl, by rw [hR]; exact Nat.le_of_ble_eq_true rfl⟩ ⟨by rw [hR]; dsimp only; omega, by rw [hR]; dsimp only; omega⟩ dL_refuses_786 (fun v786 C9 L9 h9 => ?_)
  obtain ⟨rfl, rfl, rfl⟩ := h9
  refine k_iconst (v := (nI 1)) X dL_refuses_789 (by decide) ?_
  refine k_icmp_eq (tgt := 822) X dL_refuses_790 (by decide) (fun c790 => ?_) (fun c790 => ?_)
  ·
    refine k_iconst (v := (nI 1)) X dL_refuses_822 (by decide) ?_
    refine k_goto (tgt := 827) X dL_refuses_823 (by decide) ?_
    refine k_istore X dL_refuses_827 (by rw [hN]; decide) ?_
    refine k_lo (lo' := [(0, .ref (L (1, 0, 0))), (1, .ref (L (200, 0, 0))), (2, .int (nI x)), (3, .int no), (4, .int od), (5, .int (nI d)), (6, .int (nI 1))]) ⟨rfl, rfl, rfl, rfl, rfl, rfl, rfl, trivial⟩ ?_
    exact rf_829 X hN hR hX hO V F hE (by omega) (by omega)
  ·
    have hnj : ∀ o, kHf S N d (nI jj) o → o = none := hf_no1 V hO F.hd hjj (by
      intro z
      refine c790 ?_
      unfold kCq
      rw [if_neg z])
    refine k_aload_n X dL_refuses_793 rfl rfl ?_
    refine k_iload X dL_refuses_794 rfl ?_
    refine k_iload X dL_refuses_796 rfl ?_
    refine k_iconst (v := (nI 1)) X dL_refuses_798 (by decide) ?_
    refine k_callSH (rest := []) X ksh_heldValue kb_427 (r_heldValue_IS X.tr hX hO (nI d) (nI jj) (nI 1) F.hd rfl (kin_ok (by decide) (by decide)) hnj) rfl rfl (Nat.le_of_ble_eq_true rfl) ⟨by rw [hR]; exact Nat.le_of_ble_eq_true rfl, by rw [hR]; exact Nat.le_of_ble_eq_true rfl⟩ ⟨by rw [hR]; dsimp only; omega, by rw [hR]; dsimp only; omega⟩ dL_refuses_799 (fun v799 C9 L9 h9 => ?_)
    obtain ⟨rfl, rfl, rfl⟩ := h9
    refine k_ldc X kb_74 dL_refuses_802 ?_
    refine k_icmp_ne (tgt := 826) X dL_refuses_804 (by decide) (fun c804 => absurd c804 (fun z => z rfl)) (fun c804 => ?_)
    refine k_aload_n X dL_refuses_807 rfl rfl ?_
    refine k_iload X dL_refuses_808 rfl ?_
    refine k_iload X dL_refuses_810 rfl ?_
    refine k_iconst (v := (nI 0)) X dL_refuses_812 (by decide) ?_
    refine k_iconst (v := (nI 1)) X dL_refuses_813 (by decide) ?_
    refine k_callSH (rest := []) X ksh_change kb_254 (r_change_IS X.tr hX hO F.h3 (nI d) (nI jj) (nI 0) (nI 1) F.hd rfl kK01 hnj) rfl rfl (Nat.le_of_ble_eq_true rfl) ⟨by rw [hR]; exact Nat.le_of_ble_eq_true rfl, by rw [hR]; exact Nat.le_of_ble_eq_true rfl⟩ ⟨by rw [hR]; dsimp only; omega, by rw [hR]; dsimp only; omega⟩ dL_refuses_814 (fun v814 C9 L9 h9 => ?_)
    obtain ⟨rfl, rfl, rfl⟩ := h9
    refine k_ldc X kb_74 dL_refuses_817 ?_
    refine k_icmp_ne (tgt := 826) X dL_refuses_819 (by decide) (fun c819 => absurd c819 (fun z => z rfl)) (fun c819 => ?_)
    refine k_iconst (v := (nI 1)) X dL_refuses_822 (by decide) ?_
    refine k_goto (tgt := 827) X dL_refuses_823 (by decide) ?_
    refine k_istore X dL_refuses_827 (by rw [hN]; decide) ?_
    refine k_lo (lo' := [(0, .ref (L (1, 0, 0))), (1, .ref (L (200, 0, 0))), (2, .int (nI x)), (3, .int no), (4, .int od), (5, .int (nI d)), (6, .int (nI 1))]) ⟨rfl, rfl, rfl, rfl, rfl, rfl, rfl, trivial⟩ ?_
    exact rf_829 X hN hR hX hO V F hE (by omega) (by omega)

set_option maxHeartbeats 4000000 in
set_option maxRecDepth 100000 in
theorem l_refuses {l : Launch} (htr : l.stackTraces = false) {E : kE} {A : Nat → Prop} {C : kC} {L : kL} {S : kI4} {N : kN3} (hX : isX E C L S N) (hO : okX S N) {T : Nat} (V : vS S N T) {x : Nat} (hx : x < 9973) {f : Nat → Int32} (hna : kNa E C f) (hn2 : ∀ d, d < 4 → f d = nI (N 2 d 0)) (h512 : ∀ d, d < 4 → N 3 d 0 < 512) : kM l yL_refuses cL_refuses 8 (some .boolean) 11 268 400 12000 E A C L [.ref (L (1, 0, 0)), .ref (L (200, 0, 0)), .int (nI x)] (fun v C' L' => v = some (.int (nI 1)) ∧ L = L' ∧ C = C') := by
  refine kM.of htr (by decide) (Nat.le_of_ble_eq_true rfl) (fun Γ hl hR hN hnm X hE => ?_)
  refine k_lo (lo' := [(0, .ref (L (1, 0, 0))), (1, .ref (L (200, 0, 0))), (2, .int (nI x))]) ⟨rfl, rfl, rfl, trivial⟩ ?_
  refine k_iload_n X dL_refuses_0 rfl rfl ?_
  refine k_iconst (v := (nI 2)) X dL_refuses_1 (by decide) ?_
  refine k_iremN X (by omega) (by omega) (by omega) dL_refuses_2 ?_
  refine k_if_ne (tgt := 15) X dL_refuses_3 (by decide) (fun c3 => ?_) (fun c3 => ?_)
  ·
    refine k_aload_n X dL_refuses_15 rfl rfl ?_
    refine k_callV (rest := []) X kv_X5_jobs kb_59 (c_jobs X.tr hX hO) hX.1.1.1 rfl rfl rfl rfl rfl (Nat.le_of_ble_eq_true rfl) ⟨by rw [hR]; exact Nat.le_of_ble_eq_true rfl, by rw [hR]; exact Nat.le_of_ble_eq_true rfl⟩ ⟨by rw [hR]; dsimp only; omega, by rw [hR]; dsimp only; omega⟩ dL_refuses_16 (fun v16 C9 L9 h9 => ?_)
    obtain ⟨rfl, rfl, rfl⟩ := h9
    refine k_iload_n X dL_refuses_19 rfl rfl ?_
    refine k_bipush (v := (nI 50)) X dL_refuses_20 (by decide) ?_
    refine k_iremN X (by omega) (by omega) (by omega) dL_refuses_22 ?_
    refine k_iaddN X dL_refuses_23 ?_
    refine k_istore_n X dL_refuses_24 rfl (by rw [hN]; decide) ?_
    refine k_iload_n X dL_refuses_25 rfl rfl ?_
    refine k_iconst (v := (nI 2)) X dL_refuses_26 (by decide) ?_
    refine k_iremN X (by omega) (by omega) (by omega) dL_refuses_27 ?_
    refine k_if_ne (tgt := 40) X dL_refuses_28 (by decide) (fun c28 => ?_) (fun c28 => absurd c28 c3)
    refine k_iconst (v := (nI 4)) X dL_refuses_40 (by decide) ?_
    refine k_iload_n X dL_refuses_41 rfl rfl ?_
    refine k_bipush (v := (nI 50)) X dL_refuses_42 (by decide) ?_
    refine k_iremN X (by omega) (by omega) (by omega) dL_refuses_44 ?_
    refine k_iaddN X dL_refuses_45 ?_
    refine k_istore X dL_refuses_46 (by rw [hN]; decide) ?_
    refine k_iload_n X dL_refuses_48 rfl rfl ?_
    refine k_iconst (v := (nI 4)) X dL_refuses_49 (by decide) ?_
    refine k_iremN X (by omega) (by omega) (by omega) dL_refuses_50 ?_
    refine k_istore X dL_refuses_51 (by rw [hN]; decide) ?_
    refine k_lo (lo' := [(0, .ref (L (1, 0, 0))), (1, .ref (L (200, 0, 0))), (2, .int (nI x)), (3, .int (nI ((N 1 0 0) + (x % 50)))), (4, .int (nI (4 + (x % 50)))), (5, .int (nI (x % 4)))]) ⟨rfl, rfl, rfl, rfl, rfl, rfl, trivial⟩ ?_
    have F : kRf E C S N f x (x % 4) (nI ((N 1 0 0) + (x % 50))) (nI (4 + (x % 50))) := kRf.pos hO V hx hna hn2 h512
    exact rf_53 X hN hR hX hO V F (by omega) (by omega) (fun c53 s53 ec53 es53 => rf_106 X hN hR hX hO V F (by omega) (by omega) (fun c106 s106 ec106 es106 => rf_205 X hN hR hX hO V F (by omega) (by omega) (fun c205 s205 ec205 es205 => rf_301 X hN hR hX hO V F (by omega) (by omega) (fun c301 s301 ec301 es301 => rf_397 X hN hR hX hO V F (by omega) (by omega) (fun c397 s397 ec397 es397 => rf_483 X hN hR hX hO V F (by omega) (by omega) (fun c483 s483 ec483 es483 => rf_572 X hN hR hX hO V F (by omega) (by omega) (fun c572 s572 ec572 es572 => rf_649 X hN hR hX hO V F hE (by omega) (by omega))))))))
  ·
    refine k_iconst (v := (-1)) X dL_refuses_6 (by decide) ?_
    refine k_iload_n X dL_refuses_7 rfl rfl ?_
    refine k_bipush (v := (nI 50)) X dL_refuses_8 (by decide) ?_
    refine k_iremN X (by omega) (by omega) (by omega) dL_refuses_10 ?_
    refine k_isub X dL_refuses_11 ?_
    refine k_goto (tgt := 24) X dL_refuses_12 (by decide) ?_
    refine k_istore_n X dL_refuses_24 rfl (by rw [hN]; decide) ?_
    refine k_iload_n X dL_refuses_25 rfl rfl ?_
    refine k_iconst (v := (nI 2)) X dL_refuses_26 (by decide) ?_
    refine k_iremN X (by omega) (by omega) (by omega) dL_refuses_27 ?_
    refine k_if_ne (tgt := 40) X dL_refuses_28 (by decide) (fun c28 => absurd c3 c28) (fun c28 => ?_)
    refine k_iconst (v := (-1)) X dL_refuses_31 (by decide) ?_
    refine k_iload_n X dL_refuses_32 rfl rfl ?_
    refine k_bipush (v := (nI 50)) X dL_refuses_33 (by decide) ?_
    refine k_iremN X (by omega) (by omega) (by omega) dL_refuses_35 ?_
    refine k_isub X dL_refuses_36 ?_
    refine k_goto (tgt := 46) X dL_refuses_37 (by decide) ?_
    refine k_istore X dL_refuses_46 (by rw [hN]; decide) ?_
    refine k_iload_n X dL_refuses_48 rfl rfl ?_
    refine k_iconst (v := (nI 4)) X dL_refuses_49 (by decide) ?_
    refine k_iremN X (by omega) (by omega) (by omega) dL_refuses_50 ?_
    refine k_istore X dL_refuses_51 (by rw [hN]; decide) ?_
    refine k_lo (lo' := [(0, .ref (L (1, 0, 0))), (1, .ref (L (200, 0, 0))), (2, .int (nI x)), (3, .int ((-1) - (nI (x % 50)))), (4, .int ((-1) - (nI (x % 50)))), (5, .int (nI (x % 4)))]) ⟨rfl, rfl, rfl, rfl, rfl, rfl, trivial⟩ ?_
    have F : kRf E C S N f x (x % 4) ((-1) - (nI (x % 50))) ((-1) - (nI (x % 50))) := kRf.neg hO V hx hna hn2 h512
    exact rf_53 X hN hR hX hO V F (by omega) (by omega) (fun c53 s53 ec53 es53 => rf_106 X hN hR hX hO V F (by omega) (by omega) (fun c106 s106 ec106 es106 => rf_205 X hN hR hX hO V F (by omega) (by omega) (fun c205 s205 ec205 es205 => rf_301 X hN hR hX hO V F (by omega) (by omega) (fun c301 s301 ec301 es301 => rf_397 X hN hR hX hO V F (by omega) (by omega) (fun c397 s397 ec397 es397 => rf_483 X hN hR hX hO V F (by omega) (by omega) (fun c483 s483 ec483 es483 => rf_572 X hN hR hX hO V F (by omega) (by omega) (fun c572 s572 ec572 es572 => rf_649 X hN hR hX hO V F hE (by omega) (by omega))))))))
