theorem kmaxh {n : Nat} (h : 2 ≤ n) (hn : n < 2 ^ 30) : (if nI 1 < nI (n / 2) then nI (n / 2) else nI 1) = nI (n / 2) := by
  by_cases c : 1 < n / 2
  · rw [if_pos (nI_lt c (by omega))]
  · rw [if_neg (nI_nlt (by omega) (by decide)), show n / 2 = 1 by omega]
theorem kshr1 {n : Nat} (hn : n < 2 ^ 31) : nI n >>> (nI 1 &&& 31) = nI (n / 2) := by
  have k := pk_shrN (n := n) hn (nI 1 &&& 31) 1 (by decide)
  rw [Nat.pow_one] at k
  exact k
theorem kargne {α : Type} {f : α → Prop} {a b : α} (h : f a) (h2 : ¬ f b) : a ≠ b := fun e => h2 (e ▸ h)

set_option maxHeartbeats 4000000 in
set_option maxRecDepth 100000 in
theorem c_J3_checkIndex {l : Launch} (htr : l.stackTraces = false) {E : kE} {A : Nat → Prop} {C : kC} {L : kL} (a b : Nat) (hab : a < b) (hb : b < 2 ^ 31) : kM l yJ3_checkIndex_8e157 cJ3_checkIndex_8e157 3 (some .int) 0 0 0 0 E A C L [.int (nI a), .int (nI b), .null] (fun v C' L' => v = some (.int (nI a)) ∧ L = L' ∧ C = C') := by
  refine kM.of htr (by decide) (Nat.le_of_ble_eq_true rfl) (fun Γ hl hR hN hnm X hE => ?_)
  refine k_lo (lo' := [(0, .int (nI a)), (1, .int (nI b)), (2, .null)]) ⟨rfl, rfl, rfl, trivial⟩ ?_
  refine k_iload_n X dJ3_checkIndex_8e157_0 rfl rfl ?_
  refine k_if_lt (tgt := 9) X dJ3_checkIndex_8e157_1 (by decide) (fun c1 => absurd c1 (nI_pos (by omega))) (fun c1 => ?_)
  refine k_iload_n X dJ3_checkIndex_8e157_4 rfl rfl ?_
  refine k_iload_n X dJ3_checkIndex_8e157_5 rfl rfl ?_
  refine k_icmp_lt (tgt := 16) X dJ3_checkIndex_8e157_6 (by decide) (fun c6 => ?_) (fun c6 => absurd (nI_lt hab hb) c6)
  refine k_iload_n X dJ3_checkIndex_8e157_16 rfl rfl ?_
  exact k_iret X hE dJ3_checkIndex_8e157_17 (by omega) (by omega) ⟨rfl, rfl, rfl⟩

set_option maxHeartbeats 4000000 in
set_option maxRecDepth 100000 in
theorem c_J15_checkIndex {l : Launch} (htr : l.stackTraces = false) {E : kE} {A : Nat → Prop} {C : kC} {L : kL} (a b : Nat) (hab : a < b) (hb : b < 2 ^ 31) : kM l yJ15_checkIndex_7cf53 cJ15_checkIndex_7cf53 2 (some .int) 1 22 0 0 E A C L [.int (nI a), .int (nI b)] (fun v C' L' => v = some (.int (nI a)) ∧ L = L' ∧ C = C') := by
  refine kM.of htr (by decide) (Nat.le_of_ble_eq_true rfl) (fun Γ hl hR hN hnm X hE => ?_)
  refine k_lo (lo' := [(0, .int (nI a)), (1, .int (nI b))]) ⟨rfl, rfl, trivial⟩ ?_
  refine k_iload_n X dJ15_checkIndex_7cf53_0 rfl rfl ?_
  refine k_iload_n X dJ15_checkIndex_7cf53_1 rfl rfl ?_
  refine k_null X dJ15_checkIndex_7cf53_2 ?_
  refine k_callS (rest := []) X ks_J3_checkIndex_8e157 kb_183 (c_J3_checkIndex X.tr a b hab hb) rfl rfl (Nat.le_of_ble_eq_true rfl) ⟨by rw [hR]; exact Nat.le_of_ble_eq_true rfl, by rw [hR]; exact Nat.le_of_ble_eq_true rfl⟩ ⟨by rw [hR]; exact Nat.le_of_ble_eq_true rfl, by rw [hR]; exact Nat.le_of_ble_eq_true rfl⟩ dJ15_checkIndex_7cf53_3 (fun v3 C9 L9 h9 => ?_)
  obtain ⟨rfl, rfl, rfl⟩ := h9
  exact k_iret X hE dJ15_checkIndex_7cf53_6 (by omega) (by omega) ⟨rfl, rfl, rfl⟩

set_option maxHeartbeats 4000000 in
set_option maxRecDepth 100000 in
theorem c_AL_size {l : Launch} (htr : l.stackTraces = false) {E : kE} {A : Nat → Prop} {C : kC} {L : kL} {th : kT} {m s : Int32} {v1 : Value} (h : C th = some (.inr (0, [.int m, v1, .int s]))) : kM l yJx4a65c_size_8abf5 cJx4a65c_size_8abf5 1 (some .int) 0 0 0 0 E A C L [.ref (L th)] (fun v C' L' => v = some (.int s) ∧ L = L' ∧ C = C') := by
  refine kM.of htr (by decide) (Nat.le_of_ble_eq_true rfl) (fun Γ hl hR hN hnm X hE => ?_)
  refine k_lo (lo' := [(0, .ref (L th))]) ⟨rfl, trivial⟩ ?_
  refine k_aload_n X dJx4a65c_size_8abf5_0 rfl rfl ?_
  refine k_get0 X h (q := (RJx4a65c, TJx4a65c, 3)) rfl inlJx4a65c 2 (by decide) kb_67 (Or.inl rfl) rfl rfl dJx4a65c_size_8abf5_1 ?_
  exact k_iret X hE dJx4a65c_size_8abf5_4 (by omega) (by omega) ⟨rfl, rfl, rfl⟩

set_option maxHeartbeats 4000000 in
set_option maxRecDepth 100000 in
theorem c_AL_elementData {l : Launch} (htr : l.stackTraces = false) {E : kE} {A : Nat → Prop} {C : kC} {L : kL} {th ta : kT} {m s : Int32} {n i y : Nat} {f : Nat → Option Nat} (h : C th = some (.inr (0, [.int m, .ref (L ta), .int s]))) (g : C ta = some (.inl (E.2.1 3, n, .inr (.inr (.inr (.inr f)))))) (hi : i < n) (hn : n < 2 ^ 31) (hf : f i = some y) : kM l yJx4a65c_elementData_915e3 cJx4a65c_elementData_915e3 2 (some (.object "java/lang/Object")) 0 0 0 0 E A C L [.ref (L th), .int (nI i)] (fun v C' L' => v = some (.ref y) ∧ L = L' ∧ C = C') := by
  refine kM.of htr (by decide) (Nat.le_of_ble_eq_true rfl) (fun Γ hl hR hN hnm X hE => ?_)
  refine k_lo (lo' := [(0, .ref (L th)), (1, .int (nI i))]) ⟨rfl, rfl, trivial⟩ ?_
  refine k_aload_n X dJx4a65c_elementData_915e3_0 rfl rfl ?_
  refine k_get0 X h (q := (RJx4a65c, TJx4a65c, 3)) rfl inlJx4a65c 1 (by decide) kb_23 (Or.inl rfl) rfl rfl dJx4a65c_elementData_915e3_1 ?_
  refine k_iload_n X dJx4a65c_elementData_915e3_4 rfl rfl ?_
  refine k_aald X g (nm := "java/lang/Object") rfl rfl (vp_in_nI hi (by omega)) dJx4a65c_elementData_915e3_5 (v := .ref y) (by rw [nI_clamp (by omega), hf]; rfl) ?_
  exact k_aret X hE (Or.inl ⟨_, rfl⟩) (Or.inr ⟨_, rfl⟩) dJx4a65c_elementData_915e3_6 (by omega) (by omega) ⟨rfl, rfl, rfl⟩

set_option maxHeartbeats 4000000 in
set_option maxRecDepth 100000 in
theorem c_AL_get {l : Launch} (htr : l.stackTraces = false) {E : kE} {A : Nat → Prop} {C : kC} {L : kL} {th ta : kT} {m : Int32} {n i y c9 : Nat} {f : Nat → Option Nat} (h : C th = some (.inr (0, [.int m, .ref (L ta), .int (nI c9)]))) (g : C ta = some (.inl (E.2.1 3, n, .inr (.inr (.inr (.inr f)))))) (hi : i < n) (hn : n < 2 ^ 31) (hf : f i = some y) (hic : i < c9) (hc9 : c9 < 2 ^ 31) : kM l yJx4a65c_get_915e3 cJx4a65c_get_915e3 2 (some (.object "java/lang/Object")) 2 43 0 0 E A C L [.ref (L th), .int (nI i)] (fun v C' L' => v = some (.ref y) ∧ L = L' ∧ C = C') := by
  refine kM.of htr (by decide) (Nat.le_of_ble_eq_true rfl) (fun Γ hl hR hN hnm X hE => ?_)
  refine k_lo (lo' := [(0, .ref (L th)), (1, .int (nI i))]) ⟨rfl, rfl, trivial⟩ ?_
  refine k_iload_n X dJx4a65c_get_915e3_0 rfl rfl ?_
  refine k_aload_n X dJx4a65c_get_915e3_1 rfl rfl ?_
  refine k_get0 X h (q := (RJx4a65c, TJx4a65c, 3)) rfl inlJx4a65c 2 (by decide) kb_67 (Or.inl rfl) rfl rfl dJx4a65c_get_915e3_2 ?_
  refine k_callS (rest := []) X ks_J15_checkIndex_7cf53 kb_179 (c_J15_checkIndex X.tr i c9 hic hc9) rfl rfl (Nat.le_of_ble_eq_true rfl) ⟨by rw [hR]; exact Nat.le_of_ble_eq_true rfl, by rw [hR]; exact Nat.le_of_ble_eq_true rfl⟩ ⟨by rw [hR]; exact Nat.le_of_ble_eq_true rfl, by rw [hR]; exact Nat.le_of_ble_eq_true rfl⟩ dJx4a65c_get_915e3_5 (fun v5 C9 L9 h9 => ?_)
  obtain ⟨rfl, rfl, rfl⟩ := h9
  refine k_pop X dJx4a65c_get_915e3_8 rfl ?_
  refine k_aload_n X dJx4a65c_get_915e3_9 rfl rfl ?_
  refine k_iload_n X dJx4a65c_get_915e3_10 rfl rfl ?_
  refine k_callV (rest := []) X kv_Jx4a65c_elementData_915e3 kb_187 (c_AL_elementData X.tr h g hi hn hf) h rfl rfl rfl rfl rfl (Nat.le_of_ble_eq_true rfl) ⟨by rw [hR]; exact Nat.le_of_ble_eq_true rfl, by rw [hR]; exact Nat.le_of_ble_eq_true rfl⟩ ⟨by rw [hR]; exact Nat.le_of_ble_eq_true rfl, by rw [hR]; exact Nat.le_of_ble_eq_true rfl⟩ dJx4a65c_get_915e3_11 (fun v11 C9 L9 h9 => ?_)
  obtain ⟨rfl, rfl, rfl⟩ := h9
  exact k_aret X hE (Or.inl ⟨_, rfl⟩) (Or.inr ⟨_, rfl⟩) dJx4a65c_get_915e3_14 (by omega) (by omega) ⟨rfl, rfl, rfl⟩

set_option maxHeartbeats 4000000 in
set_option maxRecDepth 100000 in
theorem c_newLength {l : Launch} (htr : l.stackTraces = false) {E : kE} {A : Nat → Prop} {C : kC} {L : kL} (n : Nat) (h2 : 2 ≤ n) (hn : n < 40000) : kM l yJ8_newLength_cabcc cJ8_newLength_cabcc 4 (some .int) 1 14 0 0 E A C L [.int (nI n), .int (nI 1), .int (nI (n / 2))] (fun v C' L' => v = some (.int (nI (n + n / 2))) ∧ L = L' ∧ C = C') := by
  refine kM.of htr (by decide) (Nat.le_of_ble_eq_true rfl) (fun Γ hl hR hN hnm X hE => ?_)
  refine k_lo (lo' := [(0, .int (nI n)), (1, .int (nI 1)), (2, .int (nI (n / 2)))]) ⟨rfl, rfl, rfl, trivial⟩ ?_
  refine k_iload_n X dJ8_newLength_cabcc_0 rfl rfl ?_
  refine k_iload_n X dJ8_newLength_cabcc_1 rfl rfl ?_
  refine k_iload_n X dJ8_newLength_cabcc_2 rfl rfl ?_
  refine k_mmax X kb_133 kb_125 kb_126 kb_127 (by rw [hR]; exact Nat.le_of_ble_eq_true rfl) (by rw [hR]; exact Nat.le_of_ble_eq_true rfl) (by rw [hR]; dsimp only; omega) (by rw [hR]; dsimp only; omega) dJ8_newLength_cabcc_3 ?_
  refine k_rw (y := (nI (n / 2))) (kmaxh h2 (by omega)) ?_
  refine k_iaddN X dJ8_newLength_cabcc_6 ?_
  refine k_istore_n X dJ8_newLength_cabcc_7 rfl (by rw [hN]; decide) ?_
  refine k_iconst (v := (nI 0)) X dJ8_newLength_cabcc_8 (by decide) ?_
  refine k_iload_n X dJ8_newLength_cabcc_9 rfl rfl ?_
  refine k_icmp_ge (tgt := 21) X dJ8_newLength_cabcc_10 (by decide) (fun c10 => absurd c10 (by rw [nI_0]; exact nI_nle (by omega) (by omega))) (fun c10 => ?_)
  refine k_iload_n X dJ8_newLength_cabcc_13 rfl rfl ?_
  refine k_ldc (v := 2147483639) X kb_134 dJ8_newLength_cabcc_14 ?_
  refine k_icmp_gt (tgt := 21) X dJ8_newLength_cabcc_16 (by decide) (fun c16 => absurd c16 (show ¬ nI 2147483639 < nI (n + n / 2) from nI_nlt (by omega) (by decide))) (fun c16 => ?_)
  refine k_iload_n X dJ8_newLength_cabcc_19 rfl rfl ?_
  exact k_iret X hE dJ8_newLength_cabcc_20 (by omega) (by omega) ⟨rfl, rfl, rfl⟩

set_option maxHeartbeats 4000000 in
set_option maxRecDepth 100000 in
theorem c_copyOf3 {l : Launch} (htr : l.stackTraces = false) {E : kE} {A : Nat → Prop} {C : kC} {L : kL} {t u : kT} {n : Nat} (N : Nat) {f : Nat → Option Nat} (h : C t = some (.inl (E.2.1 3, n, .inr (.inr (.inr (.inr f)))))) (hut : t ≠ u) (hnN : n ≤ N) (hN9 : N ≤ 100000) {ci : Nat} {r : vw_C} (hc : vwCl[ci]? = some r) (hcas : (r.1, "java/lang/Object") ∈ kCas) (hel : ∀ i, i < n → ∀ y, f i = some y → ∃ (z : kT) (vs : List Value), z ≠ u ∧ L z = y ∧ C z = some (.inr (ci, vs))) : kM l yJ7_copyOf_6403c cJ7_copyOf_6403c 4 (some (.array (.object "java/lang/Object"))) 1 40 1 N E A C L [.ref (L t), .int (nI N), .ref E.2.2.2] (fun v C' L' => ∃ q : Nat, v = some (.ref q) ∧ L' = kup L u q ∧ C' = kup C u (some (.inl (E.2.1 3, N, .inr (.inr (.inr (.inr (va_cpy f (fun _ => none) 0 0 n)))))))) := by
  refine kM.of htr (by decide) (Nat.le_of_ble_eq_true rfl) (fun Γ hl hR hN hnm X hE => ?_)
  refine k_lo (lo' := [(0, .ref (L t)), (1, .int (nI N)), (2, .ref E.2.2.2)]) ⟨rfl, rfl, rfl, trivial⟩ ?_
  refine k_aload_n X dJ7_copyOf_6403c_0 rfl rfl ?_
  refine k_ldcM X kb_149 dJ7_copyOf_6403c_1 ?_
  refine k_acmp_ne (tgt := 13) X dJ7_copyOf_6403c_3 (by decide) (fun c3 => absurd c3 (fun z => z rfl)) (fun c3 => ?_)
  refine k_iload_n X dJ7_copyOf_6403c_6 rfl rfl ?_
  refine k_newq X u 3 (N) (nm := "java/lang/Object") rfl (by simp) kb_150 (nI_pos (by omega)) (nI_clamp (by omega)) (by omega) dJ7_copyOf_6403c_7 (by rw [hR]; dsimp only; omega) (by rw [hR]; dsimp only; omega) (fun q9 => ?_)
  refine k_goto (tgt := 24) X dJ7_copyOf_6403c_10 (by decide) ?_
  refine k_astore_n X dJ7_copyOf_6403c_24 rfl (by rw [hN]; decide) ?_
  refine k_aload_n X dJ7_copyOf_6403c_25 rfl rfl ?_
  refine k_iconst (v := (nI 0)) X dJ7_copyOf_6403c_26 (by decide) ?_
  refine k_aload_n X dJ7_copyOf_6403c_27 rfl rfl ?_
  refine k_iconst (v := (nI 0)) X dJ7_copyOf_6403c_28 (by decide) ?_
  refine k_aload_n X dJ7_copyOf_6403c_29 rfl rfl ?_
  refine k_alen X ((kup_n hut).trans h) (ty := .object "java/lang/Object") rfl ((kup_n hut).trans rfl) dJ7_copyOf_6403c_30 ?_
  refine k_iload_n X dJ7_copyOf_6403c_31 rfl rfl ?_
  refine k_mmin X kb_151 kb_152 kb_126 kb_153 (by rw [hR]; exact Nat.le_of_ble_eq_true rfl) (by rw [hR]; exact Nat.le_of_ble_eq_true rfl) (by rw [hR]; dsimp only; omega) (by rw [hR]; dsimp only; omega) dJ7_copyOf_6403c_32 ?_
  refine k_rw (y := (nI n)) (if_neg (nI_nlt hnN (by omega))) ?_
  refine k_copyq X ((kup_n hut).trans h) kup_s ((kup_n hut).trans rfl) kup_s (n := n) (by omega) (Nat.le_refl n) hnN hc hcas (fun i hi y hy => by obtain ⟨z, vs, hz, h1, h2⟩ := hel i hi y hy; exact ⟨z, vs, (kup_n hz).trans h1, (kup_n hz).trans h2⟩) kb_154 kb_155 kb_156 kb_157 (by rw [hR]; exact Nat.le_of_ble_eq_true rfl) (by rw [hR]; exact Nat.le_of_ble_eq_true rfl) dJ7_copyOf_6403c_35 ?_
  refine k_aload_n X dJ7_copyOf_6403c_38 rfl rfl ?_
  exact k_aret X hE (Or.inr ⟨_, rfl⟩) (Or.inr ⟨_, rfl⟩) dJ7_copyOf_6403c_39 (by omega) (by omega) ⟨q9, rfl, rfl, kup_kup⟩

set_option maxHeartbeats 4000000 in
set_option maxRecDepth 100000 in
theorem c_copyOf2 {l : Launch} (htr : l.stackTraces = false) {E : kE} {A : Nat → Prop} {C : kC} {L : kL} {t u : kT} {n : Nat} (N : Nat) {f : Nat → Option Nat} (h : C t = some (.inl (E.2.1 3, n, .inr (.inr (.inr (.inr f)))))) (hut : t ≠ u) (hnN : n ≤ N) (hN9 : N ≤ 100000) {ci : Nat} {r : vw_C} (hc : vwCl[ci]? = some r) (hcas : (r.1, "java/lang/Object") ∈ kCas) (hel : ∀ i, i < n → ∀ y, f i = some y → ∃ (z : kT) (vs : List Value), z ≠ u ∧ L z = y ∧ C z = some (.inr (ci, vs))) : kM l yJ7_copyOf_1904c cJ7_copyOf_1904c 2 (some (.array (.object "java/lang/Object"))) 2 63 1 N E A C L [.ref (L t), .int (nI N)] (fun v C' L' => ∃ q : Nat, v = some (.ref q) ∧ L' = kup L u q ∧ C' = kup C u (some (.inl (E.2.1 3, N, .inr (.inr (.inr (.inr (va_cpy f (fun _ => none) 0 0 n)))))))) := by
  refine kM.of htr (by decide) (Nat.le_of_ble_eq_true rfl) (fun Γ hl hR hN hnm X hE => ?_)
  refine k_lo (lo' := [(0, .ref (L t)), (1, .int (nI N))]) ⟨rfl, rfl, trivial⟩ ?_
  refine k_aload_n X dJ7_copyOf_1904c_0 rfl rfl ?_
  refine k_iload_n X dJ7_copyOf_1904c_1 rfl rfl ?_
  refine k_aload_n X dJ7_copyOf_1904c_2 rfl rfl ?_
  refine k_getC X h rfl kb_142 kb_143 kb_144 kb_145 (by rw [hR]; exact Nat.le_of_ble_eq_true rfl) (by rw [hR]; exact Nat.le_of_ble_eq_true rfl) dJ7_copyOf_1904c_3 ?_
  refine k_callS (rest := []) X ks_J7_copyOf_6403c kb_146 (c_copyOf3 X.tr N h hut hnN hN9 hc hcas hel) rfl rfl (Nat.le_of_ble_eq_true rfl) ⟨by rw [hR]; exact Nat.le_of_ble_eq_true rfl, by rw [hR]; exact Nat.le_of_ble_eq_true rfl⟩ ⟨by rw [hR]; dsimp only; omega, by rw [hR]; dsimp only; omega⟩ dJ7_copyOf_1904c_6 (fun v6 C9 L9 h9 => ?_)
  obtain ⟨q9, rfl, rfl, rfl⟩ := h9
  exact k_aret X hE (Or.inr ⟨_, rfl⟩) (Or.inr ⟨_, rfl⟩) dJ7_copyOf_1904c_9 (by omega) (by omega) ⟨q9, rfl, rfl, rfl⟩

set_option maxHeartbeats 4000000 in
set_option maxRecDepth 100000 in
theorem c_grow1F {l : Launch} (htr : l.stackTraces = false) {E : kE} {A : Nat → Prop} {C : kC} {L : kL} {th ta u : kT} {m : Int32} {n : Nat} {f : Nat → Option Nat} (h : C th = some (.inr (0, [.int m, .ref (L ta), .int (nI n)]))) (g : C ta = some (.inl (E.2.1 3, n, .inr (.inr (.inr (.inr f)))))) (hha : th ≠ ta) (hhu : th ≠ u) (hau : ta ≠ u) (h2 : 2 ≤ n) (hn : n < 40000) {ci : Nat} {r : vw_C} (hc : vwCl[ci]? = some r) (hcas : (r.1, "java/lang/Object") ∈ kCas) (hel : ∀ i, i < n → ∀ y, f i = some y → ∃ (z : kT) (vs : List Value), z ≠ u ∧ L z = y ∧ C z = some (.inr (ci, vs))) : kM l yJx4a65c_grow_92f84 cJx4a65c_grow_92f84 4 (some (.array (.object "java/lang/Object"))) 3 84 1 (n + n / 2) E A C L [.ref (L th), .int (nI (n + 1))] (fun v C' L' => ∃ q : Nat, v = some (.ref q) ∧ L' = kup L u q ∧ C' = kup (kup C u (some (.inl (E.2.1 3, n + n / 2, .inr (.inr (.inr (.inr (va_cpy f (fun _ => none) 0 0 n)))))))) th (some (.inr (0, [.int m, .ref q, .int (nI n)])))) := by
  refine kM.of htr (by decide) (Nat.le_of_ble_eq_true rfl) (fun Γ hl hR hN hnm X hE => ?_)
  refine k_lo (lo' := [(0, .ref (L th)), (1, .int (nI (n + 1)))]) ⟨rfl, rfl, trivial⟩ ?_
  refine k_aload_n X dJx4a65c_grow_92f84_0 rfl rfl ?_
  refine k_get0 X h (q := (RJx4a65c, TJx4a65c, 3)) rfl inlJx4a65c 1 (by decide) kb_23 (Or.inl rfl) rfl rfl dJx4a65c_grow_92f84_1 ?_
  refine k_alen X g (ty := .object "java/lang/Object") rfl rfl dJx4a65c_grow_92f84_4 ?_
  refine k_istore_n X dJx4a65c_grow_92f84_5 rfl (by rw [hN]; decide) ?_
  refine k_iload_n X dJx4a65c_grow_92f84_6 rfl rfl ?_
  refine k_if_gt (tgt := 20) X dJx4a65c_grow_92f84_7 (by decide) (fun c7 => ?_) (fun c7 => absurd (show nI 0 < nI n from nI_lt (by omega) (by omega)) c7)
  refine k_iload_n X dJx4a65c_grow_92f84_20 rfl rfl ?_
  refine k_iload_n X dJx4a65c_grow_92f84_21 rfl rfl ?_
  refine k_iload_n X dJx4a65c_grow_92f84_22 rfl rfl ?_
  refine k_isubN (h := Nat.le_succ n) X dJx4a65c_grow_92f84_23 ?_
  refine k_rw (y := nI 1) (by rw [Nat.add_sub_cancel_left]) ?_
  refine k_iload_n X dJx4a65c_grow_92f84_24 rfl rfl ?_
  refine k_iconst (v := (nI 1)) X dJx4a65c_grow_92f84_25 (by decide) ?_
  refine k_ishr X dJx4a65c_grow_92f84_26 ?_
  refine k_rw (y := nI (n / 2)) (kshr1 (by omega)) ?_
  refine k_callS (rest := []) X ks_J8_newLength_cabcc kb_129 (c_newLength X.tr n h2 hn) rfl rfl (Nat.le_of_ble_eq_true rfl) ⟨by rw [hR]; exact Nat.le_of_ble_eq_true rfl, by rw [hR]; exact Nat.le_of_ble_eq_true rfl⟩ ⟨by rw [hR]; dsimp only; omega, by rw [hR]; dsimp only; omega⟩ dJx4a65c_grow_92f84_27 (fun v27 C9 L9 h9 => ?_)
  obtain ⟨rfl, rfl, rfl⟩ := h9
  refine k_istore_n X dJx4a65c_grow_92f84_30 rfl (by rw [hN]; decide) ?_
  refine k_aload_n X dJx4a65c_grow_92f84_31 rfl rfl ?_
  refine k_aload_n X dJx4a65c_grow_92f84_32 rfl rfl ?_
  refine k_get0 X h (q := (RJx4a65c, TJx4a65c, 3)) rfl inlJx4a65c 1 (by decide) kb_23 (Or.inl rfl) rfl rfl dJx4a65c_grow_92f84_33 ?_
  refine k_iload_n X dJx4a65c_grow_92f84_36 rfl rfl ?_
  refine k_callS (rest := [.ref (L th)]) X ks_J7_copyOf_1904c kb_138 (c_copyOf2 X.tr (u := u) (n + n / 2) g hau (by omega) (by omega) hc hcas hel) rfl rfl (Nat.le_of_ble_eq_true rfl) ⟨by rw [hR]; exact Nat.le_of_ble_eq_true rfl, by rw [hR]; exact Nat.le_of_ble_eq_true rfl⟩ ⟨by rw [hR]; dsimp only; omega, by rw [hR]; dsimp only; omega⟩ dJx4a65c_grow_92f84_37 (fun v37 C9 L9 h9 => ?_)
  obtain ⟨q9, rfl, rfl, rfl⟩ := h9
  refine k_dup_x1 X dJx4a65c_grow_92f84_40 rfl rfl ?_
  refine k_put1 X ((kup_n hhu).trans h) (fs9 := [.int m, .ref q9, .int (nI n)]) (q := (RJx4a65c, TJx4a65c, 3)) rfl inlJx4a65c tyJx4a65c tyJx4a65c_ok nmJx4a65c 1 (by decide) kb_23 (Or.inl rfl) (Or.inl rfl) ((kup_n hhu).trans rfl) rfl rfl (Nat.le_of_ble_eq_true rfl) rfl dJx4a65c_grow_92f84_41 ?_
  exact k_aret X hE (Or.inr ⟨_, rfl⟩) (Or.inr ⟨_, rfl⟩) dJx4a65c_grow_92f84_44 (by omega) (by omega) ⟨q9, rfl, rfl, rfl⟩

set_option maxHeartbeats 4000000 in
set_option maxRecDepth 100000 in
theorem c_grow1E {l : Launch} (htr : l.stackTraces = false) {E : kE} {A : Nat → Prop} {C : kC} {L : kL} {th u : kT} {m : Int32} (h : C th = some (.inr (0, [.int m, .ref E.2.2.1, .int (nI 0)]))) (hhu : th ≠ u) : kM l yJx4a65c_grow_92f84 cJx4a65c_grow_92f84 4 (some (.array (.object "java/lang/Object"))) 1 14 1 10 E A C L [.ref (L th), .int (nI 1)] (fun v C' L' => ∃ q : Nat, v = some (.ref q) ∧ L' = kup L u q ∧ C' = kup (kup C u (some (.inl (E.2.1 3, 10, .inr (.inr (.inr (.inr (fun _ => none)))))))) th (some (.inr (0, [.int m, .ref q, .int (nI 0)])))) := by
  refine kM.of htr (by decide) (Nat.le_of_ble_eq_true rfl) (fun Γ hl hR hN hnm X hE => ?_)
  refine k_lo (lo' := [(0, .ref (L th)), (1, .int (nI 1))]) ⟨rfl, rfl, trivial⟩ ?_
  refine k_aload_n X dJx4a65c_grow_92f84_0 rfl rfl ?_
  refine k_get0 X h (q := (RJx4a65c, TJx4a65c, 3)) rfl inlJx4a65c 1 (by decide) kb_23 (Or.inl rfl) rfl rfl dJx4a65c_grow_92f84_1 ?_
  refine k_lenE X dJx4a65c_grow_92f84_4 ?_
  refine k_istore_n X dJx4a65c_grow_92f84_5 rfl (by rw [hN]; decide) ?_
  refine k_iload_n X dJx4a65c_grow_92f84_6 rfl rfl ?_
  refine k_if_gt (tgt := 20) X dJx4a65c_grow_92f84_7 (by decide) (fun c7 => absurd c7 (by decide)) (fun c7 => ?_)
  refine k_aload_n X dJx4a65c_grow_92f84_10 rfl rfl ?_
  refine k_get0 X h (q := (RJx4a65c, TJx4a65c, 3)) rfl inlJx4a65c 1 (by decide) kb_23 (Or.inl rfl) rfl rfl dJx4a65c_grow_92f84_11 ?_
  refine k_getsE X kb_22 dJx4a65c_grow_92f84_14 ?_
  refine k_acmp_eq (tgt := 45) X dJx4a65c_grow_92f84_17 (by decide) (fun c17 => ?_) (fun c17 => absurd rfl c17)
  refine k_aload_n X dJx4a65c_grow_92f84_45 rfl rfl ?_
  refine k_bipush (v := (nI 10)) X dJx4a65c_grow_92f84_46 (by decide) ?_
  refine k_iload_n X dJx4a65c_grow_92f84_48 rfl rfl ?_
  refine k_mmax X kb_124 kb_125 kb_126 kb_127 (by rw [hR]; exact Nat.le_of_ble_eq_true rfl) (by rw [hR]; exact Nat.le_of_ble_eq_true rfl) (by rw [hR]; dsimp only; omega) (by rw [hR]; dsimp only; omega) dJx4a65c_grow_92f84_49 ?_
  refine k_rw (y := (nI 10)) (by decide) ?_
  refine k_newq X u 3 (10) (nm := "java/lang/Object") rfl (by simp) kb_128 (by decide) (by decide) (by decide) dJx4a65c_grow_92f84_52 (by rw [hR]; dsimp only; omega) (by rw [hR]; dsimp only; omega) (fun q9 => ?_)
  refine k_dup_x1 X dJx4a65c_grow_92f84_55 rfl rfl ?_
  refine k_put1 X ((kup_n hhu).trans h) (fs9 := [.int m, .ref q9, .int (nI 0)]) (q := (RJx4a65c, TJx4a65c, 3)) rfl inlJx4a65c tyJx4a65c tyJx4a65c_ok nmJx4a65c 1 (by decide) kb_23 (Or.inl rfl) (Or.inl rfl) ((kup_n hhu).trans rfl) rfl rfl (Nat.le_of_ble_eq_true rfl) rfl dJx4a65c_grow_92f84_56 ?_
  exact k_aret X hE (Or.inr ⟨_, rfl⟩) (Or.inr ⟨_, rfl⟩) dJx4a65c_grow_92f84_59 (by omega) (by omega) ⟨q9, rfl, rfl, rfl⟩

set_option maxHeartbeats 4000000 in
set_option maxRecDepth 100000 in
theorem c_grow0F {l : Launch} (htr : l.stackTraces = false) {E : kE} {A : Nat → Prop} {C : kC} {L : kL} {th ta u : kT} {m : Int32} {n : Nat} {f : Nat → Option Nat} (h : C th = some (.inr (0, [.int m, .ref (L ta), .int (nI n)]))) (g : C ta = some (.inl (E.2.1 3, n, .inr (.inr (.inr (.inr f)))))) (hha : th ≠ ta) (hhu : th ≠ u) (hau : ta ≠ u) (h2 : 2 ≤ n) (hn : n < 40000) {ci : Nat} {r : vw_C} (hc : vwCl[ci]? = some r) (hcas : (r.1, "java/lang/Object") ∈ kCas) (hel : ∀ i, i < n → ∀ y, f i = some y → ∃ (z : kT) (vs : List Value), z ≠ u ∧ L z = y ∧ C z = some (.inr (ci, vs))) : kM l yJx4a65c_grow_d5877 cJx4a65c_grow_d5877 1 (some (.array (.object "java/lang/Object"))) 4 107 1 (n + n / 2) E A C L [.ref (L th)] (fun v C' L' => ∃ q : Nat, v = some (.ref q) ∧ L' = kup L u q ∧ C' = kup (kup C u (some (.inl (E.2.1 3, n + n / 2, .inr (.inr (.inr (.inr (va_cpy f (fun _ => none) 0 0 n)))))))) th (some (.inr (0, [.int m, .ref q, .int (nI n)])))) := by
  refine kM.of htr (by decide) (Nat.le_of_ble_eq_true rfl) (fun Γ hl hR hN hnm X hE => ?_)
  refine k_lo (lo' := [(0, .ref (L th))]) ⟨rfl, trivial⟩ ?_
  refine k_aload_n X dJx4a65c_grow_d5877_0 rfl rfl ?_
  refine k_aload_n X dJx4a65c_grow_d5877_1 rfl rfl ?_
  refine k_get0 X h (q := (RJx4a65c, TJx4a65c, 3)) rfl inlJx4a65c 2 (by decide) kb_67 (Or.inl rfl) rfl rfl dJx4a65c_grow_d5877_2 ?_
  refine k_iconst (v := (nI 1)) X dJx4a65c_grow_d5877_5 (by decide) ?_
  refine k_iaddN X dJx4a65c_grow_d5877_6 ?_
  refine k_callV (rest := []) X kv_Jx4a65c_grow_92f84 kb_120 (c_grow1F X.tr h g hha hhu hau h2 hn hc hcas hel) h rfl rfl rfl rfl rfl (Nat.le_of_ble_eq_true rfl) ⟨by rw [hR]; exact Nat.le_of_ble_eq_true rfl, by rw [hR]; exact Nat.le_of_ble_eq_true rfl⟩ ⟨by rw [hR]; dsimp only; omega, by rw [hR]; dsimp only; omega⟩ dJx4a65c_grow_d5877_7 (fun v7 C9 L9 h9 => ?_)
  obtain ⟨q9, rfl, rfl, rfl⟩ := h9
  exact k_aret X hE (Or.inr ⟨_, rfl⟩) (Or.inr ⟨_, rfl⟩) dJx4a65c_grow_d5877_10 (by omega) (by omega) ⟨q9, rfl, rfl, rfl⟩

set_option maxHeartbeats 4000000 in
set_option maxRecDepth 100000 in
theorem c_grow0E {l : Launch} (htr : l.stackTraces = false) {E : kE} {A : Nat → Prop} {C : kC} {L : kL} {th u : kT} {m : Int32} (h : C th = some (.inr (0, [.int m, .ref E.2.2.1, .int (nI 0)]))) (hhu : th ≠ u) : kM l yJx4a65c_grow_d5877 cJx4a65c_grow_d5877 1 (some (.array (.object "java/lang/Object"))) 2 37 1 10 E A C L [.ref (L th)] (fun v C' L' => ∃ q : Nat, v = some (.ref q) ∧ L' = kup L u q ∧ C' = kup (kup C u (some (.inl (E.2.1 3, 10, .inr (.inr (.inr (.inr (fun _ => none)))))))) th (some (.inr (0, [.int m, .ref q, .int (nI 0)])))) := by
  refine kM.of htr (by decide) (Nat.le_of_ble_eq_true rfl) (fun Γ hl hR hN hnm X hE => ?_)
  refine k_lo (lo' := [(0, .ref (L th))]) ⟨rfl, trivial⟩ ?_
  refine k_aload_n X dJx4a65c_grow_d5877_0 rfl rfl ?_
  refine k_aload_n X dJx4a65c_grow_d5877_1 rfl rfl ?_
  refine k_get0 X h (q := (RJx4a65c, TJx4a65c, 3)) rfl inlJx4a65c 2 (by decide) kb_67 (Or.inl rfl) rfl rfl dJx4a65c_grow_d5877_2 ?_
  refine k_iconst (v := (nI 1)) X dJx4a65c_grow_d5877_5 (by decide) ?_
  refine k_iaddN X dJx4a65c_grow_d5877_6 ?_
  refine k_callV (rest := []) X kv_Jx4a65c_grow_92f84 kb_120 (c_grow1E X.tr h hhu) h rfl rfl rfl rfl rfl (Nat.le_of_ble_eq_true rfl) ⟨by rw [hR]; exact Nat.le_of_ble_eq_true rfl, by rw [hR]; exact Nat.le_of_ble_eq_true rfl⟩ ⟨by rw [hR]; exact Nat.le_of_ble_eq_true rfl, by rw [hR]; exact Nat.le_of_ble_eq_true rfl⟩ dJx4a65c_grow_d5877_7 (fun v7 C9 L9 h9 => ?_)
  obtain ⟨q9, rfl, rfl, rfl⟩ := h9
  exact k_aret X hE (Or.inr ⟨_, rfl⟩) (Or.inr ⟨_, rfl⟩) dJx4a65c_grow_d5877_10 (by omega) (by omega) ⟨q9, rfl, rfl, rfl⟩

theorem k_aastN {Γ : kG} {E : kE} {A : Nat → Prop} {cc : ByteArray} {own : String} {C : kC} {L : kL} {cells slots pc : Nat} {lo : List (Nat × Value)} {rest : List Value} (X : kX Γ E A cc own) {t u : kT} {a v : Nat} {n n9 j ci : Nat} {nm : String} {f : Nat → Option Nat} {r : vw_C} {vs : List Value} (hC : C t = some (.inl (E.2.1 j, n, .inr (.inr (.inr (.inr f)))))) (hj : (kty E.2.1)[j]? = some (E.2.1 j, .object nm)) (ha : L t = a) (hu : C u = some (.inr (ci, vs))) (hv : L u = v) (hc : vwCl[ci]? = some r) (hca : r.1 = nm ∨ (r.1, nm) ∈ kCas) (h9 : n9 < n) (hn : n < 2 ^ 31) (hdg : decode cc pc = .ok (.aastore, 1)) (k9 : kW Γ E A (kup C t (some (.inl (E.2.1 j, n, .inr (.inr (.inr (.inr (va_up f n9 (some v))))))))) L cells slots (pc + 1) lo rest) : kW Γ E A C L cells slots pc lo (.ref v :: .int (nI n9) :: .ref a :: rest) :=
  k_aast X hC hj ha hu hv hc hca (vp_in_nI h9 hn) hdg (by rw [nI_clamp (by omega)]; exact k9)
theorem kcpyup {f : Nat → Option Nat} {n : Nat} {b : Option Nat} (hfn : ∀ j, n ≤ j → f j = none) : va_up (va_cpy f (fun _ => none) 0 0 n) n b = va_up f n b := by
  funext j
  by_cases h : j = n
  · simp [va_up, h]
  · simp only [va_up, if_neg h]
    by_cases h2 : j < n
    · rw [pk_cpy_in (Nat.zero_le _) (by omega)]; simp
    · rw [pk_cpy_out (Or.inr (by omega)), hfn j (by omega)]
theorem kfin {C : kC} {u ta th : kT} {a1 h1 a2 h2 a : Option va_E} (hu : C u = none) (hau : ta ≠ u) (hhu : th ≠ u) (hha : th ≠ ta) : kup (kup (kup (kup (kup (kup C u a1) th h1) u a2) th h2) u none) ta a = kup (kup C ta a) th h2 := by
  funext x
  by_cases e1 : x = ta
  · subst e1
    rw [kup_s, kup_n hha.symm, kup_s]
  · by_cases e2 : x = th
    · subst e2
      rw [kup_n e1, kup_n hhu, kup_s, kup_s]
    · by_cases e3 : x = u
      · subst e3
        rw [kup_n e1, kup_s, kup_n e2, kup_n e1, hu]
      · rw [kup_n e1, kup_n e3, kup_n e2, kup_n e3, kup_n e2, kup_n e3, kup_n e2, kup_n e1]
theorem kfinL {C : kC} {L : kL} {u ta : kT} {q : Nat} {a : Option va_E} (hau : ta ≠ u) : ∀ x e, kup (kup C u none) ta a x = some e → kup L ta q x = kup (kup L u q) ta (kup L u q u) x := by
  intro x e hx
  by_cases e1 : x = ta
  · rw [e1, kup_s, kup_s, kup_s]
  · rw [kup_n e1] at hx
    by_cases e2 : x = u
    · rw [e2, kup_s] at hx; cases hx
    · rw [kup_n e1, kup_n e1, kup_n e2]
theorem kthta {C : kC} {ta th : kT} {h1 a h2 : Option va_E} (hha : th ≠ ta) : kup (kup (kup C th h1) ta a) th h2 = kup (kup C ta a) th h2 := by
  funext x
  by_cases e2 : x = th
  · rw [e2, kup_s, kup_s]
  · rw [kup_n e2, kup_n e2]
    by_cases e1 : x = ta
    · rw [e1, kup_s, kup_s]
    · rw [kup_n e1, kup_n e1, kup_n e2]

set_option maxHeartbeats 4000000 in
set_option maxRecDepth 100000 in
theorem c_add3R {l : Launch} (htr : l.stackTraces = false) {E : kE} {A : Nat → Prop} {C : kC} {L : kL} {th ta u tb : kT} {m : Int32} {n : Nat} {f : Nat → Option Nat} {vsb : List Value} (hha : th ≠ ta) (hhu : th ≠ u) (hau : ta ≠ u) (hbu : tb ≠ u) (hbh : tb ≠ th) (hba : tb ≠ ta) (hu : C u = none) {ci : Nat} {r : vw_C} (hc : vwCl[ci]? = some r) (hcas : (r.1, "java/lang/Object") ∈ kCas) (hb : C tb = some (.inr (ci, vsb))) (hfn : ∀ j, n ≤ j → f j = none) (hn : n ≤ 1000) {cap : Nat} (h : C th = some (.inr (0, [.int m, .ref (L ta), .int (nI n)]))) (g : C ta = some (.inl (E.2.1 3, cap, .inr (.inr (.inr (.inr f)))))) (hcap : n < cap) (h10 : 10 ≤ cap) (hcm : cap < 100000) : kM l yJx4a65c_add_72be8 cJx4a65c_add_72be8 4 none 5 127 1 (10 + n + n / 2) E A C L [.ref (L th), .ref (L tb), .ref (L ta), .int (nI n)] (fun v C' L' => ∃ q cap' : Nat, v = none ∧ L' = kup L ta q ∧ n + 1 ≤ cap' ∧ 10 ≤ cap' ∧ cap' < 100000 ∧ C' = kup (kup C ta (some (.inl (E.2.1 3, cap', .inr (.inr (.inr (.inr (va_up f n (some (L tb))))))))) ) th (some (.inr (0, [.int m, .ref q, .int (nI (n + 1))])))) := by
  refine kM.of htr (by decide) (Nat.le_of_ble_eq_true rfl) (fun Γ hl hR hN hnm X hE => ?_)
  refine k_lo (lo' := [(0, .ref (L th)), (1, .ref (L tb)), (2, .ref (L ta)), (3, .int (nI n))]) ⟨rfl, rfl, rfl, rfl, trivial⟩ ?_
  refine k_iload_n X dJx4a65c_add_72be8_0 rfl rfl ?_
  refine k_aload_n X dJx4a65c_add_72be8_1 rfl rfl ?_
  refine k_alen X g (ty := .object "java/lang/Object") rfl rfl dJx4a65c_add_72be8_2 ?_
  refine k_icmp_ne (tgt := 11) X dJx4a65c_add_72be8_3 (by decide) (fun c3 => ?_) (fun c3 => absurd c3 (fun z => absurd ((nI_eq (by omega) (by omega)).mp z) (by omega)))
  refine k_aload_n X dJx4a65c_add_72be8_11 rfl rfl ?_
  refine k_iload_n X dJx4a65c_add_72be8_12 rfl rfl ?_
  refine k_aload_n X dJx4a65c_add_72be8_13 rfl rfl ?_
  refine k_aastN X g (nm := "java/lang/Object") rfl rfl hb rfl hc (Or.inr hcas) (n9 :=  n) (by omega) (by omega) dJx4a65c_add_72be8_14 ?_
  refine k_aload_n X dJx4a65c_add_72be8_15 rfl rfl ?_
  refine k_iload_n X dJx4a65c_add_72be8_16 rfl rfl ?_
  refine k_iconst (v := (nI 1)) X dJx4a65c_add_72be8_17 (by decide) ?_
  refine k_iaddN X dJx4a65c_add_72be8_18 ?_
  refine k_put1 X ((kup_n hha).trans h) (fs9 := [.int m, .ref (L ta), .int (nI (n + 1))]) (q := (RJx4a65c, TJx4a65c, 3)) rfl inlJx4a65c tyJx4a65c tyJx4a65c_ok nmJx4a65c 2 (by decide) kb_67 (Or.inl rfl) (Or.inl rfl) rfl rfl rfl (Nat.le_of_ble_eq_true rfl) rfl dJx4a65c_add_72be8_19 ?_
  exact k_vret X hE dJx4a65c_add_72be8_22 (by omega) (by omega) ⟨L ta, cap, rfl, kup_id.symm, by omega, by omega, hcm, rfl⟩

set_option maxHeartbeats 4000000 in
set_option maxRecDepth 100000 in
theorem c_add3F {l : Launch} (htr : l.stackTraces = false) {E : kE} {A : Nat → Prop} {C : kC} {L : kL} {th ta u tb : kT} {m : Int32} {n : Nat} {f : Nat → Option Nat} {vsb : List Value} (hha : th ≠ ta) (hhu : th ≠ u) (hau : ta ≠ u) (hbu : tb ≠ u) (hbh : tb ≠ th) (hba : tb ≠ ta) (hu : C u = none) {ci : Nat} {r : vw_C} (hc : vwCl[ci]? = some r) (hcas : (r.1, "java/lang/Object") ∈ kCas) (hb : C tb = some (.inr (ci, vsb))) (hfn : ∀ j, n ≤ j → f j = none) (hn : n ≤ 1000) (h : C th = some (.inr (0, [.int m, .ref (L ta), .int (nI n)]))) (g : C ta = some (.inl (E.2.1 3, n, .inr (.inr (.inr (.inr f)))))) (h2 : 10 ≤ n) (hel : ∀ i, i < n → ∀ y, f i = some y → ∃ (z : kT) (vs : List Value), z ≠ u ∧ L z = y ∧ C z = some (.inr (ci, vs))) : kM l yJx4a65c_add_72be8 cJx4a65c_add_72be8 4 none 5 127 1 (10 + n + n / 2) E A C L [.ref (L th), .ref (L tb), .ref (L ta), .int (nI n)] (fun v C' L' => ∃ q cap' : Nat, v = none ∧ L' = kup L ta q ∧ n + 1 ≤ cap' ∧ 10 ≤ cap' ∧ cap' < 100000 ∧ C' = kup (kup C ta (some (.inl (E.2.1 3, cap', .inr (.inr (.inr (.inr (va_up f n (some (L tb))))))))) ) th (some (.inr (0, [.int m, .ref q, .int (nI (n + 1))])))) := by
  refine kM.of htr (by decide) (Nat.le_of_ble_eq_true rfl) (fun Γ hl hR hN hnm X hE => ?_)
  refine k_lo (lo' := [(0, .ref (L th)), (1, .ref (L tb)), (2, .ref (L ta)), (3, .int (nI n))]) ⟨rfl, rfl, rfl, rfl, trivial⟩ ?_
  refine k_iload_n X dJx4a65c_add_72be8_0 rfl rfl ?_
  refine k_aload_n X dJx4a65c_add_72be8_1 rfl rfl ?_
  refine k_alen X g (ty := .object "java/lang/Object") rfl rfl dJx4a65c_add_72be8_2 ?_
  refine k_icmp_ne (tgt := 11) X dJx4a65c_add_72be8_3 (by decide) (fun c3 => absurd c3 (fun z => z rfl)) (fun c3 => ?_)
  refine k_aload_n X dJx4a65c_add_72be8_6 rfl rfl ?_
  refine k_callV (rest := []) X kv_Jx4a65c_grow_d5877 kb_116 (c_grow0F X.tr (u := u) h g hha hhu hau (by omega) (by omega) hc hcas hel) h rfl rfl rfl rfl rfl (Nat.le_of_ble_eq_true rfl) ⟨by rw [hR]; exact Nat.le_of_ble_eq_true rfl, by rw [hR]; exact Nat.le_of_ble_eq_true rfl⟩ ⟨by rw [hR]; dsimp only; omega, by rw [hR]; dsimp only; omega⟩ dJx4a65c_add_72be8_7 (fun v7 C9 L9 h9 => ?_)
  obtain ⟨q9, rfl, rfl, rfl⟩ := h9
  refine k_astore_n X dJx4a65c_add_72be8_10 rfl (by rw [hN]; decide) ?_
  refine k_aload_n X dJx4a65c_add_72be8_11 rfl rfl ?_
  refine k_iload_n X dJx4a65c_add_72be8_12 rfl rfl ?_
  refine k_aload_n X dJx4a65c_add_72be8_13 rfl rfl ?_
  refine k_aastN X ((kup_n hhu.symm).trans kup_s) (nm := "java/lang/Object") rfl kup_s ((kup_n hbh).trans ((kup_n hbu).trans hb)) ((kup_n hbu).trans rfl) hc (Or.inr hcas) (n9 := n) (by omega) (by omega) dJx4a65c_add_72be8_14 ?_
  refine k_aload_n X dJx4a65c_add_72be8_15 rfl rfl ?_
  refine k_iload_n X dJx4a65c_add_72be8_16 rfl rfl ?_
  refine k_iconst (v := (nI 1)) X dJx4a65c_add_72be8_17 (by decide) ?_
  refine k_iaddN X dJx4a65c_add_72be8_18 ?_
  refine k_put1 X ((kup_n hhu).trans kup_s) (fs9 := [.int m, .ref q9, .int (nI (n + 1))]) (q := (RJx4a65c, TJx4a65c, 3)) rfl inlJx4a65c tyJx4a65c tyJx4a65c_ok nmJx4a65c 2 (by decide) kb_67 (Or.inl rfl) (Or.inl rfl) ((kup_n hhu).trans rfl) rfl rfl (Nat.le_of_ble_eq_true rfl) rfl dJx4a65c_add_72be8_19 ?_
  refine k_move (u := u) (t := ta) ((kup_n hhu.symm).trans kup_s) hau.symm ?_
  refine k_L (kfinL hau) ?_
  refine k_C (kfin hu hau hhu hha).symm ?_
  exact k_vret X hE dJx4a65c_add_72be8_22 (by omega) (by omega) ⟨q9, n + n / 2, rfl, rfl, by omega, by omega, by omega, by rw [kcpyup hfn]⟩

set_option maxHeartbeats 4000000 in
set_option maxRecDepth 100000 in
theorem c_add3E {l : Launch} (htr : l.stackTraces = false) {E : kE} {A : Nat → Prop} {C : kC} {L : kL} {th ta u tb : kT} {m : Int32} {vsb : List Value} (hha : th ≠ ta) (hhu : th ≠ u) (hau : ta ≠ u) (hbu : tb ≠ u) (hbh : tb ≠ th) (hba : tb ≠ ta) (hu : C u = none) {ci : Nat} {r : vw_C} (hc : vwCl[ci]? = some r) (hcas : (r.1, "java/lang/Object") ∈ kCas) (hb : C tb = some (.inr (ci, vsb))) (h : C th = some (.inr (0, [.int m, .ref E.2.2.1, .int (nI 0)]))) : kM l yJx4a65c_add_72be8 cJx4a65c_add_72be8 4 none 5 127 1 (10 + 0 + 0 / 2) E A C L [.ref (L th), .ref (L tb), .ref E.2.2.1, .int (nI 0)] (fun v C' L' => ∃ q cap' : Nat, v = none ∧ L' = kup L ta q ∧ 0 + 1 ≤ cap' ∧ 10 ≤ cap' ∧ cap' < 100000 ∧ C' = kup (kup C ta (some (.inl (E.2.1 3, cap', .inr (.inr (.inr (.inr (va_up (fun _ => none) 0 (some (L tb))))))))) ) th (some (.inr (0, [.int m, .ref q, .int (nI (0 + 1))])))) := by
  refine kM.of htr (by decide) (Nat.le_of_ble_eq_true rfl) (fun Γ hl hR hN hnm X hE => ?_)
  refine k_lo (lo' := [(0, .ref (L th)), (1, .ref (L tb)), (2, .ref E.2.2.1), (3, .int (nI 0))]) ⟨rfl, rfl, rfl, rfl, trivial⟩ ?_
  refine k_iload_n X dJx4a65c_add_72be8_0 rfl rfl ?_
  refine k_aload_n X dJx4a65c_add_72be8_1 rfl rfl ?_
  refine k_lenE X dJx4a65c_add_72be8_2 ?_
  refine k_icmp_ne (tgt := 11) X dJx4a65c_add_72be8_3 (by decide) (fun c3 => absurd c3 (fun z => z rfl)) (fun c3 => ?_)
  refine k_aload_n X dJx4a65c_add_72be8_6 rfl rfl ?_
  refine k_callV (rest := []) X kv_Jx4a65c_grow_d5877 kb_116 (c_grow0E X.tr (u := u) h hhu) h rfl rfl rfl rfl rfl (Nat.le_of_ble_eq_true rfl) ⟨by rw [hR]; exact Nat.le_of_ble_eq_true rfl, by rw [hR]; exact Nat.le_of_ble_eq_true rfl⟩ ⟨by rw [hR]; dsimp only; omega, by rw [hR]; dsimp only; omega⟩ dJx4a65c_add_72be8_7 (fun v7 C9 L9 h9 => ?_)
  obtain ⟨q9, rfl, rfl, rfl⟩ := h9
  refine k_astore_n X dJx4a65c_add_72be8_10 rfl (by rw [hN]; decide) ?_
  refine k_aload_n X dJx4a65c_add_72be8_11 rfl rfl ?_
  refine k_iload_n X dJx4a65c_add_72be8_12 rfl rfl ?_
  refine k_aload_n X dJx4a65c_add_72be8_13 rfl rfl ?_
  refine k_aastN X ((kup_n hhu.symm).trans kup_s) (nm := "java/lang/Object") rfl kup_s ((kup_n hbh).trans ((kup_n hbu).trans hb)) ((kup_n hbu).trans rfl) hc (Or.inr hcas) (n9 := 0) (by omega) (by omega) dJx4a65c_add_72be8_14 ?_
  refine k_aload_n X dJx4a65c_add_72be8_15 rfl rfl ?_
  refine k_iload_n X dJx4a65c_add_72be8_16 rfl rfl ?_
  refine k_iconst (v := (nI 1)) X dJx4a65c_add_72be8_17 (by decide) ?_
  refine k_iaddN X dJx4a65c_add_72be8_18 ?_
  refine k_put1 X ((kup_n hhu).trans kup_s) (fs9 := [.int m, .ref q9, .int (nI (0 + 1))]) (q := (RJx4a65c, TJx4a65c, 3)) rfl inlJx4a65c tyJx4a65c tyJx4a65c_ok nmJx4a65c 2 (by decide) kb_67 (Or.inl rfl) (Or.inl rfl) ((kup_n hhu).trans rfl) rfl rfl (Nat.le_of_ble_eq_true rfl) rfl dJx4a65c_add_72be8_19 ?_
  refine k_move (u := u) (t := ta) ((kup_n hhu.symm).trans kup_s) hau.symm ?_
  refine k_L (kfinL hau) ?_
  refine k_C (kfin hu hau hhu hha).symm ?_
  exact k_vret X hE dJx4a65c_add_72be8_22 (by omega) (by omega) ⟨q9, 10, rfl, rfl, by omega, by omega, by omega, rfl⟩

theorem c_add3 {l : Launch} (htr : l.stackTraces = false) {E : kE} {A : Nat → Prop} {C : kC} {L : kL} {th ta u tb : kT} {m : Int32} {n : Nat} {f : Nat → Option Nat} {vsb : List Value} (hha : th ≠ ta) (hhu : th ≠ u) (hau : ta ≠ u) (hbu : tb ≠ u) (hbh : tb ≠ th) (hba : tb ≠ ta) (hu : C u = none) {ci : Nat} {r : vw_C} (hc : vwCl[ci]? = some r) (hcas : (r.1, "java/lang/Object") ∈ kCas) (hb : C tb = some (.inr (ci, vsb))) (hfn : ∀ j, n ≤ j → f j = none) (hn : n ≤ 1000) {cap arr : Nat} (h : C th = some (.inr (0, [.int m, .ref arr, .int (nI n)]))) (hcap : ((cap = 0 ∧ n = 0 ∧ arr = E.2.2.1 ∧ f = fun _ => none) ∨ (arr = L ta ∧ n ≤ cap ∧ 10 ≤ cap ∧ cap < 100000 ∧ C ta = some (.inl (E.2.1 3, cap, .inr (.inr (.inr (.inr f)))))))) (hel : ∀ i, i < n → ∀ y, f i = some y → ∃ (z : kT) (vs : List Value), z ≠ u ∧ L z = y ∧ C z = some (.inr (ci, vs))) : kM l yJx4a65c_add_72be8 cJx4a65c_add_72be8 4 none 5 127 1 (10 + n + n / 2) E A C L [.ref (L th), .ref (L tb), .ref arr, .int (nI n)] (fun v C' L' => ∃ q cap' : Nat, v = none ∧ L' = kup L ta q ∧ n + 1 ≤ cap' ∧ 10 ≤ cap' ∧ cap' < 100000 ∧ C' = kup (kup C ta (some (.inl (E.2.1 3, cap', .inr (.inr (.inr (.inr (va_up f n (some (L tb))))))))) ) th (some (.inr (0, [.int m, .ref q, .int (nI (n + 1))])))) := by
  rcases hcap with ⟨rfl, rfl, rfl, rfl⟩ | ⟨rfl, h1, h2, h3, h4⟩
  · exact c_add3E htr hha hhu hau hbu hbh hba hu hc hcas hb h
  · rcases Nat.lt_or_ge n cap with h5 | h5
    · exact c_add3R htr hha hhu hau hbu hbh hba hu hc hcas hb hfn hn h h4 h5 h2 h3
    · have e : cap = n := by omega
      subst e
      exact c_add3F htr hha hhu hau hbu hbh hba hu hc hcas hb hfn hn h h4 h2 hel

set_option maxHeartbeats 4000000 in
set_option maxRecDepth 100000 in
theorem c_AL_add {l : Launch} (htr : l.stackTraces = false) {E : kE} {A : Nat → Prop} {C : kC} {L : kL} {th ta u tb : kT} {n : Nat} {f : Nat → Option Nat} {vsb : List Value} (hha : th ≠ ta) (hhu : th ≠ u) (hau : ta ≠ u) (hbu : tb ≠ u) (hbh : tb ≠ th) (hba : tb ≠ ta) (hu : C u = none) {ci : Nat} {r : vw_C} (hc : vwCl[ci]? = some r) (hcas : (r.1, "java/lang/Object") ∈ kCas) (hb : C tb = some (.inr (ci, vsb))) (hfn : ∀ j, n ≤ j → f j = none) (hn : n ≤ 1000) {cap arr : Nat} (h : C th = some (.inr (0, [.int (nI n), .ref arr, .int (nI n)]))) (hcap : ((cap = 0 ∧ n = 0 ∧ arr = E.2.2.1 ∧ f = fun _ => none) ∨ (arr = L ta ∧ n ≤ cap ∧ 10 ≤ cap ∧ cap < 100000 ∧ C ta = some (.inl (E.2.1 3, cap, .inr (.inr (.inr (.inr f)))))))) (hel : ∀ i, i < n → ∀ y, f i = some y → ∃ (z : kT) (vs : List Value), z ≠ u ∧ z ≠ th ∧ L z = y ∧ C z = some (.inr (ci, vs))) : kM l yJx4a65c_add_9ea2d cJx4a65c_add_9ea2d 2 (some .boolean) 6 150 1 (10 + n + n / 2) E A C L [.ref (L th), .ref (L tb)] (fun v C' L' => ∃ q cap' : Nat, v = some (.int (nI 1)) ∧ L' = kup L ta q ∧ n + 1 ≤ cap' ∧ 10 ≤ cap' ∧ cap' < 100000 ∧ C' = kup (kup C ta (some (.inl (E.2.1 3, cap', .inr (.inr (.inr (.inr (va_up f n (some (L tb))))))))) ) th (some (.inr (0, [.int (nI (n + 1)), .ref q, .int (nI (n + 1))])))) := by
  refine kM.of htr (by decide) (Nat.le_of_ble_eq_true rfl) (fun Γ hl hR hN hnm X hE => ?_)
  refine k_lo (lo' := [(0, .ref (L th)), (1, .ref (L tb))]) ⟨rfl, rfl, trivial⟩ ?_
  refine k_aload_n X dJx4a65c_add_9ea2d_0 rfl rfl ?_
  refine k_dup X dJx4a65c_add_9ea2d_1 rfl ?_
  refine k_get0 X h (q := (RJx4a65c, TJx4a65c, 3)) rfl inlJx4a65c 0 (by decide) kb_110 (Or.inr kb_111) rfl rfl dJx4a65c_add_9ea2d_2 ?_
  refine k_iconst (v := (nI 1)) X dJx4a65c_add_9ea2d_5 (by decide) ?_
  refine k_iaddN X dJx4a65c_add_9ea2d_6 ?_
  refine k_put1 X h (fs9 := [.int (nI (n + 1)), .ref arr, .int (nI n)]) (q := (RJx4a65c, TJx4a65c, 3)) rfl inlJx4a65c tyJx4a65c tyJx4a65c_ok nmJx4a65c 0 (by decide) kb_110 (Or.inr kb_111) (Or.inl rfl) rfl rfl rfl (Nat.le_of_ble_eq_true rfl) rfl dJx4a65c_add_9ea2d_7 ?_
  refine k_aload_n X dJx4a65c_add_9ea2d_10 rfl rfl ?_
  refine k_aload_n X dJx4a65c_add_9ea2d_11 rfl rfl ?_
  refine k_aload_n X dJx4a65c_add_9ea2d_12 rfl rfl ?_
  refine k_get0 X kup_s (q := (RJx4a65c, TJx4a65c, 3)) rfl inlJx4a65c 1 (by decide) kb_23 (Or.inl rfl) rfl rfl dJx4a65c_add_9ea2d_13 ?_
  refine k_aload_n X dJx4a65c_add_9ea2d_16 rfl rfl ?_
  refine k_get0 X kup_s (q := (RJx4a65c, TJx4a65c, 3)) rfl inlJx4a65c 2 (by decide) kb_67 (Or.inl rfl) rfl rfl dJx4a65c_add_9ea2d_17 ?_
  refine k_callV (rest := []) X kv_Jx4a65c_add_72be8 kb_112 (c_add3 X.tr (u := u) (m := nI (n + 1)) hha hhu hau hbu hbh hba ((kup_n hhu.symm).trans hu) hc hcas ((kup_n hbh).trans hb) hfn hn (cap := cap) (arr := arr) kup_s (by rcases hcap with ⟨a1, a2, a3, a4⟩ | ⟨a1, a2, a3, a4, a5⟩; exact Or.inl ⟨a1, a2, a3, a4⟩; exact Or.inr ⟨a1, a2, a3, a4, (kup_n hha.symm).trans a5⟩) (fun i hi y hy => by obtain ⟨z, vs, z1, z2, z3, z4⟩ := hel i hi y hy; exact ⟨z, vs, z1, z3, (kup_n z2).trans z4⟩)) kup_s rfl rfl rfl rfl rfl (Nat.le_of_ble_eq_true rfl) ⟨by rw [hR]; exact Nat.le_of_ble_eq_true rfl, by rw [hR]; exact Nat.le_of_ble_eq_true rfl⟩ ⟨by rw [hR]; dsimp only; omega, by rw [hR]; dsimp only; omega⟩ dJx4a65c_add_9ea2d_20 (fun v20 C9 L9 h9 => ?_)
  obtain ⟨q9, cap9, rfl, rfl, e1, e2, e3, rfl⟩ := h9
  refine k_iconst (v := (nI 1)) X dJx4a65c_add_9ea2d_23 (by decide) ?_
  exact k_zret X hE kz1 dJx4a65c_add_9ea2d_24 (by omega) (by omega) ⟨q9, cap9, rfl, rfl, e1, e2, e3, by rw [kthta hha]⟩

set_option maxHeartbeats 4000000 in
set_option maxRecDepth 100000 in
theorem c_AC_init {l : Launch} (htr : l.stackTraces = false) {E : kE} {A : Nat → Prop} {C : kC} {L : kL} {th : kT} {a b : Int32} {v1 : Value} (h : C th = some (.inr (0, [.int a, v1, .int b]))) : kM l yJxa1e45_init_da8c8 cJxa1e45_init_da8c8 1 none 1 12 0 0 E A C L [.ref (L th)] (fun v C' L' => v = none ∧ L = L' ∧ C = C') := by
  refine kM.of htr (by decide) (Nat.le_of_ble_eq_true rfl) (fun Γ hl hR hN hnm X hE => ?_)
  refine k_lo (lo' := [(0, .ref (L th))]) ⟨rfl, trivial⟩ ?_
  refine k_aload_n X dJxa1e45_init_da8c8_0 rfl rfl ?_
  refine k_objInit X kb_33 kb_8 kb_9 (by rw [hR]; exact Nat.le_of_ble_eq_true rfl) (by rw [hR]; exact Nat.le_of_ble_eq_true rfl) dJxa1e45_init_da8c8_1 ?_
  exact k_vret X hE dJxa1e45_init_da8c8_4 (by omega) (by omega) ⟨rfl, rfl, rfl⟩

set_option maxHeartbeats 4000000 in
set_option maxRecDepth 100000 in
theorem c_ALi_init {l : Launch} (htr : l.stackTraces = false) {E : kE} {A : Nat → Prop} {C : kC} {L : kL} {th : kT} {a b : Int32} {v1 : Value} (h : C th = some (.inr (0, [.int a, v1, .int b]))) : kM l yJxc12de_init_da8c8 cJxc12de_init_da8c8 1 none 2 32 0 0 E A C L [.ref (L th)] (fun v C' L' => v = none ∧ L = L' ∧ C' = kup C th (some (.inr (0, [.int (nI 0), v1, .int b])))) := by
  refine kM.of htr (by decide) (Nat.le_of_ble_eq_true rfl) (fun Γ hl hR hN hnm X hE => ?_)
  refine k_lo (lo' := [(0, .ref (L th))]) ⟨rfl, trivial⟩ ?_
  refine k_aload_n X dJxc12de_init_da8c8_0 rfl rfl ?_
  refine k_callI (rest := []) X ki_Jxa1e45_init_da8c8 kb_29 (c_AC_init X.tr h) rfl rfl (Nat.le_of_ble_eq_true rfl) ⟨by rw [hR]; exact Nat.le_of_ble_eq_true rfl, by rw [hR]; exact Nat.le_of_ble_eq_true rfl⟩ ⟨by rw [hR]; exact Nat.le_of_ble_eq_true rfl, by rw [hR]; exact Nat.le_of_ble_eq_true rfl⟩ dJxc12de_init_da8c8_1 (fun v1 C9 L9 h9 => ?_)
  obtain ⟨rfl, rfl, rfl⟩ := h9
  refine k_aload_n X dJxc12de_init_da8c8_4 rfl rfl ?_
  refine k_iconst (v := (nI 0)) X dJxc12de_init_da8c8_5 (by decide) ?_
  refine k_put1 X h (fs9 := [.int (nI 0), v1, .int b]) (q := (RJx4a65c, TJx4a65c, 3)) rfl inlJx4a65c tyJx4a65c tyJx4a65c_ok nmJx4a65c 0 (by decide) kb_28 (Or.inl rfl) (Or.inl rfl) rfl rfl rfl (Nat.le_of_ble_eq_true rfl) rfl dJxc12de_init_da8c8_6 ?_
  exact k_vret X hE dJxc12de_init_da8c8_9 (by omega) (by omega) ⟨rfl, rfl, rfl⟩

set_option maxHeartbeats 4000000 in
set_option maxRecDepth 100000 in
theorem c_AL_init {l : Launch} (htr : l.stackTraces = false) {E : kE} {A : Nat → Prop} {C : kC} {L : kL} {th : kT} {a b : Int32} {v1 : Value} (h : C th = some (.inr (0, [.int a, v1, .int b]))) : kM l yJx4a65c_init_da8c8 cJx4a65c_init_da8c8 1 none 3 52 0 0 E A C L [.ref (L th)] (fun v C' L' => v = none ∧ L = L' ∧ C' = kup C th (some (.inr (0, [.int (nI 0), .ref E.2.2.1, .int b])))) := by
  refine kM.of htr (by decide) (Nat.le_of_ble_eq_true rfl) (fun Γ hl hR hN hnm X hE => ?_)
  refine k_lo (lo' := [(0, .ref (L th))]) ⟨rfl, trivial⟩ ?_
  refine k_aload_n X dJx4a65c_init_da8c8_0 rfl rfl ?_
  refine k_callI (rest := []) X ki_Jxc12de_init_da8c8 kb_24 (c_ALi_init X.tr h) rfl rfl (Nat.le_of_ble_eq_true rfl) ⟨by rw [hR]; exact Nat.le_of_ble_eq_true rfl, by rw [hR]; exact Nat.le_of_ble_eq_true rfl⟩ ⟨by rw [hR]; exact Nat.le_of_ble_eq_true rfl, by rw [hR]; exact Nat.le_of_ble_eq_true rfl⟩ dJx4a65c_init_da8c8_1 (fun v1 C9 L9 h9 => ?_)
  obtain ⟨rfl, rfl, rfl⟩ := h9
  refine k_aload_n X dJx4a65c_init_da8c8_4 rfl rfl ?_
  refine k_getsE X kb_22 dJx4a65c_init_da8c8_5 ?_
  refine k_putS X (fs9 := [.int (nI 0), .ref E.2.2.1, .int b]) (q := (RJx4a65c, TJx4a65c, 3)) rfl inlJx4a65c tyJx4a65c tyJx4a65c_ok nmJx4a65c 1 (by decide) kb_23 (Or.inl rfl) (Or.inl rfl) rfl rfl rfl (Nat.le_of_ble_eq_true rfl) rfl dJx4a65c_init_da8c8_8 ?_
  exact k_vret X hE dJx4a65c_init_da8c8_11 (by omega) (by omega) ⟨rfl, rfl, rfl⟩
