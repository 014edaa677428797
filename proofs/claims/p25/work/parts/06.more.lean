theorem kup_kup {α : Type} {f : kT → α} {t : kT} {v w : α} : kup (kup f t v) t w = kup f t w := by
  funext x
  by_cases h : x = t
  · rw [h, kup_s, kup_s]
  · rw [kup_n h, kup_n h, kup_n h]
theorem kup_id {α : Type} {f : kT → α} {t : kT} : kup f t (f t) = f := by
  funext x
  by_cases h : x = t
  · rw [h, kup_s]
  · rw [kup_n h]
theorem kne1 {f g d e k j : Nat} (h : f ≠ g) : ((f, d, k) : kT) ≠ (g, e, j) := fun z => h (congrArg Prod.fst z)
theorem kne2 {f d e k j : Nat} (h : d ≠ e) : ((f, d, k) : kT) ≠ (f, e, j) := fun z => h (congrArg (fun x : kT => x.2.1) z)
theorem kne3 {f d k j : Nat} (h : k ≠ j) : ((f, d, k) : kT) ≠ (f, d, j) := fun z => h (congrArg (fun x : kT => x.2.2) z)
theorem kz0 : narrow .boolean (.int (nI 0)) = .int (nI 0) := rfl
theorem kz1 : narrow .boolean (.int (nI 1)) = .int (nI 1) := rfl
theorem kz_of {x : Int32} (h : x = nI 0 ∨ x = nI 1) : narrow .boolean (.int x) = .int x := by
  rcases h with h | h
  · rw [h]; exact kz0
  · rw [h]; exact kz1
section KR6
variable {Γ : kG} {E : kE} {A : Nat → Prop} {cc : ByteArray} {own : String} {C : kC} {L : kL} {cells slots pc : Nat} {lo : List (Nat × Value)} {rest : List Value}
theorem k_iaddN (X : kX Γ E A cc own) {a b : Nat} (hdg : decode cc pc = .ok (.iadd, 1)) (k : kW Γ E A C L cells slots (pc + 1) lo (.int (nI (a + b)) :: rest)) : kW Γ E A C L cells slots pc lo (.int (nI b) :: .int (nI a) :: rest) := k_iadd X hdg (by rw [nI_add]; exact k)
theorem k_imulN (X : kX Γ E A cc own) {a b : Nat} (hdg : decode cc pc = .ok (.imul, 1)) (k : kW Γ E A C L cells slots (pc + 1) lo (.int (nI (a * b)) :: rest)) : kW Γ E A C L cells slots pc lo (.int (nI b) :: .int (nI a) :: rest) := k_imul X hdg (by rw [pk_mul]; exact k)
theorem k_isubN (X : kX Γ E A cc own) {a b : Nat} (h : b ≤ a) (hdg : decode cc pc = .ok (.isub, 1)) (k : kW Γ E A C L cells slots (pc + 1) lo (.int (nI (a - b)) :: rest)) : kW Γ E A C L cells slots pc lo (.int (nI b) :: .int (nI a) :: rest) := k_isub X hdg (by rw [pk_sub h]; exact k)
/-- another name for the number on top -/
theorem k_rw {x y : Int32} (h : x = y) (k : kW Γ E A C L cells slots pc lo (.int y :: rest)) : kW Γ E A C L cells slots pc lo (.int x :: rest) := by rw [h]; exact k
theorem k_put1 (X : kX Γ E A cc own) {t : kT} {a : Nat} {ci : Nat} {fs fs9 : List Value} (hC : C t = some (.inr (ci, fs))) {q : vw_C} (hc : vwCl[ci]? = some q) (hin : ∀ w ∈ u_ws q.1 q.2.1 q.2.2, w ∈ wsL_law) (ty0 : Nat → FieldType) (hty : ∀ k, k < q.2.2 → parseFieldDescriptor (q.2.1 k).2.2.1 = some (ty0 k)) (hnm : ∀ a, a < q.2.2 → ∀ b, b < q.2.2 → a ≠ b → (q.2.1 a).2.1 ≠ (q.2.1 b).2.1) (k : Nat) {v : Value} {index : Nat} {ref : String} (hk : k < q.2.2) (hlink : Cond.fieldLink own index ref (q.2.1 k).2.1 (q.2.1 k).2.2.1 ∈ wsL_law) (hsame : ref = (q.2.1 k).1 ∨ Cond.sameField ref (q.2.1 k).1 (q.2.1 k).2.1 (q.2.1 k).2.2.1 ∈ wsL_law) (hfin : (q.2.1 k).2.2.2 = false ∨ ((kMe Γ).name = "<init>" ∧ (q.2.1 k).1 = own)) (ha : L t = a) (hn : narrow (ty0 k) v = v) (hfit : fits (ty0 k) v = true) (hl9 : k < fs.length) (hfs : fs.set k v = fs9) (hdg : decode cc pc = .ok (.putfield index, 3)) (k9 : kW Γ E A (kup C t (some (.inr (ci, fs9)))) L cells slots (pc + 3) lo rest) : kW Γ E A C L cells slots pc lo (v :: .ref a :: rest) :=
  k_put0 X hC hc hin ty0 hty hnm k hk hlink hsame hfin ha hn hfit hl9 hdg (by rw [hfs]; exact k9)
theorem k_putS (X : kX Γ E A cc own) {t : kT} {a : Nat} {ci : Nat} {fs fs9 : List Value} {q : vw_C} (hc : vwCl[ci]? = some q) (hin : ∀ w ∈ u_ws q.1 q.2.1 q.2.2, w ∈ wsL_law) (ty0 : Nat → FieldType) (hty : ∀ k, k < q.2.2 → parseFieldDescriptor (q.2.1 k).2.2.1 = some (ty0 k)) (hnm : ∀ a, a < q.2.2 → ∀ b, b < q.2.2 → a ≠ b → (q.2.1 a).2.1 ≠ (q.2.1 b).2.1) (k : Nat) {v : Value} {index : Nat} {ref : String} (hk : k < q.2.2) (hlink : Cond.fieldLink own index ref (q.2.1 k).2.1 (q.2.1 k).2.2.1 ∈ wsL_law) (hsame : ref = (q.2.1 k).1 ∨ Cond.sameField ref (q.2.1 k).1 (q.2.1 k).2.1 (q.2.1 k).2.2.1 ∈ wsL_law) (hfin : (q.2.1 k).2.2.2 = false ∨ ((kMe Γ).name = "<init>" ∧ (q.2.1 k).1 = own)) (ha : L t = a) (hn : narrow (ty0 k) v = v) (hfit : fits (ty0 k) v = true) (hl9 : k < fs.length) (hfs : fs.set k v = fs9) (hdg : decode cc pc = .ok (.putfield index, 3)) (k9 : kW Γ E A (kup C t (some (.inr (ci, fs9)))) L cells slots (pc + 3) lo rest) : kW Γ E A (kup C t (some (.inr (ci, fs)))) L cells slots pc lo (v :: .ref a :: rest) :=
  k_put1 X kup_s hc hin ty0 hty hnm k hk hlink hsame hfin ha hn hfit hl9 hfs hdg (by rw [kup_kup]; exact k9)
end KR6
