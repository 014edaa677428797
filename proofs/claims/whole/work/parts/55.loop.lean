def kCs (N : kN3) (i cells slots : Nat) : Prop := cells ≤ 60 + 130 * i + 6 * kSn N ∧ slots ≤ 20000 + 4000 * i + 900 * kSn N
set_option maxHeartbeats 4000000 in
set_option maxRecDepth 100000 in
theorem lw_loop {Γ : kG} {E : kE} {A : Nat → Prop} {b n : Nat} {xs : Nat → Int32} (K : kLc Γ E A b n xs) (hn : n ≤ 2560) : ∀ (m i : Nat) (C : kC) (L : kL) (S : kI4) (N : kN3) (M : kM2) (Q : kQ2) (cells slots : Nat), i + m = 513 → 5 * i ≤ n → kLw E C L S N M Q → Q 14 0 ≤ i → kCs N i cells slots → kW Γ E A C L cells slots 23 (kLo b L i) [] := by
  intro m
  induction m with
  | zero =>
    intro i C L S N M Q cells slots hm hi
    exact absurd hi (by omega)
  | succ m ih =>
    intro i C L S N M Q cells slots hm hi W hq hcs
    have hsn := W.2.2.2.1.sn
    have hcs1 := hcs.1
    have hcs2 := hcs.2
    have K2 := K
    obtain ⟨X, hN, hR, rd, ln, rt⟩ := K2
    refine k_iload X dL_law_23 rfl ?_
    refine k_aload_n X dL_law_25 rfl rfl ?_
    refine ln _ _ _ _ _ _ _ dL_law_26 ?_
    refine k_iconst (v := nI 5) X dL_law_27 (by decide) ?_
    refine k_isub X dL_law_28 ?_
    refine k_icmp_gt (tgt := 1515) X dL_law_29 (by decide) (fun c29 => ?_) (fun c29 => ?_)
    · refine k_iconst (v := nI 1) X dL_law_1515 (by decide) ?_
      exact rt _ _ _ _ _ _ (by omega) (by omega) dL_law_1516
    · have hlt : 5 * i + 5 ≤ n := by
        rcases Nat.lt_or_ge n (5 * i + 5) with z | z
        · exact absurd ((kgd hn (by omega)).mpr z) c29
        · exact z
      have kk : ∀ (C' : kC) (L' : kL) (S' : kI4) (N' : kN3) (M' : kM2) (Q' : kQ2) (cells' slots' : Nat), kLw E C' L' S' N' M' Q' → Q' 14 0 ≤ i + 1 → cells' + 6 * kSn N ≤ cells + 130 + 6 * kSn N' → slots' + 900 * kSn N ≤ slots + 4000 + 900 * kSn N' → kW Γ E A C' L' cells' slots' 1509 (kLo b L' i) [] := by
        intro C' L' S' N' M' Q' cells' slots' W' hq' h1 h2
        refine k_iinc (v := nI (5 * (i + 1))) X dL_law_1509 rfl (by rw [show Int32.ofInt 5 = nI 5 from by decide]; exact nI_add _ _) (by rw [hN]; decide) ?_
        refine k_goto (tgt := 23) X dL_law_1512 (by decide) ?_
        exact k_lo (lo' := kLo b L' (i + 1)) ⟨rfl, rfl, rfl, rfl, rfl, trivial⟩ (ih (i + 1) C' L' S' N' M' Q' cells' slots' (by omega) (by omega) W' hq' ⟨by omega, by omega⟩)
      refine k_aload_n X dL_law_32 rfl rfl ?_
      refine k_iload X dL_law_33 rfl ?_
      refine rd _ _ _ _ _ _ _ _ (show 5 * i < n by omega) dL_law_35 ?_
      refine k_bipush (v := nI 31) X dL_law_36 (by decide) ?_
      refine k_iand X dL_law_38 ?_
      obtain ⟨c, hc, ec⟩ := kand31 (xs (5 * i))
      refine k_rw (y := nI c) ec ?_
      rcases (show c = 0 ∨ c = 1 ∨ c = 2 ∨ c = 3 ∨ c = 4 ∨ c = 5 ∨ c = 6 ∨ c = 7 ∨ c = 8 ∨ c = 9 ∨ c = 10 ∨ c = 11 ∨ c = 12 ∨ c = 13 ∨ c = 14 ∨ c = 15 ∨ c = 16 ∨ c = 17 ∨ c = 18 ∨ c = 19 ∨ c = 20 ∨ c = 21 ∨ 22 ≤ c by omega) with rfl | rfl | rfl | rfl | rfl | rfl | rfl | rfl | rfl | rfl | rfl | rfl | rfl | rfl | rfl | rfl | rfl | rfl | rfl | rfl | rfl | rfl | hge
      · refine k_tableIn (off := 101) (tgt := 140) X dL_law_39 (by decide) (by decide) (by decide) (by decide) ?_
        exact lw_add K W hlt (by omega) hq (by omega) (by omega) kk
      · refine k_tableIn (off := 169) (tgt := 208) X dL_law_39 (by decide) (by decide) (by decide) (by decide) ?_
        exact lw_give K W hlt (by omega) hq (by omega) (by omega) kk
      · refine k_tableIn (off := 237) (tgt := 276) X dL_law_39 (by decide) (by decide) (by decide) (by decide) ?_
        exact lw_set K W hlt (by omega) hq (by omega) (by omega) kk
      · refine k_tableIn (off := 317) (tgt := 356) X dL_law_39 (by decide) (by decide) (by decide) (by decide) ?_
        exact lw_jobs K W hlt (by omega) hq (by omega) (by omega) kk
      · refine k_tableIn (off := 330) (tgt := 369) X dL_law_39 (by decide) (by decide) (by decide) (by decide) ?_
        exact lw_crew K W hlt (by omega) hq (by omega) (by omega) kk
      · refine k_tableIn (off := 386) (tgt := 425) X dL_law_39 (by decide) (by decide) (by decide) (by decide) ?_
        exact lw_site K W hlt (by omega) hq (by omega) (by omega) kk
      · refine k_tableIn (off := 442) (tgt := 481) X dL_law_39 (by decide) (by decide) (by decide) (by decide) ?_
        exact lw_value K W hlt (by omega) hq (by omega) (by omega) kk
      · refine k_tableIn (off := 510) (tgt := 549) X dL_law_39 (by decide) (by decide) (by decide) (by decide) ?_
        exact lw_version K W hlt (by omega) hq (by omega) (by omega) kk
      · refine k_tableIn (off := 578) (tgt := 617) X dL_law_39 (by decide) (by decide) (by decide) (by decide) ?_
        exact lw_setRoom K W hlt (by omega) hq (by omega) (by omega) kk
      · refine k_tableIn (off := 646) (tgt := 685) X dL_law_39 (by decide) (by decide) (by decide) (by decide) ?_
        exact lw_fetch K W hlt (by omega) hq (by omega) (by omega) kk
      · refine k_tableIn (off := 702) (tgt := 741) X dL_law_39 (by decide) (by decide) (by decide) (by decide) ?_
        exact lw_held K W hlt (by omega) hq (by omega) (by omega) kk
      · refine k_tableIn (off := 758) (tgt := 797) X dL_law_39 (by decide) (by decide) (by decide) (by decide) ?_
        exact lw_holds K W hlt (by omega) hq (by omega) (by omega) kk
      · refine k_tableIn (off := 833) (tgt := 872) X dL_law_39 (by decide) (by decide) (by decide) (by decide) ?_
        exact lw_heldValue K W hlt (by omega) hq (by omega) (by omega) kk
      · refine k_tableIn (off := 913) (tgt := 952) X dL_law_39 (by decide) (by decide) (by decide) (by decide) ?_
        exact lw_change K W hlt (by omega) hq (by omega) (by omega) kk
      · refine k_tableIn (off := 1005) (tgt := 1044) X dL_law_39 (by decide) (by decide) (by decide) (by decide) ?_
        exact lw_make K W hlt (by omega) hq (by omega) (by omega) kk
      · refine k_tableIn (off := 1073) (tgt := 1112) X dL_law_39 (by decide) (by decide) (by decide) (by decide) ?_
        exact lw_numberOf K W hlt (by omega) hq (by omega) (by omega) kk
      · refine k_tableIn (off := 1141) (tgt := 1180) X dL_law_39 (by decide) (by decide) (by decide) (by decide) ?_
        exact lw_send K W hlt (by omega) hq (by omega) (by omega) kk
      · refine k_tableIn (off := 1209) (tgt := 1248) X dL_law_39 (by decide) (by decide) (by decide) (by decide) ?_
        exact lw_waiting K W hlt (by omega) hq (by omega) (by omega) kk
      · refine k_tableIn (off := 1265) (tgt := 1304) X dL_law_39 (by decide) (by decide) (by decide) (by decide) ?_
        exact lw_pile K W hlt (by omega) hq (by omega) (by omega) kk
      · refine k_tableIn (off := 1321) (tgt := 1360) X dL_law_39 (by decide) (by decide) (by decide) (by decide) ?_
        exact lw_reason K W hlt (by omega) hq (by omega) (by omega) kk
      · refine k_tableIn (off := 1389) (tgt := 1428) X dL_law_39 (by decide) (by decide) (by decide) (by decide) ?_
        exact lw_refusedValue K W hlt (by omega) hq (by omega) (by omega) kk
      · refine k_tableIn (off := 1457) (tgt := 1496) X dL_law_39 (by decide) (by decide) (by decide) (by decide) ?_
        exact lw_done K W hlt (by omega) hq (by omega) (by omega) kk
      · refine k_tableOut (tgt := 1509) X dL_law_39 (Or.inr (ksw22 c hc hge)) (by decide) ?_
        exact kk C L S N M Q cells slots W (by omega) (by omega) (by omega)
