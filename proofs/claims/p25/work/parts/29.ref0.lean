theorem r_crew_IO {l : Launch} (htr : l.stackTraces = false) {E : kE} {A : Nat → Prop} {C : kC} {L : kL} {S : kI4} {N : kN3} (hX : isX E C L S N) (hO : okX S N) (job : Int32) (hb : ¬ kix job (N 1 0 0)) : kMH l yL_crew cL_crew 3 (some .int) [(0, 5, 6, 22)] 8 124 1 6 E A C L [.ref (L (1, 0, 0)), .int job] (fun v C' L' => v = some (.int (-2000000001)) ∧ L = L' ∧ C = C') := by
  have hj := hO.1
  refine (h_crew htr hX hO job).imp (fun v C' L' h => ?_)
  rcases h with h | h
  · obtain ⟨⟨i, hi, rfl, _⟩, _⟩ := h
    exact absurd (kix.of hi (by omega)) hb
  · exact ⟨h.1, h.2.2.1, h.2.2.2⟩
theorem r_site_IO {l : Launch} (htr : l.stackTraces = false) {E : kE} {A : Nat → Prop} {C : kC} {L : kL} {S : kI4} {N : kN3} (hX : isX E C L S N) (hO : okX S N) (job : Int32) (hb : ¬ kix job (N 1 0 0)) : kMH l yL_site cL_site 3 (some .int) [(0, 5, 6, 22)] 8 124 1 6 E A C L [.ref (L (1, 0, 0)), .int job] (fun v C' L' => v = some (.int (-2000000001)) ∧ L = L' ∧ C = C') := by
  have hj := hO.1
  refine (h_site htr hX hO job).imp (fun v C' L' h => ?_)
  rcases h with h | h
  · obtain ⟨⟨i, hi, rfl, _⟩, _⟩ := h
    exact absurd (kix.of hi (by omega)) hb
  · exact ⟨h.1, h.2.2.1, h.2.2.2⟩
theorem r_give_IO {l : Launch} (htr : l.stackTraces = false) {E : kE} {A : Nat → Prop} {C : kC} {L : kL} {S : kI4} {N : kN3} (hX : isX E C L S N) (hO : okX S N) (job cr : Int32) (hb : ¬ kix job (N 1 0 0)) : kMH l yL_gives cL_gives 4 (some .int) [(0, 6, 7, 22), (0, 6, 11, 13)] 8 128 2 12 E A C L [.ref (L (1, 0, 0)), .int job, .int cr] (fun v C' L' => v = some (.int (-2000000001)) ∧ L = L' ∧ C = C') := by
  have hj := hO.1
  refine (h_give htr hX hO job cr).imp (fun v C' L' h => ?_)
  rcases h with h | h | h
  · obtain ⟨⟨i, hi, rfl, _⟩, _⟩ := h
    exact absurd (kix.of hi (by omega)) hb
  · exact ⟨h.1, h.2.2.1, h.2.2.2⟩
  · obtain ⟨_, b, _⟩ := h
    exact absurd b.1 hb
theorem r_give_IA {l : Launch} (htr : l.stackTraces = false) {E : kE} {A : Nat → Prop} {C : kC} {L : kL} {S : kI4} {N : kN3} (hX : isX E C L S N) (hO : okX S N) (job cr : Int32) (hb : ¬ (kin cr (nI 0) (nI 3))) (hc : kix job (N 1 0 0)) : kMH l yL_gives cL_gives 4 (some .int) [(0, 6, 7, 22), (0, 6, 11, 13)] 8 128 2 12 E A C L [.ref (L (1, 0, 0)), .int job, .int cr] (fun v C' L' => v = some (.int (-2000000002)) ∧ L = L' ∧ C = C') := by
  have hj := hO.1
  refine (h_give htr hX hO job cr).imp (fun v C' L' h => ?_)
  rcases h with h | h | h
  · obtain ⟨⟨i, hi, rfl, a, _⟩, _⟩ := h
    exact absurd a hb
  · obtain ⟨_, b, _⟩ := h
    exact absurd hc b
  · exact ⟨h.1, h.2.2.1, h.2.2.2⟩
theorem r_set_IO {l : Launch} (htr : l.stackTraces = false) {E : kE} {A : Nat → Prop} {C : kC} {L : kL} {S : kI4} {N : kN3} (hX : isX E C L S N) (hO : okX S N) (job f x : Int32) (hb : ¬ kix job (N 1 0 0)) : kMH l yL_sets cL_sets 5 (some .int) [(0, 7, 8, 22), (0, 7, 13, 13)] 10 169 3 18 E A C L [.ref (L (1, 0, 0)), .int job, .int f, .int x] (fun v C' L' => v = some (.int (-2000000001)) ∧ L = L' ∧ C = C') := by
  have hj := hO.1
  refine (h_set htr hX hO job f x).imp (fun v C' L' h => ?_)
  rcases h with h | h | h
  · obtain ⟨⟨i, hi, rfl, _⟩, _⟩ := h
    exact absurd (kix.of hi (by omega)) hb
  · exact ⟨h.1, h.2.2.1, h.2.2.2⟩
  · obtain ⟨_, b, _⟩ := h
    exact absurd b.1 hb
theorem r_set_IA {l : Launch} (htr : l.stackTraces = false) {E : kE} {A : Nat → Prop} {C : kC} {L : kL} {S : kI4} {N : kN3} (hX : isX E C L S N) (hO : okX S N) (job f x : Int32) (hb : ¬ (kin f (nI 0) (nI 1) ∧ kin x (nI 0) (if f = nI 0 then nI 2 else nI 10000))) (hc : kix job (N 1 0 0)) : kMH l yL_sets cL_sets 5 (some .int) [(0, 7, 8, 22), (0, 7, 13, 13)] 10 169 3 18 E A C L [.ref (L (1, 0, 0)), .int job, .int f, .int x] (fun v C' L' => v = some (.int (-2000000002)) ∧ L = L' ∧ C = C') := by
  have hj := hO.1
  refine (h_set htr hX hO job f x).imp (fun v C' L' h => ?_)
  rcases h with h | h | h
  · obtain ⟨⟨i, hi, rfl, a, _⟩, _⟩ := h
    exact absurd a hb
  · obtain ⟨_, b, _⟩ := h
    exact absurd hc b
  · exact ⟨h.1, h.2.2.1, h.2.2.2⟩
theorem r_value_IO {l : Launch} (htr : l.stackTraces = false) {E : kE} {A : Nat → Prop} {C : kC} {L : kL} {S : kI4} {N : kN3} (hX : isX E C L S N) (hO : okX S N) (job f : Int32) (hb : ¬ kix job (N 1 0 0)) : kMH l yL_value cL_value 4 (some .int) [(0, 6, 7, 22), (0, 6, 11, 13)] 9 147 2 12 E A C L [.ref (L (1, 0, 0)), .int job, .int f] (fun v C' L' => v = some (.int (-2000000001)) ∧ L = L' ∧ C = C') := by
  have hj := hO.1
  refine (h_value htr hX hO job f).imp (fun v C' L' h => ?_)
  rcases h with h | h | h
  · obtain ⟨⟨i, hi, rfl, _⟩, _⟩ := h
    exact absurd (kix.of hi (by omega)) hb
  · exact ⟨h.1, h.2.2.1, h.2.2.2⟩
  · obtain ⟨_, b, _⟩ := h
    exact absurd b.1 hb
theorem r_value_IA {l : Launch} (htr : l.stackTraces = false) {E : kE} {A : Nat → Prop} {C : kC} {L : kL} {S : kI4} {N : kN3} (hX : isX E C L S N) (hO : okX S N) (job f : Int32) (hb : ¬ (kin f (nI 0) (nI 1))) (hc : kix job (N 1 0 0)) : kMH l yL_value cL_value 4 (some .int) [(0, 6, 7, 22), (0, 6, 11, 13)] 9 147 2 12 E A C L [.ref (L (1, 0, 0)), .int job, .int f] (fun v C' L' => v = some (.int (-2000000002)) ∧ L = L' ∧ C = C') := by
  have hj := hO.1
  refine (h_value htr hX hO job f).imp (fun v C' L' h => ?_)
  rcases h with h | h | h
  · obtain ⟨⟨i, hi, rfl, a, _⟩, _⟩ := h
    exact absurd a hb
  · obtain ⟨_, b, _⟩ := h
    exact absurd hc b
  · exact ⟨h.1, h.2.2.1, h.2.2.2⟩
theorem r_version_IO {l : Launch} (htr : l.stackTraces = false) {E : kE} {A : Nat → Prop} {C : kC} {L : kL} {S : kI4} {N : kN3} (hX : isX E C L S N) (hO : okX S N) (job f : Int32) (hb : ¬ kix job (N 1 0 0)) : kMH l yL_version cL_version 4 (some .int) [(0, 6, 7, 22), (0, 6, 11, 13)] 9 147 2 12 E A C L [.ref (L (1, 0, 0)), .int job, .int f] (fun v C' L' => v = some (.int (-2000000001)) ∧ L = L' ∧ C = C') := by
  have hj := hO.1
  refine (h_version htr hX hO job f).imp (fun v C' L' h => ?_)
  rcases h with h | h | h
  · obtain ⟨⟨i, hi, rfl, _⟩, _⟩ := h
    exact absurd (kix.of hi (by omega)) hb
  · exact ⟨h.1, h.2.2.1, h.2.2.2⟩
  · obtain ⟨_, b, _⟩ := h
    exact absurd b.1 hb
theorem r_version_IA {l : Launch} (htr : l.stackTraces = false) {E : kE} {A : Nat → Prop} {C : kC} {L : kL} {S : kI4} {N : kN3} (hX : isX E C L S N) (hO : okX S N) (job f : Int32) (hb : ¬ (kin f (nI 0) (nI 1))) (hc : kix job (N 1 0 0)) : kMH l yL_version cL_version 4 (some .int) [(0, 6, 7, 22), (0, 6, 11, 13)] 9 147 2 12 E A C L [.ref (L (1, 0, 0)), .int job, .int f] (fun v C' L' => v = some (.int (-2000000002)) ∧ L = L' ∧ C = C') := by
  have hj := hO.1
  refine (h_version htr hX hO job f).imp (fun v C' L' h => ?_)
  rcases h with h | h | h
  · obtain ⟨⟨i, hi, rfl, a, _⟩, _⟩ := h
    exact absurd a hb
  · obtain ⟨_, b, _⟩ := h
    exact absurd hc b
  · exact ⟨h.1, h.2.2.1, h.2.2.2⟩
theorem r_fetch_IO {l : Launch} (htr : l.stackTraces = false) {E : kE} {A : Nat → Prop} {C : kC} {L : kL} {S : kI4} {N : kN3} (hX : isX E C L S N) (hO : okX S N) (dv : Int32) (hb : ¬ kix dv 4) : kMH l yL_fetches cL_fetches 3 (some .int) [(0, 5, 6, 22)] 8 125 121 486 E A C L [.ref (L (1, 0, 0)), .int dv] (fun v C' L' => v = some (.int (-2000000001)) ∧ L = L' ∧ C = C') := by
  have hj := hO.1
  refine (h_fetch htr hX hO dv).imp (fun v C' L' h => ?_)
  rcases h with h | h
  · obtain ⟨⟨d, hd, rfl, _⟩, _⟩ := h
    exact absurd (kix.of hd (by decide)) hb
  · exact ⟨h.1, h.2.2.1, h.2.2.2⟩
theorem r_held_IO {l : Launch} (htr : l.stackTraces = false) {E : kE} {A : Nat → Prop} {C : kC} {L : kL} {S : kI4} {N : kN3} (hX : isX E C L S N) (hO : okX S N) (dv : Int32) (hb : ¬ kix dv 4) : kMH l yL_held cL_held 3 (some .int) [(0, 5, 6, 22)] 8 124 1 6 E A C L [.ref (L (1, 0, 0)), .int dv] (fun v C' L' => v = some (.int (-2000000001)) ∧ L = L' ∧ C = C') := by
  have hj := hO.1
  refine (h_held htr hX hO dv).imp (fun v C' L' h => ?_)
  rcases h with h | h
  · obtain ⟨⟨d, hd, rfl, _⟩, _⟩ := h
    exact absurd (kix.of hd (by decide)) hb
  · exact ⟨h.1, h.2.2.1, h.2.2.2⟩
theorem r_holds_IO {l : Launch} (htr : l.stackTraces = false) {E : kE} {A : Nat → Prop} {C : kC} {L : kL} {S : kI4} {N : kN3} (hX : isX E C L S N) (hO : okX S N) (dv job : Int32) (hb : ¬ kix dv 4) : kMH l yL_holds cL_holds 4 (some .int) [(0, 14, 15, 22)] 8 130 1 6 E A C L [.ref (L (1, 0, 0)), .int dv, .int job] (fun v C' L' => v = some (.int (-2000000001)) ∧ L = L' ∧ C = C') := by
  have hj := hO.1
  refine (h_holds htr hX hO dv job).imp (fun v C' L' h => ?_)
  rcases h with h | h
  · obtain ⟨⟨d, hd, rfl, _⟩, _⟩ := h
    exact absurd (kix.of hd (by decide)) hb
  · exact ⟨h.1, h.2.2.1, h.2.2.2⟩
theorem r_waiting_IO {l : Launch} (htr : l.stackTraces = false) {E : kE} {A : Nat → Prop} {C : kC} {L : kL} {S : kI4} {N : kN3} (hX : isX E C L S N) (hO : okX S N) (dv : Int32) (hb : ¬ kix dv 4) : kMH l yL_waiting cL_waiting 3 (some .int) [(0, 5, 6, 22)] 8 124 1 6 E A C L [.ref (L (1, 0, 0)), .int dv] (fun v C' L' => v = some (.int (-2000000001)) ∧ L = L' ∧ C = C') := by
  have hj := hO.1
  refine (h_waiting htr hX hO dv).imp (fun v C' L' h => ?_)
  rcases h with h | h
  · obtain ⟨⟨d, hd, rfl, _⟩, _⟩ := h
    exact absurd (kix.of hd (by decide)) hb
  · exact ⟨h.1, h.2.2.1, h.2.2.2⟩
theorem r_pile_IO {l : Launch} (htr : l.stackTraces = false) {E : kE} {A : Nat → Prop} {C : kC} {L : kL} {S : kI4} {N : kN3} (hX : isX E C L S N) (hO : okX S N) (dv : Int32) (hb : ¬ kix dv 4) : kMH l yL_pile cL_pile 3 (some .int) [(0, 5, 6, 22)] 8 124 1 6 E A C L [.ref (L (1, 0, 0)), .int dv] (fun v C' L' => v = some (.int (-2000000001)) ∧ L = L' ∧ C = C') := by
  have hj := hO.1
  refine (h_pile htr hX hO dv).imp (fun v C' L' h => ?_)
  rcases h with h | h
  · obtain ⟨⟨d, hd, rfl, _⟩, _⟩ := h
    exact absurd (kix.of hd (by decide)) hb
  · exact ⟨h.1, h.2.2.1, h.2.2.2⟩
theorem r_setRoom_IO {l : Launch} (htr : l.stackTraces = false) {E : kE} {A : Nat → Prop} {C : kC} {L : kL} {S : kI4} {N : kN3} (hX : isX E C L S N) (hO : okX S N) (dv ro : Int32) (hb : ¬ kix dv 4) : kMH l yL_rooms cL_rooms 4 (some .int) [(0, 6, 7, 22), (0, 6, 11, 13)] 8 128 2 12 E A C L [.ref (L (1, 0, 0)), .int dv, .int ro] (fun v C' L' => v = some (.int (-2000000001)) ∧ L = L' ∧ C = C') := by
  have hj := hO.1
  refine (h_setRoom htr hX hO dv ro).imp (fun v C' L' h => ?_)
  rcases h with h | h | h
  · obtain ⟨⟨d, hd, rfl, _⟩, _⟩ := h
    exact absurd (kix.of hd (by decide)) hb
  · exact ⟨h.1, h.2.2.1, h.2.2.2⟩
  · obtain ⟨_, b, _⟩ := h
    exact absurd b.1 hb
theorem r_setRoom_IA {l : Launch} (htr : l.stackTraces = false) {E : kE} {A : Nat → Prop} {C : kC} {L : kL} {S : kI4} {N : kN3} (hX : isX E C L S N) (hO : okX S N) (dv ro : Int32) (hb : ¬ (kin ro (nI 0) (nI 40))) (hc : kix dv 4) : kMH l yL_rooms cL_rooms 4 (some .int) [(0, 6, 7, 22), (0, 6, 11, 13)] 8 128 2 12 E A C L [.ref (L (1, 0, 0)), .int dv, .int ro] (fun v C' L' => v = some (.int (-2000000002)) ∧ L = L' ∧ C = C') := by
  have hj := hO.1
  refine (h_setRoom htr hX hO dv ro).imp (fun v C' L' h => ?_)
  rcases h with h | h | h
  · obtain ⟨⟨d, hd, rfl, a, _⟩, _⟩ := h
    exact absurd a hb
  · obtain ⟨_, b, _⟩ := h
    exact absurd hc b
  · exact ⟨h.1, h.2.2.1, h.2.2.2⟩
theorem r_make_IO {l : Launch} (htr : l.stackTraces = false) {E : kE} {A : Nat → Prop} {C : kC} {L : kL} {S : kI4} {N : kN3} (hX : isX E C L S N) (hO : okX S N) (h512 : ∀ d, d < 4 → N 2 d 0 < 512 ∧ N 3 d 0 < 512) (dv x : Int32) (hb : ¬ kix dv 4) : kMH l yL_makes cL_makes 4 (some .int) [(0, 6, 7, 22), (0, 6, 11, 13)] 9 216 7 1620 E A C L [.ref (L (1, 0, 0)), .int dv, .int x] (fun v C' L' => v = some (.int (-2000000001)) ∧ L = L' ∧ C = C') := by
  have hj := hO.1
  refine (h_make htr hX hO h512 dv x).imp (fun v C' L' h => ?_)
  rcases h with h | h | h
  · obtain ⟨⟨d, hd, rfl, _⟩, _⟩ := h
    exact absurd (kix.of hd (by decide)) hb
  · exact ⟨h.1, h.2.2.1, h.2.2.2⟩
  · obtain ⟨_, b, _⟩ := h
    exact absurd b.1 hb
theorem r_make_IA {l : Launch} (htr : l.stackTraces = false) {E : kE} {A : Nat → Prop} {C : kC} {L : kL} {S : kI4} {N : kN3} (hX : isX E C L S N) (hO : okX S N) (h512 : ∀ d, d < 4 → N 2 d 0 < 512 ∧ N 3 d 0 < 512) (dv x : Int32) (hb : ¬ (kin x (nI 0) (nI 9))) (hc : kix dv 4) : kMH l yL_makes cL_makes 4 (some .int) [(0, 6, 7, 22), (0, 6, 11, 13)] 9 216 7 1620 E A C L [.ref (L (1, 0, 0)), .int dv, .int x] (fun v C' L' => v = some (.int (-2000000002)) ∧ L = L' ∧ C = C') := by
  have hj := hO.1
  refine (h_make htr hX hO h512 dv x).imp (fun v C' L' h => ?_)
  rcases h with h | h | h
  · obtain ⟨⟨d, hd, rfl, a, _⟩, _⟩ := h
    exact absurd a hb
  · obtain ⟨_, b, _⟩ := h
    exact absurd hc b
  · exact ⟨h.1, h.2.2.1, h.2.2.2⟩
theorem r_heldValue_IO {l : Launch} (htr : l.stackTraces = false) {E : kE} {A : Nat → Prop} {C : kC} {L : kL} {S : kI4} {N : kN3} (hX : isX E C L S N) (hO : okX S N) (dv job f : Int32) (hb : ¬ kix dv 4) : kMH l yL_heldValue cL_heldValue 5 (some .int) [(0, 7, 8, 22), (0, 7, 13, 13), (0, 7, 18, 16)] 9 154 3 18 E A C L [.ref (L (1, 0, 0)), .int dv, .int job, .int f] (fun v C' L' => v = some (.int (-2000000001)) ∧ L = L' ∧ C = C') := by
  have hj := hO.1
  refine (h_heldValue htr hX hO dv job f).imp (fun v C' L' h => ?_)
  rcases h with h | h | h | h
  · obtain ⟨⟨d, hd, rfl, _⟩, _⟩ := h
    exact absurd (kix.of hd (by decide)) hb
  · exact ⟨h.1, h.2.2.1, h.2.2.2⟩
  · obtain ⟨_, b, _⟩ := h
    exact absurd b.1 hb
  · obtain ⟨_, ⟨d, hd, rfl, _⟩, _⟩ := h
    exact absurd (kix.of hd (by decide)) hb
theorem r_heldValue_IA {l : Launch} (htr : l.stackTraces = false) {E : kE} {A : Nat → Prop} {C : kC} {L : kL} {S : kI4} {N : kN3} (hX : isX E C L S N) (hO : okX S N) (dv job f : Int32) (hb : ¬ (kin f (nI 0) (nI 1))) (hc : kix dv 4) : kMH l yL_heldValue cL_heldValue 5 (some .int) [(0, 7, 8, 22), (0, 7, 13, 13), (0, 7, 18, 16)] 9 154 3 18 E A C L [.ref (L (1, 0, 0)), .int dv, .int job, .int f] (fun v C' L' => v = some (.int (-2000000002)) ∧ L = L' ∧ C = C') := by
  have hj := hO.1
  refine (h_heldValue htr hX hO dv job f).imp (fun v C' L' h => ?_)
  rcases h with h | h | h | h
  · obtain ⟨⟨d, hd, rfl, a, _⟩, _⟩ := h
    exact absurd a hb
  · obtain ⟨_, b, _⟩ := h
    exact absurd hc b
  · exact ⟨h.1, h.2.2.1, h.2.2.2⟩
  · obtain ⟨_, ⟨d, hd, rfl, a, _⟩, _⟩ := h
    exact absurd a hb
theorem r_heldValue_IS {l : Launch} (htr : l.stackTraces = false) {E : kE} {A : Nat → Prop} {C : kC} {L : kL} {S : kI4} {N : kN3} (hX : isX E C L S N) (hO : okX S N) (dv job f : Int32) {d : Nat} (hd : d < 4) (hdv : dv = nI d) (hK : (kin f (nI 0) (nI 1))) (hno : ∀ o, kHf S N d job o → o = none) : kMH l yL_heldValue cL_heldValue 5 (some .int) [(0, 7, 8, 22), (0, 7, 13, 13), (0, 7, 18, 16)] 9 154 3 18 E A C L [.ref (L (1, 0, 0)), .int dv, .int job, .int f] (fun v C' L' => v = some (.int (-2000000003)) ∧ L = L' ∧ C = C') := by
  have hj := hO.1
  refine (h_heldValue htr hX hO dv job f).imp (fun v C' L' h => ?_)
  rcases h with h | h | h | h
  · obtain ⟨⟨e, he, e2, a, ff, fS, kk, g, _⟩, _⟩ := h
    have z := nI_d (e2.symm.trans hdv) he hd
    subst z
    exact absurd (hno _ g) (by simp)
  · obtain ⟨_, b, _⟩ := h
    subst hdv
    exact absurd (kix.of hd (by decide)) b
  · obtain ⟨_, b, _⟩ := h
    exact absurd hK b.2
  · exact ⟨h.1, h.2.2.1, h.2.2.2⟩
theorem r_change_IO {l : Launch} (htr : l.stackTraces = false) {E : kE} {A : Nat → Prop} {C : kC} {L : kL} {S : kI4} {N : kN3} (hX : isX E C L S N) (hO : okX S N) (h512 : ∀ d, d < 4 → N 3 d 0 < 512) (dv job f x : Int32) (hb : ¬ kix dv 4) : kMH l yL_changes cL_changes 6 (some .int) [(0, 9, 10, 22), (0, 9, 15, 13), (0, 9, 20, 16)] 10 221 6 830 E A C L [.ref (L (1, 0, 0)), .int dv, .int job, .int f, .int x] (fun v C' L' => v = some (.int (-2000000001)) ∧ L = L' ∧ C = C') := by
  have hj := hO.1
  refine (h_change htr hX hO h512 dv job f x).imp (fun v C' L' h => ?_)
  rcases h with h | h | h | h
  · obtain ⟨⟨d, hd, rfl, _⟩, _⟩ := h
    exact absurd (kix.of hd (by decide)) hb
  · exact ⟨h.1, h.2.2.1, h.2.2.2⟩
  · obtain ⟨_, b, _⟩ := h
    exact absurd b.1 hb
  · obtain ⟨_, ⟨d, hd, rfl, _⟩, _⟩ := h
    exact absurd (kix.of hd (by decide)) hb
theorem r_change_IA {l : Launch} (htr : l.stackTraces = false) {E : kE} {A : Nat → Prop} {C : kC} {L : kL} {S : kI4} {N : kN3} (hX : isX E C L S N) (hO : okX S N) (h512 : ∀ d, d < 4 → N 3 d 0 < 512) (dv job f x : Int32) (hb : ¬ (kin f (nI 0) (nI 1) ∧ kin x (nI 0) (if f = nI 0 then nI 2 else nI 10000))) (hc : kix dv 4) : kMH l yL_changes cL_changes 6 (some .int) [(0, 9, 10, 22), (0, 9, 15, 13), (0, 9, 20, 16)] 10 221 6 830 E A C L [.ref (L (1, 0, 0)), .int dv, .int job, .int f, .int x] (fun v C' L' => v = some (.int (-2000000002)) ∧ L = L' ∧ C = C') := by
  have hj := hO.1
  refine (h_change htr hX hO h512 dv job f x).imp (fun v C' L' h => ?_)
  rcases h with h | h | h | h
  · obtain ⟨⟨d, hd, rfl, a, _⟩, _⟩ := h
    exact absurd a hb
  · obtain ⟨_, b, _⟩ := h
    exact absurd hc b
  · exact ⟨h.1, h.2.2.1, h.2.2.2⟩
  · obtain ⟨_, ⟨d, hd, rfl, a, _⟩, _⟩ := h
    exact absurd a hb
theorem r_change_IS {l : Launch} (htr : l.stackTraces = false) {E : kE} {A : Nat → Prop} {C : kC} {L : kL} {S : kI4} {N : kN3} (hX : isX E C L S N) (hO : okX S N) (h512 : ∀ d, d < 4 → N 3 d 0 < 512) (dv job f x : Int32) {d : Nat} (hd : d < 4) (hdv : dv = nI d) (hK : (kin f (nI 0) (nI 1) ∧ kin x (nI 0) (if f = nI 0 then nI 2 else nI 10000))) (hno : ∀ o, kHf S N d job o → o = none) : kMH l yL_changes cL_changes 6 (some .int) [(0, 9, 10, 22), (0, 9, 15, 13), (0, 9, 20, 16)] 10 221 6 830 E A C L [.ref (L (1, 0, 0)), .int dv, .int job, .int f, .int x] (fun v C' L' => v = some (.int (-2000000003)) ∧ L = L' ∧ C = C') := by
  have hj := hO.1
  refine (h_change htr hX hO h512 dv job f x).imp (fun v C' L' h => ?_)
  rcases h with h | h | h | h
  · obtain ⟨⟨e, he, e2, a, ff, fS, kk, g, _⟩, _⟩ := h
    have z := nI_d (e2.symm.trans hdv) he hd
    subst z
    exact absurd (hno _ g) (by simp)
  · obtain ⟨_, b, _⟩ := h
    subst hdv
    exact absurd (kix.of hd (by decide)) b
  · obtain ⟨_, b, _⟩ := h
    exact absurd hK b.2
  · exact ⟨h.1, h.2.2.1, h.2.2.2⟩
theorem r_numberOf_IO {l : Launch} (htr : l.stackTraces = false) {E : kE} {A : Nat → Prop} {C : kC} {L : kL} {S : kI4} {N : kN3} (hX : isX E C L S N) (hO : okX S N) (dv own : Int32) (hb : ¬ kix dv 4) : kMH l yL_number cL_number 4 (some .int) [(0, 6, 7, 22), (0, 6, 11, 13)] 8 126 2 12 E A C L [.ref (L (1, 0, 0)), .int dv, .int own] (fun v C' L' => v = some (.int (-2000000001)) ∧ L = L' ∧ C = C') := by
  have hj := hO.1
  refine (h_numberOf htr hX hO dv own).imp (fun v C' L' h => ?_)
  rcases h with h | h | h
  · obtain ⟨⟨d, hd, rfl, _⟩, _⟩ := h
    exact absurd (kix.of hd (by decide)) hb
  · exact ⟨h.1, h.2.2.1, h.2.2.2⟩
  · obtain ⟨_, ⟨d, hd, rfl, _⟩, _⟩ := h
    exact absurd (kix.of hd (by decide)) hb
theorem r_numberOf_IA {l : Launch} (htr : l.stackTraces = false) {E : kE} {A : Nat → Prop} {C : kC} {L : kL} {S : kI4} {N : kN3} (hX : isX E C L S N) (hO : okX S N) (dv own : Int32) {d : Nat} (hd : d < 4) (hdv : dv = nI d) (hno : ∀ k, k < N 2 d 0 → own ≠ nI (1000 + k)) : kMH l yL_number cL_number 4 (some .int) [(0, 6, 7, 22), (0, 6, 11, 13)] 8 126 2 12 E A C L [.ref (L (1, 0, 0)), .int dv, .int own] (fun v C' L' => v = some (.int (-2000000002)) ∧ L = L' ∧ C = C') := by
  have hj := hO.1
  refine (h_numberOf htr hX hO dv own).imp (fun v C' L' h => ?_)
  rcases h with h | h | h
  · obtain ⟨⟨e, he, e2, k, hk, e3, _⟩, _⟩ := h
    have z := nI_d (e2.symm.trans hdv) he hd
    subst z
    exact absurd e3 (hno k hk)
  · obtain ⟨_, b, _⟩ := h
    subst hdv
    exact absurd (kix.of hd (by decide)) b
  · exact ⟨h.1, h.2.2.1, h.2.2.2⟩
theorem r_send_IO {l : Launch} (htr : l.stackTraces = false) {E : kE} {A : Nat → Prop} {C : kC} {L : kL} {S : kI4} {N : kN3} (hX : isX E C L S N) (hO : okX S N) (h54 : ∀ d, d < 4 → N 5 d 0 ≤ N 4 d 0) (dv most : Int32) (hb : ¬ kix dv 4) : kMH l yL_sends cL_sends 4 (some .int) [(0, 6, 7, 22), (0, 6, 11, 13)] 10 245 2 12 E A C L [.ref (L (1, 0, 0)), .int dv, .int most] (fun v C' L' => v = some (.int (-2000000001)) ∧ L = L' ∧ C = C') := by
  have hj := hO.1
  have hm0 : ∀ d mo, d < 4 → dv = nI d → mo ≤ 100 → most = nI mo → min mo (N 3 d 0 - N 4 d 0) ≤ 0 := fun d mo hd e _ _ => by
    subst e
    exact absurd (kix.of hd (by decide)) hb
  refine (h_send htr hX hO h54 dv most 0 hm0).imp (fun v C' L' h => ?_)
  rcases h with h | h | h
  · obtain ⟨⟨d, hd, rfl, _⟩, _⟩ := h
    exact absurd (kix.of hd (by decide)) hb
  · exact ⟨h.1, h.2.2.1, h.2.2.2⟩
  · obtain ⟨_, b, _⟩ := h
    exact absurd b.1 hb
theorem r_send_IA {l : Launch} (htr : l.stackTraces = false) {E : kE} {A : Nat → Prop} {C : kC} {L : kL} {S : kI4} {N : kN3} (hX : isX E C L S N) (hO : okX S N) (h54 : ∀ d, d < 4 → N 5 d 0 ≤ N 4 d 0) (dv most : Int32) (hb : kix dv 4 ∧ ¬ (kin most (nI 1) (nI 100))) : kMH l yL_sends cL_sends 4 (some .int) [(0, 6, 7, 22), (0, 6, 11, 13)] 10 245 2 12 E A C L [.ref (L (1, 0, 0)), .int dv, .int most] (fun v C' L' => v = some (.int (-2000000002)) ∧ L = L' ∧ C = C') := by
  have hj := hO.1
  have hm0 : ∀ d mo, d < 4 → dv = nI d → mo ≤ 100 → most = nI mo → min mo (N 3 d 0 - N 4 d 0) ≤ 0 := fun d mo hd e hm e2 => by
    by_cases c : mo = 0
    · rw [c]
      exact Nat.le_of_eq (Nat.zero_min _)
    · subst e2
      exact absurd ⟨nI_nlt (by omega) (by omega), nI_le hm (by decide)⟩ hb.2
  refine (h_send htr hX hO h54 dv most 0 hm0).imp (fun v C' L' h => ?_)
  rcases h with h | h | h
  · obtain ⟨⟨d, hd, rfl, mo, m1, m2, rfl, _⟩, _⟩ := h
    exact absurd ⟨nI_nlt m1 (by omega), nI_le m2 (by decide)⟩ hb.2
  · obtain ⟨_, b, _⟩ := h
    exact absurd hb.1 b
  · exact ⟨h.1, h.2.2.1, h.2.2.2⟩
theorem r_reason_IO {l : Launch} (htr : l.stackTraces = false) {E : kE} {A : Nat → Prop} {C : kC} {L : kL} {S : kI4} {N : kN3} (hX : isX E C L S N) (hO : okX S N) (dv pl : Int32) (hb : (¬ kix dv 4) ∨ (∃ d, d < 4 ∧ dv = nI d ∧ ¬ kix pl (N 5 d 0))) : kMH l yL_reason cL_reason 4 (some .int) [(0, 6, 7, 22)] 9 148 2 12 E A C L [.ref (L (1, 0, 0)), .int dv, .int pl] (fun v C' L' => v = some (.int (-2000000001)) ∧ L = L' ∧ C = C') := by
  have hj := hO.1
  refine (h_reason htr hX hO dv pl).imp (fun v C' L' h => ?_)
  rcases h with h | h
  · obtain ⟨⟨d, hd, e, i, hi, e2, _⟩, _⟩ := h
    subst e
    subst e2
    rcases hb with hb | ⟨q, hq, e3, hb⟩
    · exact absurd (kix.of hd (by decide)) hb
    · have z := nI_d e3 hd hq
      subst z
      exact absurd (kix.of hi (by have := (hO.2 d hd).2.2.2.1; omega)) hb
  · exact ⟨h.1, h.2.2.1, h.2.2.2⟩
theorem r_refusedValue_IO {l : Launch} (htr : l.stackTraces = false) {E : kE} {A : Nat → Prop} {C : kC} {L : kL} {S : kI4} {N : kN3} (hX : isX E C L S N) (hO : okX S N) (dv pl : Int32) (hb : (¬ kix dv 4) ∨ (∃ d, d < 4 ∧ dv = nI d ∧ ¬ kix pl (N 5 d 0))) : kMH l yL_refused cL_refused 4 (some .int) [(0, 6, 7, 22)] 9 148 2 12 E A C L [.ref (L (1, 0, 0)), .int dv, .int pl] (fun v C' L' => v = some (.int (-2000000001)) ∧ L = L' ∧ C = C') := by
  have hj := hO.1
  refine (h_refusedValue htr hX hO dv pl).imp (fun v C' L' h => ?_)
  rcases h with h | h
  · obtain ⟨⟨d, hd, e, i, hi, e2, _⟩, _⟩ := h
    subst e
    subst e2
    rcases hb with hb | ⟨q, hq, e3, hb⟩
    · exact absurd (kix.of hd (by decide)) hb
    · have z := nI_d e3 hd hq
      subst z
      exact absurd (kix.of hi (by have := (hO.2 d hd).2.2.2.1; omega)) hb
  · exact ⟨h.1, h.2.2.1, h.2.2.2⟩
theorem r_add_IA {l : Launch} (htr : l.stackTraces = false) {E : kE} {A : Nat → Prop} {C : kC} {L : kL} {S : kI4} {N : kN3} (hX : isX E C L S N) (hO : okX S N) (cr si : Int32) (hb : ¬ (kin cr (nI 0) (nI 3) ∧ kin si (nI 0) (nI 9))) : kMH l yL_adds cL_adds 4 (some .int) [(0, 6, 7, 13), (0, 6, 11, 16)] 8 193 6 110 E A C L [.ref (L (1, 0, 0)), .int cr, .int si] (fun v C' L' => v = some (.int (-2000000002)) ∧ L = L' ∧ C = C') := by
  have hj := hO.1
  refine (h_add htr hX hO cr si).imp (fun v C' L' h => ?_)
  rcases h with h | h | h
  · obtain ⟨⟨a, _⟩, _⟩ := h
    exact absurd a hb
  · exact ⟨h.1, h.2.2.1, h.2.2.2⟩
  · obtain ⟨_, b, _⟩ := h
    exact absurd (show kin cr (nI 0) (nI 3) ∧ kin si (nI 0) (nI 9) from ⟨b.1, b.2.1⟩) hb
theorem r_add_IS {l : Launch} (htr : l.stackTraces = false) {E : kE} {A : Nat → Prop} {C : kC} {L : kL} {S : kI4} {N : kN3} (hX : isX E C L S N) (hO : okX S N) (cr si : Int32) (hb : kin cr (nI 0) (nI 3) ∧ kin si (nI 0) (nI 9)) (hn : N 1 0 0 = 40) : kMH l yL_adds cL_adds 4 (some .int) [(0, 6, 7, 13), (0, 6, 11, 16)] 8 193 6 110 E A C L [.ref (L (1, 0, 0)), .int cr, .int si] (fun v C' L' => v = some (.int (-2000000003)) ∧ L = L' ∧ C = C') := by
  have hj := hO.1
  refine (h_add htr hX hO cr si).imp (fun v C' L' h => ?_)
  rcases h with h | h | h
  · obtain ⟨⟨_, a, _⟩, _⟩ := h
    omega
  · obtain ⟨_, b, _⟩ := h
    exact absurd hb b
  · exact ⟨h.1, h.2.2.1, h.2.2.2⟩
