theorem lw_xN {b : Nat} {s : State} (hts : ∀ w ∈ lw_tbl, w.before #[Value.ref b] s = true) : xN s :=
  ⟨va_Nw.of rfl (hts (.methodLinkNest RX2 47 yX5_within RX5) (by decide +kernel)), va_Nw.of rfl (hts (.methodLinkNest RX2 55 yX5_hitWorth RX5) (by decide +kernel)), va_Nw.of rfl (hts (.methodLinkNest RX2 63 yX5_postsRun RX5) (by decide +kernel)), va_Nw.of rfl (hts (.methodLinkNest RX0 33 yX5_within RX5) (by decide +kernel)), va_Nw.of rfl (hts (.methodLinkNest RX3 96 yX5_within RX5) (by decide +kernel)), va_Nw.of rfl (hts (.methodLinkNest RX1 11 yX2_init RX5) (by decide +kernel)), va_Nw.of rfl (hts (.methodLinkNest RX5 33 yX3_init RX5) (by decide +kernel)), va_Nw.of rfl (hts (.methodLinkNest RX3 11 yX2_init RX5) (by decide +kernel)), va_Nw.of rfl (hts (.methodLinkNest RX0 26 yX2_init RX5) (by decide +kernel)), va_Nw.of rfl (hts (.methodLinkNest RX5 47 yX2_init RX5) (by decide +kernel)), va_Nw.of rfl (hts (.fieldLinkNest RX0 55 RX5 "TENS" "[I" RX5) (by decide +kernel))⟩
theorem lw_xA {b : Nat} {s : State} (hts : ∀ w ∈ lw_tbl, w.before #[Value.ref b] s = true) : xA s :=
  ⟨va_AO.of (hts (.arrayOver (.object RX2)) (by decide +kernel)), va_AO.of (hts (.arrayOver (.object RX1)) (by decide +kernel)), hts (.arrayOver (.array .int)) (by decide +kernel)⟩
theorem lw_old {s : State} : ∀ a : Nat, a < s.heap.size → ¬ lA s a := fun _ h q => Nat.lt_irrefl _ (Nat.lt_of_lt_of_le h q)
set_option maxRecDepth 20000 in
theorem lw_xE {b : Nat} {s : State} (hts : ∀ w ∈ lw_tbl, w.before #[Value.ref b] s = true) (hgv : (Jvm.Cond.and given_1 narrow_1).before #[Value.ref b] s = true) : ∃ t : Nat, xE t (lA s) s := by
  have hs := flat_of_before _ hgv
  obtain ⟨t, h1, h2⟩ := va_Tof (args := #[Value.ref b]) (s := s) (tm := .static "PostRounders" "TENS" "[I") (ty := .int) (N := 5) (f := tensV) (A := lA s) (by decide) (hs _ (by decide +kernel)) (va_eqt (z := Int32.ofNat 5) (hs _ (by decide +kernel))) (fun j hj => by
    have : j = 0 ∨ j = 1 ∨ j = 2 ∨ j = 3 ∨ j = 4 := by omega
    rcases this with rfl | rfl | rfl | rfl | rfl
    · exact va_eqt (z := 1) (hs _ (by decide +kernel))
    · exact va_eqt (z := 10) (hs _ (by decide +kernel))
    · exact va_eqt (z := 100) (hs _ (by decide +kernel))
    · exact va_eqt (z := 1000) (hs _ (by decide +kernel))
    · exact va_eqt (z := 10000) (hs _ (by decide +kernel))) lw_old
  exact ⟨t, va_Zof (hts (.laysStatic RX5 "TENS" "[I") (by decide +kernel)) (hts (.initialized RX5) (by decide +kernel)) h1 lw_old, h2⟩
def tmS (i : Nat) : Term := if i = 0 then .string "PostRounders$Reader" 58 else if i = 1 then .string "PostRounders$Reader" 77 else .string "PostRounders$Reader" 82
set_option maxRecDepth 20000 in
theorem lw_xG {b : Nat} {s : State} (hts : ∀ w ∈ lw_tbl, w.before #[Value.ref b] s = true) (hgv : (Jvm.Cond.and given_1 narrow_1).before #[Value.ref b] s = true) : ∃ (fr : Nat) (adK adV : Nat → Nat), xG fr adK adV (lA s) s := by
  have hs := flat_of_before _ hgv
  obtain ⟨adK, adV, k1, k2⟩ := vk_Sof (args := #[Value.ref b]) (s := s) (N := 3) (tm := tmS) (len := lenS) (byt := bytS) (A := lA s)
    (fun i hi => by
      have : i = 0 ∨ i = 1 ∨ i = 2 := by omega
      rcases this with rfl | rfl | rfl <;> decide)
    (fun i hi => by
      have : i = 0 ∨ i = 1 ∨ i = 2 := by omega
      rcases this with rfl | rfl | rfl
      · exact hs _ (by decide +kernel)
      · exact hs _ (by decide +kernel)
      · exact hs _ (by decide +kernel))
    (fun i hi => by
      have : i = 0 ∨ i = 1 ∨ i = 2 := by omega
      rcases this with rfl | rfl | rfl
      · exact hs _ (by decide +kernel)
      · exact hs _ (by decide +kernel)
      · exact hs _ (by decide +kernel))
    (fun i hi => by
      have : i = 0 ∨ i = 1 ∨ i = 2 := by omega
      rcases this with rfl | rfl | rfl
      · exact hs _ (by decide +kernel)
      · exact hs _ (by decide +kernel)
      · exact hs _ (by decide +kernel))
    (fun i hi => by
      have : i = 0 ∨ i = 1 ∨ i = 2 := by omega
      rcases this with rfl | rfl | rfl
      · exact hs _ (by decide +kernel)
      · exact hs _ (by decide +kernel)
      · exact hs _ (by decide +kernel))
    (fun i hi j hj => by
      have : i = 0 ∨ i = 1 ∨ i = 2 := by omega
      rcases this with rfl | rfl | rfl
      · have hj : j < 5 := hj
        have : j = 0 ∨ j = 1 ∨ j = 2 ∨ j = 3 ∨ j = 4 := by omega
        rcases this with rfl | rfl | rfl | rfl | rfl
        · exact hs _ (by decide +kernel)
        · exact hs _ (by decide +kernel)
        · exact hs _ (by decide +kernel)
        · exact hs _ (by decide +kernel)
        · exact hs _ (by decide +kernel)
      · have hj : j < 6 := hj
        have : j = 0 ∨ j = 1 ∨ j = 2 ∨ j = 3 ∨ j = 4 ∨ j = 5 := by omega
        rcases this with rfl | rfl | rfl | rfl | rfl | rfl
        · exact hs _ (by decide +kernel)
        · exact hs _ (by decide +kernel)
        · exact hs _ (by decide +kernel)
        · exact hs _ (by decide +kernel)
        · exact hs _ (by decide +kernel)
        · exact hs _ (by decide +kernel)
      · have hj : j < 4 := hj
        have : j = 0 ∨ j = 1 ∨ j = 2 ∨ j = 3 := by omega
        rcases this with rfl | rfl | rfl | rfl
        · exact hs _ (by decide +kernel)
        · exact hs _ (by decide +kernel)
        · exact hs _ (by decide +kernel)
        · exact hs _ (by decide +kernel))
    (fun i j hi hj hne => by
      have hi' : i = 0 ∨ i = 1 ∨ i = 2 := by omega
      have hj' : j = 0 ∨ j = 1 ∨ j = 2 := by omega
      rcases hi' with rfl | rfl | rfl
      · rcases hj' with rfl | rfl | rfl
        · exact absurd rfl hne
        · exact Or.inl (hs _ (by decide +kernel))
        · exact Or.inl (hs _ (by decide +kernel))
      · rcases hj' with rfl | rfl | rfl
        · exact Or.inr (hs _ (by decide +kernel))
        · exact absurd rfl hne
        · exact Or.inl (hs _ (by decide +kernel))
      · rcases hj' with rfl | rfl | rfl
        · exact Or.inr (hs _ (by decide +kernel))
        · exact Or.inr (hs _ (by decide +kernel))
        · exact absurd rfl hne) lw_old
  have h9 : (Cond.isRef (.static "jdk/internal/util/Preconditions" "SIOOBE_FORMATTER" "Ljava/util/function/BiFunction;")).before #[Value.ref b] s = true := hs _ (by decide +kernel)
  obtain ⟨v, f1, f2⟩ := Cond.isRef_spec h9
  obtain ⟨fr, rfl⟩ : ∃ fr : Nat, v = fV fr := by
    cases v <;> first | exact ⟨0, rfl⟩ | (rename_i a; exact ⟨a + 1, rfl⟩) | exact absurd f2 (by decide) | exact absurd f2 (by simp [Value.isRef])
  exact ⟨fr, adK, adV, va_Zof (hts (.laysStatic RJ0 "COMPACT_STRINGS" "Z") (by decide +kernel)) (hts (.initialized RJ0) (by decide +kernel)) (va_eqi (z := 1) (hs _ (by decide +kernel))) lw_old, va_Zof (hts (.laysStatic RJ3 "SIOOBE_FORMATTER" "Ljava/util/function/BiFunction;") (by decide +kernel)) (hts (.initialized RJ3) (by decide +kernel)) f1 lw_old, k1, vk_R.of (hts (.stringRef RX3 58 "field") (by decide +kernel)) (k2 0 (by decide)), vk_R.of (hts (.stringRef RX3 77 "batter") (by decide +kernel)) (k2 1 (by decide)), vk_R.of (hts (.stringRef RX3 82 "ball") (by decide +kernel)) (k2 2 (by decide))⟩
set_option maxRecDepth 20000 in
theorem lw_xK {b : Nat} {s : State} (hts : ∀ w ∈ lw_tbl, w.before #[Value.ref b] s = true) : ∃ (dC : Nat → ClassId) (dI : Nat → Nat → Nat) (cI cP cA cF cZ : ClassId), va_K (dC, dI) vwCl (lT cI cP cA cF cZ) s := by
  obtain ⟨c0, i0, k0⟩ := u_known (C := RX0) (T := TX0) (N := 3) (n := 3) hts inX0 (hts (.instantiable RX0 3) (by decide +kernel))
  obtain ⟨c1, i1, k1⟩ := u_known (C := RX1) (T := TX1) (N := 5) (n := 5) hts inX1 (hts (.instantiable RX1 5) (by decide +kernel))
  obtain ⟨c2, i2, k2⟩ := u_known (C := RX2) (T := TX2) (N := 8) (n := 8) hts inX2 (hts (.instantiable RX2 8) (by decide +kernel))
  obtain ⟨c3, i3, k3⟩ := u_known (C := RX3) (T := TX3) (N := 7) (n := 7) hts inX3 (hts (.instantiable RX3 7) (by decide +kernel))
  obtain ⟨c4, i4, k4⟩ := u_known (C := RX4) (T := TX4) (N := 3) (n := 3) hts inX4 (hts (.instantiable RX4 3) (by decide +kernel))
  obtain ⟨c5, i5, k5⟩ := u_known (C := RX5) (T := TX5) (N := 14) (n := 14) hts inX5 (hts (.instantiable RX5 14) (by decide +kernel))
  obtain ⟨c6, i6, k6⟩ := u_known (C := RX6) (T := TX6) (N := 14) (n := 14) hts inX6 (hts (.instantiable RX6 14) (by decide +kernel))
  obtain ⟨dC, dI, hKc⟩ : ∃ (dC : Nat → ClassId) (dI : Nat → Nat → Nat), ∀ (k : Nat) (q : vw_C), vwCl[k]? = some q → u_Kn s q.1 q.2.1 q.2.2 (dC k) (dI k) := by
    refine ⟨fun k => if k = 0 then c0 else if k = 1 then c1 else if k = 2 then c2 else if k = 3 then c3 else if k = 4 then c4 else if k = 5 then c5 else c6, fun k => if k = 0 then i0 else if k = 1 then i1 else if k = 2 then i2 else if k = 3 then i3 else if k = 4 then i4 else if k = 5 then i5 else i6, ?_⟩
    intro k q hq
    match k, hq with
    | 0, hq => cases hq; exact k0
    | 1, hq => cases hq; exact k1
    | 2, hq => cases hq; exact k2
    | 3, hq => cases hq; exact k3
    | 4, hq => cases hq; exact k4
    | 5, hq => cases hq; exact k5
    | 6, hq => cases hq; exact k6
    | k + 7, hq => simp [vwCl] at hq
  obtain ⟨cI, kI, mI, I1, I2, I3⟩ := Cond.arrayClass_spec (hts (.arrayClass .int) (by decide +kernel))
  obtain ⟨cZ, kZ, mZ, Z1, Z2, Z3⟩ := Cond.arrayClass_spec (hts (.arrayClass .boolean) (by decide +kernel))
  obtain ⟨mP, cP, kP, P1, -, P2, P3, P4⟩ := Cond.arrayOver_spec (hts (.arrayOver (.object RX2)) (by decide +kernel))
  obtain ⟨mF, cF, kF, F1, -, F2, F3, F4⟩ := Cond.arrayOver_spec (hts (.arrayOver (.object RX1)) (by decide +kernel))
  obtain ⟨mA, cA, kA, A1, A2, A3, A4⟩ := Cond.arrayOver_specA (hts (.arrayOver (.array .int)) (by decide +kernel))
  refine ⟨dC, dI, cI, cP, cA, cF, cZ, hKc, fun k q hq => ?_⟩
  match k, hq with
  | 0, hq => cases hq; exact ⟨fun n z => ⟨fun q hq => (by cases hq), kI, I2, mI, I3⟩, I1⟩
  | 1, hq => cases hq; exact ⟨fun n z => ⟨fun q hq => (by cases hq), kP, P2, mP, P3⟩, ⟨kP, mP, P2, P3, P1, P4⟩⟩
  | 2, hq => cases hq; exact ⟨fun n z => ⟨fun q hq => (by cases hq), kA, A2, mA, A3⟩, A4⟩
  | 3, hq => cases hq; exact ⟨fun n z => ⟨fun q hq => (by cases hq), kF, F2, mF, F3⟩, ⟨kF, mF, F2, F3, F1, F4⟩⟩
  | 4, hq => cases hq; exact ⟨fun n z => ⟨fun q hq => (by cases hq), kZ, Z2, mZ, Z3⟩, Z1⟩
  | k + 5, hq => simp [lT] at hq
