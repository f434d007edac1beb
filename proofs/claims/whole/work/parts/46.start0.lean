/-! what holds at the law's entry -/
theorem start_K {b : Nat} {s : State} (hts : ∀ w ∈ lw_tbl, w.before #[Value.ref b] s = true) : ∃ (dC : Nat → ClassId) (dI : Nat → Nat → Nat) (cI cW cJ : ClassId), KK dC dI cI cW s ∧ va_K (dC, dI) vwCl [(cJ, .long)] s := by
  obtain ⟨c0, i0, k0⟩ := u_known (C := RX0) (T := TX0) (N := 7) (n := 7) hts inX0 (hts (.instantiable RX0 7) (by decide +kernel))
  obtain ⟨c1, i1, k1⟩ := u_known (C := RX1) (T := TX1) (N := 2) (n := 2) hts inX1 (hts (.instantiable RX1 2) (by decide +kernel))
  obtain ⟨c2, i2, k2⟩ := u_known (C := RX2) (T := TX2) (N := 7) (n := 7) hts inX2 (hts (.instantiable RX2 7) (by decide +kernel))
  obtain ⟨c3, i3, k3⟩ := u_known (C := RX3) (T := TX3) (N := 3) (n := 3) hts inX3 (hts (.instantiable RX3 3) (by decide +kernel))
  obtain ⟨c4, i4, k4⟩ := u_known (C := RX4) (T := TX4) (N := 7) (n := 7) hts inX4 (hts (.instantiable RX4 7) (by decide +kernel))
  obtain ⟨cI, kI, pI, a1, a2, a3⟩ := Cond.arrayClass_spec (type := .int) (hts (.arrayClass .int) (by decide +kernel))
  obtain ⟨cJ, kJ, pJ, b1, b2, b3⟩ := Cond.arrayClass_spec (type := .long) (hts (.arrayClass .long) (by decide +kernel))
  obtain ⟨pW, cW, kW, w1, w2, w3, w4, w5⟩ := Cond.arrayOver_spec (n := "WidowPennies$Widow") (hts (.arrayOver (.object "WidowPennies$Widow")) (by decide +kernel))
  have hKc : ∀ (k : Nat) (q : vw_C), vwCl[k]? = some q → u_Kn s q.1 q.2.1 q.2.2 ((fun k => if k = 0 then c0 else if k = 1 then c1 else if k = 2 then c2 else if k = 3 then c3 else c4) k) ((fun k => if k = 0 then i0 else if k = 1 then i1 else if k = 2 then i2 else if k = 3 then i3 else i4) k) := by
    intro k q hq
    match k, hq with
    | 0, hq => cases hq; exact k0
    | 1, hq => cases hq; exact k1
    | 2, hq => cases hq; exact k2
    | 3, hq => cases hq; exact k3
    | 4, hq => cases hq; exact k4
    | k + 5, hq => simp at hq
  have hI : ArrOfT s cI .int := fun N z => ⟨(fun k h => by cases h), kI, a2, pI, a3⟩
  have hJ : ArrOfT s cJ .long := fun N z => ⟨(fun k h => by cases h), kJ, b2, pJ, b3⟩
  have hW : ArrOfT s cW (.object "WidowPennies$Widow") := fun N z => ⟨(fun k h => by cases h), kW, w3, pW, w4⟩
  refine ⟨_, _, cI, cW, cJ, ⟨⟨hKc, fun k q hk => ?_⟩, va_Nw.of rfl (hts (.methodLinkNest RX1 18 yX3_isAge RX3) (by decide +kernel)), va_Nw.of rfl (hts (.methodLinkNest RX0 21 yX2_init RX3) (by decide +kernel))⟩, hKc, fun k q hk => ?_⟩
  · match k, hk with
    | 0, hk => cases hk; exact ⟨hI, a1⟩
    | 1, hk => cases hk; exact ⟨hW, kW, pW, w3, w4, w1, w5⟩
    | k + 2, hk => simp at hk
  · match k, hk with
    | 0, hk => cases hk; exact ⟨hJ, b1⟩
    | k + 1, hk => simp at hk
theorem start_S {b : Nat} {s : State} {k : Nat} {tx : String} (h1 : (Cond.stringRef RX3 k tx).before #[Value.ref b] s = true) (h2 : (Cond.exactly (.string RX3 k) "java/lang/String").before #[Value.ref b] s = true) : ∃ a, vk_R RX3 k tx a s := by
  obtain ⟨a, c, cA, kA, q1, -⟩ := Cond.exactly_spec (args := #[Value.ref b]) (first := s) (o := none) (s := s) (idx := []) (t := .string RX3 k) (cls := "java/lang/String") h2
  exact ⟨a, vk_R.of h1 q1⟩
theorem start_X {b : Nat} {s : State} (hts : ∀ w ∈ lw_tbl, w.before #[Value.ref b] s = true) (hgv : (Jvm.Cond.and given_1 narrow_1).before #[Value.ref b] s = true) : KX s s.heap := by
  have hg := flat_of_before _ hgv
  refine ⟨⟨⟨va_Nw.of rfl (hts (.castable xIO xIO) (by decide +kernel)), va_Nw.of rfl (hts (.castable xIA xIA) (by decide +kernel)), va_Nw.of rfl (hts (.castable xIS xIS) (by decide +kernel))⟩, va_Nw.of rfl (hts xD1 (by decide +kernel)), va_Nw.of rfl (hts xD2 (by decide +kernel)), va_Nw.of rfl (hts xD3 (by decide +kernel))⟩,
    ⟨va_Nc.of (hg (.not (.castable xIA xIO)) (by decide +kernel)), va_Nc.of (hg (.not (.castable xIS xIA)) (by decide +kernel)), va_Nc.of (hg (.not (.castable xIS xIO)) (by decide +kernel)), va_Nc.of (hg (.not (.castable xIO xIA)) (by decide +kernel))⟩, ?_,
    vx_Zqof (hts (.laysStatic Bundle.tN "UNASSIGNED_STACK" Bundle.steD) (by decide +kernel)) (hts (.initialized Bundle.tN) (by decide +kernel)) (hg (.isRef (.static Bundle.tN "UNASSIGNED_STACK" Bundle.steD)) (by decide +kernel)) (fun a h => Nat.not_le.mpr h),
    vx_Zqof (hts (.laysStatic Bundle.tN "SUPPRESSED_SENTINEL" Bundle.listD) (by decide +kernel)) (hts (.initialized Bundle.tN) (by decide +kernel)) (hg (.isRef (.static Bundle.tN "SUPPRESSED_SENTINEL" Bundle.listD)) (by decide +kernel)) (fun a h => Nat.not_le.mpr h)⟩
  have hs1 : ∀ p ∈ xTX, Cond.stringRef RX3 p.1 p.2 ∈ lw_tbl := by decide +kernel
  have hs2 : ∀ p ∈ xTX, Cond.exactly (.string RX3 p.1) "java/lang/String" ∈ flatC (Jvm.Cond.and given_1 narrow_1) := by decide +kernel
  exact fun p hp => start_S (hts _ (hs1 p hp)) (hg _ (hs2 p hp))
theorem start_H {b : Nat} {s : State} (hts : ∀ w ∈ lw_tbl, w.before #[Value.ref b] s = true) (hgv : (Jvm.Cond.and given_1 narrow_1).before #[Value.ref b] s = true) : ∃ t, HG t (NEW s.heap.size) s s.heap := by
  have hg := flat_of_before _ hgv
  have hA : ∀ a : Nat, a < s.heap.size → ¬ NEW s.heap.size a := fun a h => Nat.not_le.mpr h
  have hel : ∀ j : Nat, j < 3 → (Term.elem (.static "WidowPenniesModel" "HIGH" "[I") (.int (Int32.ofNat j))).eval #[Value.ref b] s none [] s = some (.int (highF j)) := by
    intro j hj
    rcases (show j = 0 ∨ j = 1 ∨ j = 2 by omega) with rfl | rfl | rfl
    · exact va_eqt (hg (.eq (.elem (.static "WidowPenniesModel" "HIGH" "[I") (.int 0)) (.int 200)) (by decide +kernel))
    · exact va_eqt (hg (.eq (.elem (.static "WidowPenniesModel" "HIGH" "[I") (.int 1)) (.int 50)) (by decide +kernel))
    · exact va_eqt (hg (.eq (.elem (.static "WidowPenniesModel" "HIGH" "[I") (.int 2)) (.int 50)) (by decide +kernel))
  obtain ⟨t, ht, hT⟩ := va_Tof (A := NEW s.heap.size) (N := 3) (f := fun j => .int (highF j)) (by decide) (hg (.arrayOf (.static "WidowPenniesModel" "HIGH" "[I") .int) (by decide +kernel)) (va_eqt (hg (.eq (.length (.static "WidowPenniesModel" "HIGH" "[I")) (.int 3)) (by decide +kernel))) hel hA
  exact ⟨t, va_Zof (hts (.laysStatic "WidowPenniesModel" "HIGH" "[I") (by decide +kernel)) (hts (.initialized "WidowPenniesModel") (by decide +kernel)) ht hA, hT⟩
