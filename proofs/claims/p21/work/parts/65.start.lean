set_option maxHeartbeats 4000000 in
set_option maxRecDepth 100000 in
theorem law_last {p : Program} {l : Launch} {e : Env} {s : State} {m : MethodId} {below : List Frame} {meth : Method} {c : Code} {b L : Nat} {xs : Nat → Int32} {dC : Nat → ClassId} {dI : Nat → Nat → Nat} {cI cW cV : ClassId} {X Bk Br Y : Nat → Nat} (C9 : LC p s m meth c b L xs dC dI cI cW cV) : LOOP p l e s m below meth c b dC dI cI cW cV X Bk Br Y 30 := by
  intro u hG H locs hP hD hS ls hl
  obtain ⟨d, r, n, ch, pd, pr, yr, Wd, Ya, V⟩ := u
  obtain ⟨hx, hb, hr, hml, hown, hts, hlocks, hKS, hX, hbl, hL⟩ := C9
  refine lv_iload_n hx hb dL_law_22 rfl (lv_at hl 0 rfl) ?_
  refine lv_bipush (v := 30) hx hb dL_law_23 (by decide) ?_
  refine lv_icmp_ge (tgt := 869) hx hb dL_law_25 (by decide) (fun c_1 => ?_) (fun c_1 => ?_)
  · exact law_fin (t := 30) ⟨hx, hb, hr, hml, hown, hts, hlocks, hKS, hX, hbl, hL⟩ rfl hG hP hD hS (lv_sub hl [1, 2, 3] rfl)
  · exact absurd (by decide) c_1
theorem law_step {p : Program} {l : Launch} {e : Env} {s : State} {m : MethodId} {below : List Frame} {meth : Method} {c : Code} {b L : Nat} {xs : Nat → Int32} {dC : Nat → ClassId} {dI : Nat → Nat → Nat} {cI cW cV : ClassId} {X Bk Br Y : Nat → Nat} (C9 : LC p s m meth c b L xs dC dI cI cW cV) {t : Nat} (ht : t < 30) (K : LOOP p l e s m below meth c b dC dI cI cW cV X Bk Br Y (t + 1)) : LOOP p l e s m below meth c b dC dI cI cW cV X Bk Br Y t := by
  intro u hG H locs hP hD hS ls hl
  obtain ⟨d, r, n, ch, pd, pr, yr, Wd, Ya, V⟩ := u
  exact law_t0 C9 rfl ht hG K hP hD hS (lv_sub hl [0, 1, 2, 3] rfl)
theorem law_loop {p : Program} {l : Launch} {e : Env} {s : State} {m : MethodId} {below : List Frame} {meth : Method} {c : Code} {b L : Nat} {xs : Nat → Int32} {dC : Nat → ClassId} {dI : Nat → Nat → Nat} {cI cW cV : ClassId} {X Bk Br Y : Nat → Nat} (C9 : LC p s m meth c b L xs dC dI cI cW cV) : ∀ (m9 t : Nat), t + m9 = 30 → LOOP p l e s m below meth c b dC dI cI cW cV X Bk Br Y t := by
  intro m9
  induction m9 with
  | zero =>
    intro t ht
    have e9 : t = 30 := by omega
    subst e9
    exact law_last C9
  | succ m9 ih =>
    intro t ht
    exact law_step C9 (by omega) (ih (t + 1) (by omega))
theorem start_K {b : Nat} {s : State} (hts : ∀ w ∈ lw_tbl, w.before #[Value.ref b] s = true) : ∃ (dC : Nat → ClassId) (dI : Nat → Nat → Nat) (cI cW cV : ClassId), KS dC dI cI cW cV s := by
  obtain ⟨c0, i0, k0⟩ := u_known (C := RX0) (T := TX0) (N := 7) (n := 7) hts inX0 (hts (.instantiable RX0 7) (by decide +kernel))
  obtain ⟨c1, i1, k1⟩ := u_known (C := RX1) (T := TX1) (N := 2) (n := 2) hts inX1 (hts (.instantiable RX1 2) (by decide +kernel))
  obtain ⟨c2, i2, k2⟩ := u_known (C := RX2) (T := TX2) (N := 7) (n := 7) hts inX2 (hts (.instantiable RX2 7) (by decide +kernel))
  obtain ⟨c3, i3, k3⟩ := u_known (C := RX3) (T := TX3) (N := 3) (n := 3) hts inX3 (hts (.instantiable RX3 3) (by decide +kernel))
  obtain ⟨c4, i4, k4⟩ := u_known (C := RX4) (T := TX4) (N := 6) (n := 6) hts inX4 (hts (.instantiable RX4 6) (by decide +kernel))
  obtain ⟨c5, i5, k5⟩ := u_known (C := RX5) (T := TX5) (N := 7) (n := 7) hts inX5 (hts (.instantiable RX5 7) (by decide +kernel))
  obtain ⟨cI, kI, pI, a1, a2, a3⟩ := Cond.arrayClass_spec (type := .int) (hts (.arrayClass .int) (by decide +kernel))
  obtain ⟨pW, cW, kW, w1, w2, w3, w4, w5⟩ := Cond.arrayOver_spec (n := "WidowPennies$Widow") (hts (.arrayOver (.object "WidowPennies$Widow")) (by decide +kernel))
  obtain ⟨pV, cV, kV, v1, v2, v3, v4, v5⟩ := Cond.arrayOver_spec (n := "WidowPenniesLaw$Widow") (hts (.arrayOver (.object "WidowPenniesLaw$Widow")) (by decide +kernel))
  have hKc : ∀ (k : Nat) (q : vw_C), vwCl[k]? = some q → u_Kn s q.1 q.2.1 q.2.2 ((fun k => if k = 0 then c0 else if k = 1 then c1 else if k = 2 then c2 else if k = 3 then c3 else if k = 4 then c4 else c5) k) ((fun k => if k = 0 then i0 else if k = 1 then i1 else if k = 2 then i2 else if k = 3 then i3 else if k = 4 then i4 else i5) k) := by
    intro k q hq
    match k, hq with
    | 0, hq => cases hq; exact k0
    | 1, hq => cases hq; exact k1
    | 2, hq => cases hq; exact k2
    | 3, hq => cases hq; exact k3
    | 4, hq => cases hq; exact k4
    | 5, hq => cases hq; exact k5
    | k + 6, hq => simp at hq
  have hI : ArrOfT s cI .int := fun N z => ⟨(fun k h => by cases h), kI, a2, pI, a3⟩
  have hW : ArrOfT s cW (.object "WidowPennies$Widow") := fun N z => ⟨(fun k h => by cases h), kW, w3, pW, w4⟩
  have hV : ArrOfT s cV (.object "WidowPenniesLaw$Widow") := fun N z => ⟨(fun k h => by cases h), kV, v3, pV, v4⟩
  refine ⟨_, _, cI, cW, cV, ⟨⟨hKc, fun k q hk => ?_⟩, va_Nw.of rfl (hts (.methodLinkNest RX1 18 yX3_isAge RX3) (by decide +kernel)), va_Nw.of rfl (hts (.methodLinkNest RX0 21 yX2_init RX3) (by decide +kernel))⟩, ⟨hKc, fun k q hk => ?_⟩, va_Nw.of rfl (hts (.methodLinkNest RL 86 yX5_init RL) (by decide +kernel)), va_AO.of (hts (.arrayOver (.object "WidowPenniesLaw$Widow")) (by decide +kernel))⟩
  · match k, hk with
    | 0, hk => cases hk; exact ⟨hI, a1⟩
    | 1, hk => cases hk; exact ⟨hW, kW, pW, w3, w4, w1, w5⟩
    | k + 2, hk => simp at hk
  · match k, hk with
    | 0, hk => cases hk; exact ⟨hV, kV, pV, v3, v4, v1, v5⟩
    | k + 1, hk => simp at hk
set_option maxHeartbeats 4000000 in
set_option maxRecDepth 100000 in
/-- from the entry, for every script of at most 260 ints, the law comes to its end with true -/
theorem whole_start {p : Program} {e : Env} {s : State} {m : MethodId} {below : List Frame} {meth : Method} {c : Code} (l : Launch) (hflags : l.flags = flags0) {b L : Nat} {xs : Nat → Int32} (hL : L ≤ 260) (C0 : lw_At p s m meth c b L xs) : W p l e room_1 s m #[Value.ref b] below meth c s.heap [] 0 0 (lw_Z below #[Value.ref b] s) (entryFrame m ([Value.ref b] : List Value).toArray 20) := by
  obtain ⟨hx, hb, hr, hml, hown, htb, hX, hbl, hlocks, hgv⟩ := C0
  have hb : c.code = cL_law := hb
  have hown : s.vm.findClass RL = some m.cls := hown
  have hts : ∀ w ∈ wsL_law, w.before #[Value.ref b] s = true := fun w h => htb w (wsL_law_in w h)
  obtain ⟨dC, dI, cI, cW, cV, hKS⟩ := start_K htb
  have hKK := hKS.1
  have hAO : va_AO "WidowPennies$Widow" s := va_AO.of (htb (.arrayOver (.object "WidowPennies$Widow")) (by decide +kernel))
  have C9 : LC p s m meth c b L xs dC dI cI cW cV := ⟨hx, hb, hr, hml, hown, hts, hlocks, hKS, hX, hbl, hL⟩
  have hA : ∀ q, s.heap.size ≤ q → NEW s.heap.size q := fun q h => h
  have hbA : ¬ NEW s.heap.size b := Nat.not_le.mpr hbl
  have hS : va_S (NEW s.heap.size) s.heap s.heap [] := va_S.rf
  have hP : va_P (dC, dI) vwCl [] s.heap := fun k q h => by simp at h
  have hD : va_D (NEW s.heap.size) [] := ⟨fun i j p q h => by simp at h, fun k q h => by simp at h⟩
  have hl := lv_entry ([.ref b]) (n := 20) (Nat.le_of_ble_eq_true rfl)
  rw [lg_entry_eq]
  generalize (lg_sl ([.ref b]) ++ List.replicate (20 - (lg_sl ([.ref b])).length) Slot.unset).toArray = ls at hl ⊢
  have hl : lv_has ls 20 [(0, .ref b)] := hl
  refine va_new (ci := 3) (fs := [.null, .null, .null]) (C := RX3) (T := TX3) (N := 3) hx hb hts inlX3 tyX3 tyX3_ok hown (hts (.classLink RL 26 RX3) (by decide +kernel)) (hts (.instantiable RX3 3) (by decide +kernel)) (hts (.initialized RX3) (by decide +kernel)) hKK.1 hP hD hS hA rfl (fun j hj => by rcases (show j = 0 ∨ j = 1 ∨ j = 2 by omega) with rfl | rfl | rfl <;> rfl) (Nat.le_of_ble_eq_true rfl) (Nat.le_of_ble_eq_true rfl) dL_law_0 (fun q0 H hP hD hS => ?_)
  have hP : va_P (dC, dI) vwCl ([(q0, .inr (3, [.null, .null, .null]))] ++ []) H := hP
  have hD : va_D (NEW s.heap.size) ([(q0, .inr (3, [.null, .null, .null]))] ++ []) := hD
  refine lv_dup hx hb dL_law_3 rfl ?_
  refine wr_u (runI1A (As := []) (rest := [.ref q0]) ⟨hx, hb, hml, hown, hts⟩ (met_X3_init l dC dI cI cW [] q0 _) (cwI 0 hts gL_law_X3_init rfl rfl rfl (hts (.initialized RX3) (by decide +kernel)) (hts (.methodLink RL 114 yX3_init) (by decide +kernel)) (hts (.instanceMethod yX3_init) (by decide +kernel)) rfl (by decide +kernel) ⟨Nat.le_of_ble_eq_true rfl, Nat.le_of_ble_eq_true rfl⟩) hKK hAO hP hD rfl hl.1 (Nat.le_of_ble_eq_true rfl) rfl dL_law_4 ⟨Nat.le_of_ble_eq_true rfl, Nat.le_of_ble_eq_true rfl⟩) hD hS hA (fun u H locs hP hD hS => ?_)
  obtain ⟨u1, Bk, Br⟩ := u
  try dsimp only at hP hD
  obtain ⟨X, hX9⟩ : ∃ X : Nat → Nat, X = fun k => if k = 0 then q0 else u1 k := ⟨_, rfl⟩
  rw [← hX9] at hP hD
  have hq0 : q0 = X 0 := by rw [hX9]; rfl
  clear hX9
  rw [hq0]
  refine lv_astore_n (lv' := [(1, .ref (X 0)), (0, .ref b)]) hx hb dL_law_7 rfl hl (by decide) rfl (fun ls hl => ?_)
  refine lv_aload_n hx hb dL_law_8 rfl (lv_at hl 0 rfl) ?_
  refine lv_aload_n hx hb dL_law_9 rfl (lv_at hl 1 rfl) ?_
  refine wr_rU (runSX1 (As := [.ref (X 0), .ref b]) (rest := []) ⟨hx, hb, hml, hown, hts⟩ (met_L_build l dC dI cI cW cV X Bk Br [] b L xs hL _) (va_cwS 2 hts gL_law_L_build rfl rfl rfl (by decide +kernel) ⟨Nat.le_of_ble_eq_true rfl, Nat.le_of_ble_eq_true rfl⟩) hKS hP hD hbA (hX.kept (hS.2.1 b hbl hbA)) (Nat.lt_of_lt_of_le hbl hS.1) rfl hl.1 (Nat.le_of_ble_eq_true rfl) rfl dL_law_10 ⟨Nat.le_of_ble_eq_true rfl, Nat.le_of_ble_eq_true rfl⟩) hD hS hA (fun u H locs hG hP hD hS => ?_)
  obtain ⟨u, Y⟩ := u
  try dsimp only at hP hD hG
  refine lv_astore_n (lv' := [(2, .ref (Y 0)), (1, .ref (X 0)), (0, .ref b)]) hx hb dL_law_13 rfl hl (by decide) rfl (fun ls hl => ?_)
  refine lv_aload_n hx hb dL_law_14 rfl (lv_at hl 0 rfl) ?_
  refine lv_ifnonnull (tgt := 20) hx hb dL_law_15 (by decide) ?_
  refine lv_iconst (v := 0) hx hb dL_law_20 (by decide) ?_
  refine lv_istore_n (lv' := [(3, .int 0), (2, .ref (Y 0)), (1, .ref (X 0)), (0, .ref b)]) hx hb dL_law_21 rfl hl (by decide) rfl (fun ls hl => ?_)
  refine W.widen (k := 130 + 8 * 0) (n := 1124 + 74 * 0) (Nat.le_of_ble_eq_true rfl) (Nat.le_of_ble_eq_true rfl) ?_
  exact law_loop C9 30 0 (by omega) u hG H locs hP hD hS ls (lv_sub hl [0, 3, 2, 1] rfl)
