set_option maxHeartbeats 4000000 in
set_option maxRecDepth 100000 in
theorem met_X4_fail (l : Launch) (dC : Nat → ClassId) (dI : Nat → Nat → Nat) (cI cW : ClassId) (M : Nat → Nat) (th : Int32) (n : Nat) (d r : Nat → Int32) (Wd : Nat → Nat → Int32) (ch pd yr : Int32) (T : Nat → Int32) (R : va_W) (x : Int32) (sz : Nat) : Met l yX4_fail wsX4_fail ({ frames := 0, cells := 0, slots := 0, locals := 0 }) (Pre1 dC dI cI cW [.ref (M 0), .int x] (mw cI M th n d r Wd ch pd yr T ++ R) sz) (Qi1 dC dI (fun z => z = 0) (mw cI M th n d r Wd ch pd yr T ++ R) (mw cI M x n d r Wd ch pd yr T ++ R) sz) 0 0 (va_A (mw cI M th n d r Wd ch pd yr T ++ R) sz) := by
  refine Met.ofW (cc := cX4_fail) (maxL := 2) (ret := (some .int)) (by decide) rfl ?_
  intro p e s m args below meth c s₁ B hml hv
  obtain ⟨rfl, hsz, hP, hD0, hKK⟩ := hv
  subst hsz
  have hx := B.exec
  have hb := B.bytes
  have hr := B.returns
  have hts := atoms_spec (ws := wsX4_fail) B.pre
  have hown : s.vm.findClass RX4 = some m.cls := findClass_of_methodNamed B.named
  have hlocks := B.notSynchronized
  have hD := hD0.self (sz := s.heap.size)
  generalize hAe : va_A (mw cI M th n d r Wd ch pd yr T ++ R) s.heap.size = A at hD ⊢
  have hA : ∀ q : Nat, s.heap.size ≤ q → A q := fun q h => by rw [← hAe]; exact Or.inr h
  have hS : va_S A s.heap s.heap [] := va_S.rf
  have hl := lv_entry ([.ref (M 0), .int x]) (n := 2) (Nat.le_of_ble_eq_true rfl)
  rw [lg_entry_eq]
  generalize (lg_sl ([.ref (M 0), .int x]) ++ List.replicate (2 - (lg_sl ([.ref (M 0), .int x])).length) Slot.unset).toArray = ls at hl ⊢
  have hl : lv_has ls 2 [(0, .ref (M 0)), (1, .int x)] := hl
  refine lv_aload_n hx hb dX4_fail_0 rfl (lv_at hl 0 rfl) ?_
  refine lv_iload_n hx hb dX4_fail_1 rfl (lv_at hl 1 rfl) ?_
  refine va_put (D := (dC, dI)) (ci := 4) (v := .int x) (ty := .int) (C := RX4) (T := TX4) (N := 7) hx hb hts (by decide +kernel) tyX4 tyX4_ok nmX4 hown hKK.1 hP hD hS 0 rfl rfl 0 (by decide) (hts (.fieldLink RX4 28 "WidowPenniesModel" "thrown" "I") (by decide +kernel)) (fun _ h9 => h9) rfl (by decide +kernel) rfl rfl (Nat.le_of_ble_eq_true rfl) dX4_fail_2 (fun H locs hP hD hS => ?_)
  have hP : va_P (dC, dI) vwCl (mw cI M x n d r Wd ch pd yr T ++ R) H := hP
  have hD : va_D A (mw cI M x n d r Wd ch pd yr T ++ R) := hD
  refine lv_iconst (v := 0) hx hb dX4_fail_5 (by decide) ?_
  have hP9 : va_P (dC, dI) vwCl (mw cI M x n d r Wd ch pd yr T ++ R) _ := hP
  have hD9 : va_D A (mw cI M x n d r Wd ch pd yr T ++ R) := hD
  have hz : (0 : Int32) = 0 := rfl
  exact W.iret (v := 0) hx hb hr (fun t ht hW => ⟨⟨_, (), rfl, hz, by rw [ht]; exact hP9, by rw [hAe]; exact hD9⟩, by rw [hAe]; exact hS.F ht⟩) hS.2.2 dX4_fail_6
set_option maxHeartbeats 4000000 in
set_option maxRecDepth 100000 in
theorem met_X4_let (l : Launch) (dC : Nat → ClassId) (dI : Nat → Nat → Nat) (cI cW : ClassId) (M : Nat → Nat) (th : Int32) (n : Nat) (d r : Nat → Int32) (Wd : Nat → Nat → Int32) (ch pd yr : Int32) (T : Nat → Int32) (R : va_W) (k : Nat) (hk : k < 10) (f : Nat) (hf : f < 7) (x : Int32) (sz : Nat) : Met l yX4_let wsX4_let ({ frames := 0, cells := 0, slots := 0, locals := 0 }) (Pre1 dC dI cI cW [.ref (M 0), .int (nI k), .int (nI f), .int x] (mw cI M th n d r Wd ch pd yr T ++ R) sz) (Qv1 dC dI (mw cI M th n d r Wd ch pd yr T ++ R) (mw cI M th n d r (upW Wd k (upd (Wd k) f x)) ch pd yr T ++ R) sz) 0 0 (va_A (mw cI M th n d r Wd ch pd yr T ++ R) sz) := by
  refine Met.ofW (cc := cX4_let) (maxL := 4) (ret := none) (by decide) rfl ?_
  intro p e s m args below meth c s₁ B hml hv
  obtain ⟨rfl, hsz, hP, hD0, hKK⟩ := hv
  subst hsz
  have hx := B.exec
  have hb := B.bytes
  have hr := B.returns
  have hts := atoms_spec (ws := wsX4_let) B.pre
  have hown : s.vm.findClass RX4 = some m.cls := findClass_of_methodNamed B.named
  have hlocks := B.notSynchronized
  have hD := hD0.self (sz := s.heap.size)
  generalize hAe : va_A (mw cI M th n d r Wd ch pd yr T ++ R) s.heap.size = A at hD ⊢
  have hA : ∀ q : Nat, s.heap.size ≤ q → A q := fun q h => by rw [← hAe]; exact Or.inr h
  have hS : va_S A s.heap s.heap [] := va_S.rf
  have hl := lv_entry ([.ref (M 0), .int (nI k), .int (nI f), .int x]) (n := 4) (Nat.le_of_ble_eq_true rfl)
  rw [lg_entry_eq]
  generalize (lg_sl ([.ref (M 0), .int (nI k), .int (nI f), .int x]) ++ List.replicate (4 - (lg_sl ([.ref (M 0), .int (nI k), .int (nI f), .int x])).length) Slot.unset).toArray = ls at hl ⊢
  have hl : lv_has ls 4 [(0, .ref (M 0)), (1, .int (nI k)), (2, .int (nI f)), (3, .int x)] := hl
  refine lv_aload_n hx hb dX4_let_0 rfl (lv_at hl 0 rfl) ?_
  refine va_get (D := (dC, dI)) (ci := 4) (v := .ref (M 3)) (C := RX4) (T := TX4) (N := 7) hx hb hts (by decide +kernel) hown hKK.1 hP 0 rfl rfl 4 (by decide) (hts (.fieldLink RX4 16 "WidowPenniesModel" "rows" "[I") (by decide +kernel)) (fun _ h9 => h9) rfl dX4_let_1 ?_
  refine lv_bipush (v := 7) hx hb dX4_let_4 (by decide) ?_
  refine lv_iload_n hx hb dX4_let_6 rfl (lv_at hl 1 rfl) ?_
  refine lv_imul hx hb dX4_let_7 ?_
  rw [show (7 * (nI k) : Int32) = nI (7 * k) from pk_mul 7 k]
  refine lv_iload_n hx hb dX4_let_8 rfl (lv_at hl 2 rfl) ?_
  refine lv_iadd hx hb dX4_let_9 ?_
  rw [show ((nI (7 * k)) + (nI f) : Int32) = nI (7 * k + f) from nI_add _ _]
  refine lv_iload_n hx hb dX4_let_10 rfl (lv_at hl 3 rfl) ?_
  refine va_iast hx hb hKK.1 hP hD hS 3 0 rfl rfl (vp_in_nI (by omega) (by omega)) dX4_let_11 (fun H locs hP hD hS => ?_)
  rw [clamp_nI (show 7 * k + f < 2147483648 by omega), rowsF_upd _ hf] at hP hD
  have hP : va_P (dC, dI) vwCl (mw cI M th n d r (upW Wd k (upd (Wd k) f x)) ch pd yr T ++ R) H := hP
  have hD : va_D A (mw cI M th n d r (upW Wd k (upd (Wd k) f x)) ch pd yr T ++ R) := hD
  have hP9 : va_P (dC, dI) vwCl (mw cI M th n d r (upW Wd k (upd (Wd k) f x)) ch pd yr T ++ R) _ := hP
  have hD9 : va_D A (mw cI M th n d r (upW Wd k (upd (Wd k) f x)) ch pd yr T ++ R) := hD
  exact W.vret hx hb hr (fun t ht hW => ⟨⟨(), rfl, trivial, by rw [ht]; exact hP9, by rw [hAe]; exact hD9⟩, by rw [hAe]; exact hS.F ht⟩) hS.2.2 dX4_let_12
set_option maxHeartbeats 4000000 in
set_option maxRecDepth 100000 in
theorem met_X4_comeIn (l : Launch) (dC : Nat → ClassId) (dI : Nat → Nat → Nat) (cI cW : ClassId) (M : Nat → Nat) (th : Int32) (n : Nat) (d r : Nat → Int32) (Wd : Nat → Nat → Int32) (ch pd yr : Int32) (T : Nat → Int32) (R : va_W) (x : Int64) (sz : Nat) : Met l yX4_comeIn wsX4_comeIn ({ frames := 1, cells := 0, slots := 0, locals := 20 }) (Pre1 dC dI cI cW [.ref (M 0), .long x] (mw cI M th n d r Wd ch pd yr T ++ R) sz) (Qv1 dC dI (mw cI M th n d r Wd ch pd yr T ++ R) (mw cI M th n d r Wd (comeS ch x) pd yr T ++ R) sz) 0 0 (va_A (mw cI M th n d r Wd ch pd yr T ++ R) sz) := by
  refine Met.ofW (cc := cX4_comeIn) (maxL := 3) (ret := none) (by decide) rfl ?_
  intro p e s m args below meth c s₁ B hml hv
  obtain ⟨rfl, hsz, hP, hD0, hKK⟩ := hv
  subst hsz
  have hx := B.exec
  have hb := B.bytes
  have hr := B.returns
  have hts := atoms_spec (ws := wsX4_comeIn) B.pre
  have hown : s.vm.findClass RX4 = some m.cls := findClass_of_methodNamed B.named
  have hlocks := B.notSynchronized
  have hD := hD0.self (sz := s.heap.size)
  generalize hAe : va_A (mw cI M th n d r Wd ch pd yr T ++ R) s.heap.size = A at hD ⊢
  have hA : ∀ q : Nat, s.heap.size ≤ q → A q := fun q h => by rw [← hAe]; exact Or.inr h
  have hS : va_S A s.heap s.heap [] := va_S.rf
  have hl := lv_entry ([.ref (M 0), .long x]) (n := 3) (Nat.le_of_ble_eq_true rfl)
  rw [lg_entry_eq]
  generalize (lg_sl ([.ref (M 0), .long x]) ++ List.replicate (3 - (lg_sl ([.ref (M 0), .long x])).length) Slot.unset).toArray = ls at hl ⊢
  have hl : lv_has ls 3 [(0, .ref (M 0)), (1, .long x)] := hl
  refine lv_aload_n hx hb dX4_comeIn_0 rfl (lv_at hl 0 rfl) ?_
  refine va_get (D := (dC, dI)) (ci := 4) (v := .ref (M 4)) (C := RX4) (T := TX4) (N := 7) hx hb hts (by decide +kernel) hown hKK.1 hP 0 rfl rfl 5 (by decide) (hts (.fieldLink RX4 19 "WidowPenniesModel" "numbers" "[I") (by decide +kernel)) (fun _ h9 => h9) rfl dX4_comeIn_1 ?_
  refine lv_iconst (v := 1) hx hb dX4_comeIn_4 (by decide) ?_
  refine lv_ldc2 (v := 99999999) hx hb hown (hts (.constantLong RX4 59 99999999) (by decide +kernel)) dX4_comeIn_5 ?_
  refine lv_aload_n hx hb dX4_comeIn_8 rfl (lv_at hl 0 rfl) ?_
  refine va_get (D := (dC, dI)) (ci := 4) (v := .ref (M 4)) (C := RX4) (T := TX4) (N := 7) hx hb hts (by decide +kernel) hown hKK.1 hP 0 rfl rfl 5 (by decide) (hts (.fieldLink RX4 19 "WidowPenniesModel" "numbers" "[I") (by decide +kernel)) (fun _ h9 => h9) rfl dX4_comeIn_9 ?_
  refine lv_iconst (v := 1) hx hb dX4_comeIn_12 (by decide) ?_
  refine va_iald hx hb hKK.1 hP 4 0 rfl rfl (vp_in_nI (n := 1) (by omega) (by omega)) dX4_comeIn_13 ?_
  rw [show (numF yr ch pd) (1 : Int32).toNatClampNeg = (numF yr ch pd) 1 from rfl]
  rw [show ((numF yr ch pd) 1 : Int32) = ch from rfl]
  refine lv_i2l hx hb dX4_comeIn_14 rfl ?_
  refine lv_lload_n hx hb dX4_comeIn_15 rfl (lv_at hl 1 rfl) ?_
  refine lv_ladd hx hb dX4_comeIn_16 ?_
  refine va_mmin_long hx hb (hml.trans hl.1.symm) hown (hts (.methodLink RX4 61 Lib.MathLoose.min_long.x) (by decide +kernel)) (hts (.static Lib.MathLoose.min_long.x) (by decide +kernel)) (hts (.initialized "java/lang/Math") (by decide +kernel)) (hts (.code Lib.MathLoose.min_long.x Lib.MathLoose.min_long.code 4 (some .long)) (by decide +kernel)) (Nat.le_of_ble_eq_true rfl) (Nat.le_of_ble_eq_true rfl) (Nat.zero_le _) (Nat.zero_le _) dX4_comeIn_17 ?_
  refine lv_l2i hx hb dX4_comeIn_20 rfl ?_
  refine va_iast hx hb hKK.1 hP hD hS 4 0 rfl rfl (vp_in_nI (n := 1) (by omega) (by omega)) dX4_comeIn_21 (fun H locs hP hD hS => ?_)
  rw [show (1 : Int32).toNatClampNeg = 1 from rfl, numF_u1] at hP hD
  have hP : va_P (dC, dI) vwCl (mw cI M th n d r Wd (comeS ch x) pd yr T ++ R) H := hP
  have hD : va_D A (mw cI M th n d r Wd (comeS ch x) pd yr T ++ R) := hD
  have hP9 : va_P (dC, dI) vwCl (mw cI M th n d r Wd (comeS ch x) pd yr T ++ R) _ := hP
  have hD9 : va_D A (mw cI M th n d r Wd (comeS ch x) pd yr T ++ R) := hD
  exact W.vret hx hb hr (fun t ht hW => ⟨⟨(), rfl, trivial, by rw [ht]; exact hP9, by rw [hAe]; exact hD9⟩, by rw [hAe]; exact hS.F ht⟩) hS.2.2 dX4_comeIn_22
set_option maxHeartbeats 4000000 in
set_option maxRecDepth 100000 in
theorem met_X4_payOut (l : Launch) (dC : Nat → ClassId) (dI : Nat → Nat → Nat) (cI cW : ClassId) (M : Nat → Nat) (th : Int32) (n : Nat) (d r : Nat → Int32) (Wd : Nat → Nat → Int32) (ch pd yr : Int32) (T : Nat → Int32) (R : va_W) (k : Nat) (hk : k < 10) (x : Int32) (sz : Nat) : Met l yX4_payOut wsX4_payOut ({ frames := 1, cells := 0, slots := 0, locals := 23 }) (Pre1 dC dI cI cW [.ref (M 0), .int (nI k), .int x] (mw cI M th n d r Wd ch pd yr T ++ R) sz) (Qv1 dC dI (mw cI M th n d r Wd ch pd yr T ++ R) (mw cI M th n d r (upW Wd k (upd (Wd k) 5 (Wd k 5 + x))) (ch - x) (pd + x) yr T ++ R) sz) 0 0 (va_A (mw cI M th n d r Wd ch pd yr T ++ R) sz) := by
  refine Met.ofW (cc := cX4_payOut) (maxL := 3) (ret := none) (by decide) rfl ?_
  intro p e s m args below meth c s₁ B hml hv
  obtain ⟨rfl, hsz, hP, hD0, hKK⟩ := hv
  subst hsz
  have hx := B.exec
  have hb := B.bytes
  have hr := B.returns
  have hts := atoms_spec (ws := wsX4_payOut) B.pre
  have hown : s.vm.findClass RX4 = some m.cls := findClass_of_methodNamed B.named
  have hlocks := B.notSynchronized
  have hD := hD0.self (sz := s.heap.size)
  generalize hAe : va_A (mw cI M th n d r Wd ch pd yr T ++ R) s.heap.size = A at hD ⊢
  have hA : ∀ q : Nat, s.heap.size ≤ q → A q := fun q h => by rw [← hAe]; exact Or.inr h
  have hS : va_S A s.heap s.heap [] := va_S.rf
  have hl := lv_entry ([.ref (M 0), .int (nI k), .int x]) (n := 3) (Nat.le_of_ble_eq_true rfl)
  rw [lg_entry_eq]
  generalize (lg_sl ([.ref (M 0), .int (nI k), .int x]) ++ List.replicate (3 - (lg_sl ([.ref (M 0), .int (nI k), .int x])).length) Slot.unset).toArray = ls at hl ⊢
  have hl : lv_has ls 3 [(0, .ref (M 0)), (1, .int (nI k)), (2, .int x)] := hl
  refine lv_aload_n hx hb dX4_payOut_0 rfl (lv_at hl 0 rfl) ?_
  refine va_get (D := (dC, dI)) (ci := 4) (v := .ref (M 4)) (C := RX4) (T := TX4) (N := 7) hx hb hts (by decide +kernel) hown hKK.1 hP 0 rfl rfl 5 (by decide) (hts (.fieldLink RX4 19 "WidowPenniesModel" "numbers" "[I") (by decide +kernel)) (fun _ h9 => h9) rfl dX4_payOut_1 ?_
  refine lv_iconst (v := 1) hx hb dX4_payOut_4 (by decide) ?_
  refine lv_dup2_11 hx hb dX4_payOut_5 rfl rfl ?_
  refine va_iald hx hb hKK.1 hP 4 0 rfl rfl (vp_in_nI (n := 1) (by omega) (by omega)) dX4_payOut_6 ?_
  rw [show (numF yr ch pd) (1 : Int32).toNatClampNeg = (numF yr ch pd) 1 from rfl]
  rw [show ((numF yr ch pd) 1 : Int32) = ch from rfl]
  refine lv_iload_n hx hb dX4_payOut_7 rfl (lv_at hl 2 rfl) ?_
  refine lv_isub hx hb dX4_payOut_8 ?_
  refine va_iast hx hb hKK.1 hP hD hS 4 0 rfl rfl (vp_in_nI (n := 1) (by omega) (by omega)) dX4_payOut_9 (fun H locs hP hD hS => ?_)
  rw [show (1 : Int32).toNatClampNeg = 1 from rfl, numF_u1] at hP hD
  have hP : va_P (dC, dI) vwCl (mw cI M th n d r Wd (ch - x) pd yr T ++ R) H := hP
  have hD : va_D A (mw cI M th n d r Wd (ch - x) pd yr T ++ R) := hD
  refine lv_aload_n hx hb dX4_payOut_10 rfl (lv_at hl 0 rfl) ?_
  refine va_get (D := (dC, dI)) (ci := 4) (v := .ref (M 4)) (C := RX4) (T := TX4) (N := 7) hx hb hts (by decide +kernel) hown hKK.1 hP 0 rfl rfl 5 (by decide) (hts (.fieldLink RX4 19 "WidowPenniesModel" "numbers" "[I") (by decide +kernel)) (fun _ h9 => h9) rfl dX4_payOut_11 ?_
  refine lv_iconst (v := 2) hx hb dX4_payOut_14 (by decide) ?_
  refine lv_dup2_11 hx hb dX4_payOut_15 rfl rfl ?_
  refine va_iald hx hb hKK.1 hP 4 0 rfl rfl (vp_in_nI (n := 2) (by omega) (by omega)) dX4_payOut_16 ?_
  rw [show (numF yr (ch - x) pd) (2 : Int32).toNatClampNeg = (numF yr (ch - x) pd) 2 from rfl]
  rw [show ((numF yr (ch - x) pd) 2 : Int32) = pd from rfl]
  refine lv_iload_n hx hb dX4_payOut_17 rfl (lv_at hl 2 rfl) ?_
  refine lv_iadd hx hb dX4_payOut_18 ?_
  refine va_iast hx hb hKK.1 hP hD hS 4 0 rfl rfl (vp_in_nI (n := 2) (by omega) (by omega)) dX4_payOut_19 (fun H locs hP hD hS => ?_)
  rw [show (2 : Int32).toNatClampNeg = 2 from rfl, numF_u2] at hP hD
  have hP : va_P (dC, dI) vwCl (mw cI M th n d r Wd (ch - x) (pd + x) yr T ++ R) H := hP
  have hD : va_D A (mw cI M th n d r Wd (ch - x) (pd + x) yr T ++ R) := hD
  refine lv_aload_n hx hb dX4_payOut_20 rfl (lv_at hl 0 rfl) ?_
  refine lv_iload_n hx hb dX4_payOut_21 rfl (lv_at hl 1 rfl) ?_
  refine lv_iconst (v := 5) hx hb dX4_payOut_22 (by decide) ?_
  refine lv_aload_n hx hb dX4_payOut_23 rfl (lv_at hl 0 rfl) ?_
  refine lv_iload_n hx hb dX4_payOut_24 rfl (lv_at hl 1 rfl) ?_
  refine lv_iconst (v := 5) hx hb dX4_payOut_25 (by decide) ?_
  refine rd_i (runV0 (As := [.int (nI k), .int 5]) (rest := [.int 5, .int (nI k), .ref (M 0)]) ⟨hx, hb, hml, hown, hts⟩ (met_X4_wi l dC dI cI cW M th n d r Wd (ch - x) (pd + x) yr T k hk 5 (by omega)) (cwV 2 hts gX4_payOut_X4_wi rfl rfl rfl (by decide +kernel) ⟨Nat.le_of_ble_eq_true rfl, Nat.le_of_ble_eq_true rfl⟩) hKK (ws_left hP) 4 0 rfl rfl rfl hl.1 (Nat.le_of_ble_eq_true rfl) rfl dX4_payOut_26 ⟨Nat.zero_le _, Nat.zero_le _⟩) (fun r_3 hr_3 => ?_)
  subst hr_3
  refine lv_iload_n hx hb dX4_payOut_29 rfl (lv_at hl 2 rfl) ?_
  refine lv_iadd hx hb dX4_payOut_30 ?_
  refine wr_v (runV1 (As := [.int (nI k), .int 5, .int ((Wd k 5) + x)]) (rest := []) ⟨hx, hb, hml, hown, hts⟩ (met_X4_let l dC dI cI cW M th n d r Wd (ch - x) (pd + x) yr T R k hk 5 (by omega) ((Wd k 5) + x) _) (cwV 3 hts gX4_payOut_X4_let rfl rfl rfl (by decide +kernel) ⟨Nat.le_of_ble_eq_true rfl, Nat.le_of_ble_eq_true rfl⟩) hKK hP hD 4 0 rfl rfl rfl hl.1 (Nat.le_of_ble_eq_true rfl) rfl dX4_payOut_31 ⟨Nat.zero_le _, Nat.zero_le _⟩) hD hS hA (fun H locs hP hD hS => ?_)
  have hP : va_P (dC, dI) vwCl (mw cI M th n d r (upW Wd k (upd (Wd k) 5 ((Wd k 5) + x))) (ch - x) (pd + x) yr T ++ R) H := hP
  have hD : va_D A (mw cI M th n d r (upW Wd k (upd (Wd k) 5 ((Wd k 5) + x))) (ch - x) (pd + x) yr T ++ R) := hD
  have hP9 : va_P (dC, dI) vwCl (mw cI M th n d r (upW Wd k (upd (Wd k) 5 ((Wd k 5) + x))) (ch - x) (pd + x) yr T ++ R) _ := hP
  have hD9 : va_D A (mw cI M th n d r (upW Wd k (upd (Wd k) 5 ((Wd k 5) + x))) (ch - x) (pd + x) yr T ++ R) := hD
  exact W.vret hx hb hr (fun t ht hW => ⟨⟨(), rfl, trivial, by rw [ht]; exact hP9, by rw [hAe]; exact hD9⟩, by rw [hAe]; exact hS.F ht⟩) hS.2.2 dX4_payOut_34
set_option maxHeartbeats 4000000 in
set_option maxRecDepth 100000 in
theorem met_X4_reckon (l : Launch) (dC : Nat → ClassId) (dI : Nat → Nat → Nat) (cI cW : ClassId) (M : Nat → Nat) (th : Int32) (n : Nat) (d r : Nat → Int32) (Wd : Nat → Nat → Int32) (ch pd yr : Int32) (T : Nat → Int32) (R : va_W) (hT : ∀ j, ¬ (j < 1581 ∧ j % 51 < 50) → T j = 0) (hi : ¬ (1000 : Int32) + r 0 = 0) (sz : Nat) : Met l yX4_reckon wsX4_reckon ({ frames := 0, cells := 0, slots := 0, locals := 0 }) (Pre1 dC dI cI cW [.ref (M 0)] (mw cI M th n d r Wd ch pd yr T ++ R) sz) (Qv1 dC dI (mw cI M th n d r Wd ch pd yr T ++ R) (mw cI M th n d r Wd ch pd yr (WT d (r 0)) ++ R) sz) 0 0 (va_A (mw cI M th n d r Wd ch pd yr T ++ R) sz) := by
  refine Met.ofW (cc := cX4_reckon) (maxL := 4) (ret := none) (by decide) rfl ?_
  intro p e s m args below meth c s₁ B hml hv
  obtain ⟨rfl, hsz, hP, hD0, hKK⟩ := hv
  subst hsz
  have hx := B.exec
  have hb := B.bytes
  have hr := B.returns
  have hts := atoms_spec (ws := wsX4_reckon) B.pre
  have hown : s.vm.findClass RX4 = some m.cls := findClass_of_methodNamed B.named
  have hlocks := B.notSynchronized
  have hD := hD0.self (sz := s.heap.size)
  generalize hAe : va_A (mw cI M th n d r Wd ch pd yr T ++ R) s.heap.size = A at hD ⊢
  have hA : ∀ q : Nat, s.heap.size ≤ q → A q := fun q h => by rw [← hAe]; exact Or.inr h
  have hS : va_S A s.heap s.heap [] := va_S.rf
  have hl := lv_entry ([.ref (M 0)]) (n := 4) (Nat.le_of_ble_eq_true rfl)
  rw [lg_entry_eq]
  generalize (lg_sl ([.ref (M 0)]) ++ List.replicate (4 - (lg_sl ([.ref (M 0)])).length) Slot.unset).toArray = ls at hl ⊢
  have hl : lv_has ls 4 [(0, .ref (M 0))] := hl
  have hE : (nI 0 : Int32) + Int32.ofInt (-1) = (-1) := by decide
  have inner : ∀ late : Nat, late ≤ 30 → (∀ (H : Heap) (locs : List Loc), va_P (dC, dI) vwCl (mw cI M th n d r Wd ch pd yr (MT d (r 0) T late 50) ++ R) H → va_D A (mw cI M th n d r Wd ch pd yr (MT d (r 0) T late 50) ++ R) → va_S A s.heap H locs → ∀ ls : Array Slot, lv_has ls 4 [(1, .int (nI late)), (0, .ref (M 0))] → W p l e (headSpec wsX4_reckon ({ frames := 0, cells := 0, slots := 0, locals := 0 })).room s m (([.ref (M 0)] : List Value).toArray) below meth c H locs 0 0 (MQ below (Qv1 dC dI (mw cI M th n d r Wd ch pd yr T ++ R) (mw cI M th n d r Wd ch pd yr (WT d (r 0)) ++ R) s.heap.size) ([.ref (M 0)] : List Value).toArray s 0 0 A) (F0 m 90 ls [])) →
      ∀ (q mm : Nat), mm + q = 50 → ∀ (kk : Int32), kk = nI 49 - nI mm → ∀ (H : Heap) (locs : List Loc), va_P (dC, dI) vwCl (mw cI M th n d r Wd ch pd yr (MT d (r 0) T late mm) ++ R) H → va_D A (mw cI M th n d r Wd ch pd yr (MT d (r 0) T late mm) ++ R) → va_S A s.heap H locs → ∀ ls : Array Slot, lv_has ls 4 [(2, .int kk), (1, .int (nI late)), (0, .ref (M 0))] → W p l e (headSpec wsX4_reckon ({ frames := 0, cells := 0, slots := 0, locals := 0 })).room s m (([.ref (M 0)] : List Value).toArray) below meth c H locs 0 0 (MQ below (Qv1 dC dI (mw cI M th n d r Wd ch pd yr T ++ R) (mw cI M th n d r Wd ch pd yr (WT d (r 0)) ++ R) s.heap.size) ([.ref (M 0)] : List Value).toArray s 0 0 A) (F0 m 11 ls []) := by
    intro late hlate hout q
    induction q with
    | zero =>
      intro mm hm kk ek H locs hP hD hS ls hl
      have hm50 : mm = 50 := by omega
      subst hm50
      have ek1 : kk = -1 := by rw [ek]; decide
      subst ek1
      refine lv_iload_n hx hb dX4_reckon_11 rfl (lv_at hl 0 rfl) ?_
      refine lv_if_lt (tgt := 90) hx hb dX4_reckon_12 (by decide) (fun c_1 => ?_) (fun c_1 => ?_)
      · exact hout H locs hP hD hS ls (lv_sub hl [1, 2] rfl)
      · exact absurd (by decide) c_1
    | succ q ih =>
      intro mm hm kk ek H locs hP hD hS ls hl
      have hm50 : mm < 50 := by omega
      have ek1 : kk = nI (49 - mm) := by rw [ek, n_sub (by omega)]
      subst ek1
      rcases Nat.eq_zero_or_pos late with z | z
      · subst z
        refine lv_iload_n hx hb dX4_reckon_11 rfl (lv_at hl 0 rfl) ?_
        refine lv_if_lt (tgt := 90) hx hb dX4_reckon_12 (by decide) (fun c_1 => ?_) (fun c_1 => ?_)
        · exact absurd c_1 (nI_pos (by omega))
        · refine lv_iload_n hx hb dX4_reckon_15 rfl (lv_at hl 1 rfl) ?_
          refine lv_if_ne (tgt := 34) hx hb dX4_reckon_16 (by decide) (fun c_2 => ?_) (fun c_2 => ?_)
          · exact absurd rfl c_2
          · refine lv_sipush (v := 1000) hx hb dX4_reckon_19 (by decide) ?_
            refine lv_aload_n hx hb dX4_reckon_22 rfl (lv_at hl 2 rfl) ?_
            refine va_get (D := (dC, dI)) (ci := 4) (v := .ref (M 5)) (C := RX4) (T := TX4) (N := 7) hx hb hts (by decide +kernel) hown hKK.1 hP 0 rfl rfl 6 (by decide) (hts (.fieldLink RX4 22 "WidowPenniesModel" "worths" "[I") (by decide +kernel)) (fun _ h9 => h9) rfl dX4_reckon_23 ?_
            refine lv_iload_n hx hb dX4_reckon_26 rfl (lv_at hl 0 rfl) ?_
            refine lv_iconst (v := 1) hx hb dX4_reckon_27 (by decide) ?_
            refine lv_iadd hx hb dX4_reckon_28 ?_
            rw [show ((nI (49 - mm)) + 1 : Int32) = nI (49 - mm + 1) from nI_1 _]
            refine va_iald hx hb hKK.1 hP 5 0 rfl rfl (vp_in_nI (by omega) (by omega)) dX4_reckon_29 ?_
            rw [show (MT d (r 0) T 0 mm) (nI (49 - mm + 1)).toNatClampNeg = (MT d (r 0) T 0 mm) (49 - mm + 1) from congrArg (MT d (r 0) T 0 mm) (clamp_nI (by omega))]
            rw [show ((MT d (r 0) T 0 mm) (49 - mm + 1) : Int32) = wN d (r 0) mm 0 from MT_next0 d (r 0) T hm50]
            refine lv_iadd hx hb dX4_reckon_30 ?_
            refine lv_goto (tgt := 49) hx hb dX4_reckon_31 (by decide) ?_
            refine lv_istore_n (lv' := [(3, .int (1000 + (wN d (r 0) mm 0))), (2, .int (nI (49 - mm))), (1, .int (nI 0)), (0, .ref (M 0))]) hx hb dX4_reckon_49 rfl hl (by decide) rfl (fun ls hl => ?_)
            refine lv_aload_n hx hb dX4_reckon_50 rfl (lv_at hl 3 rfl) ?_
            refine va_get (D := (dC, dI)) (ci := 4) (v := .ref (M 5)) (C := RX4) (T := TX4) (N := 7) hx hb hts (by decide +kernel) hown hKK.1 hP 0 rfl rfl 6 (by decide) (hts (.fieldLink RX4 22 "WidowPenniesModel" "worths" "[I") (by decide +kernel)) (fun _ h9 => h9) rfl dX4_reckon_51 ?_
            refine lv_bipush (v := 51) hx hb dX4_reckon_54 (by decide) ?_
            refine lv_iload_n hx hb dX4_reckon_56 rfl (lv_at hl 2 rfl) ?_
            refine lv_imul hx hb dX4_reckon_57 ?_
            rw [show (51 * (nI 0) : Int32) = nI (51 * 0) from pk_mul 51 0]
            refine lv_iload_n hx hb dX4_reckon_58 rfl (lv_at hl 1 rfl) ?_
            refine lv_iadd hx hb dX4_reckon_59 ?_
            rw [show ((nI (51 * 0)) + (nI (49 - mm)) : Int32) = nI (51 * 0 + (49 - mm)) from nI_add _ _]
            refine lv_sipush (v := 1000) hx hb dX4_reckon_60 (by decide) ?_
            refine lv_aload_n hx hb dX4_reckon_63 rfl (lv_at hl 3 rfl) ?_
            refine va_get (D := (dC, dI)) (ci := 4) (v := .ref (M 2)) (C := RX4) (T := TX4) (N := 7) hx hb hts (by decide +kernel) hown hKK.1 hP 0 rfl rfl 3 (by decide) (hts (.fieldLink RX4 13 "WidowPenniesModel" "deaths" "[I") (by decide +kernel)) (fun _ h9 => h9) rfl dX4_reckon_64 ?_
            refine lv_iload_n hx hb dX4_reckon_67 rfl (lv_at hl 1 rfl) ?_
            refine va_iald hx hb hKK.1 hP 2 0 rfl rfl (vp_in_nI (by omega) (by omega)) dX4_reckon_68 ?_
            rw [show d (nI (49 - mm)).toNatClampNeg = d (49 - mm) from congrArg d (clamp_nI (by omega))]
            refine lv_isub hx hb dX4_reckon_69 ?_
            refine lv_iload_n hx hb dX4_reckon_70 rfl (lv_at hl 0 rfl) ?_
            refine lv_imul hx hb dX4_reckon_71 ?_
            refine lv_sipush (v := 1000) hx hb dX4_reckon_72 (by decide) ?_
            refine lv_aload_n hx hb dX4_reckon_75 rfl (lv_at hl 3 rfl) ?_
            refine va_get (D := (dC, dI)) (ci := 4) (v := .ref (M 1)) (C := RX4) (T := TX4) (N := 7) hx hb hts (by decide +kernel) hown hKK.1 hP 0 rfl rfl 2 (by decide) (hts (.fieldLink RX4 7 "WidowPenniesModel" "rates" "[I") (by decide +kernel)) (fun _ h9 => h9) rfl dX4_reckon_76 ?_
            refine lv_iconst (v := 0) hx hb dX4_reckon_79 (by decide) ?_
            refine va_iald hx hb hKK.1 hP 1 0 rfl rfl (vp_in_nI (n := 0) (by omega) (by omega)) dX4_reckon_80 ?_
            rw [show r (0 : Int32).toNatClampNeg = r 0 from rfl]
            refine lv_iadd hx hb dX4_reckon_81 ?_
            refine lv_idiv hx hb dX4_reckon_82 hi ?_
            refine va_iast hx hb hKK.1 hP hD hS 5 0 rfl rfl (vp_in_nI (by omega) (by omega)) dX4_reckon_83 (fun H locs hP hD hS => ?_)
            rw [clamp_nI (show 51 * 0 + (49 - mm) < 2147483648 by omega), MT_put d (r 0) T (late := 0) (by omega) hm50 (show ((1000 - (d (49 - mm))) * (1000 + (wN d (r 0) mm 0))) / (1000 + (r 0)) = WT d (r 0) (51 * 0 + (49 - mm)) from by rw [WT_n d (r 0) (late := 0) (by omega) hm50, wN, show 49 - mm = 49 - mm from rfl])] at hP hD
            have hP : va_P (dC, dI) vwCl (mw cI M th n d r Wd ch pd yr (MT d (r 0) T 0 (mm + 1)) ++ R) H := hP
            have hD : va_D A (mw cI M th n d r Wd ch pd yr (MT d (r 0) T 0 (mm + 1)) ++ R) := hD
            refine lv_iinc (v := (nI (49 - mm) + Int32.ofInt (-1))) (lv' := [(2, .int (nI (49 - mm) + Int32.ofInt (-1))), (3, .int (1000 + (wN d (r 0) mm 0))), (1, .int (nI 0)), (0, .ref (M 0))]) hx hb dX4_reckon_84 hl (k := 1) rfl rfl (by decide) rfl (fun ls hl => ?_)
            refine lv_goto (tgt := 11) hx hb dX4_reckon_87 (by decide) ?_
            exact ih (mm + 1) (by omega) _ (dec_sub hm50) H locs hP hD hS ls (lv_sub hl [0, 2, 3] rfl)
      · obtain ⟨l9, rfl⟩ : ∃ l9, late = l9 + 1 := ⟨late - 1, by omega⟩
        refine lv_iload_n hx hb dX4_reckon_11 rfl (lv_at hl 0 rfl) ?_
        refine lv_if_lt (tgt := 90) hx hb dX4_reckon_12 (by decide) (fun c_1 => ?_) (fun c_1 => ?_)
        · exact absurd c_1 (nI_pos (by omega))
        · refine lv_iload_n hx hb dX4_reckon_15 rfl (lv_at hl 1 rfl) ?_
          refine lv_if_ne (tgt := 34) hx hb dX4_reckon_16 (by decide) (fun c_2 => ?_) (fun c_2 => ?_)
          · refine lv_aload_n hx hb dX4_reckon_34 rfl (lv_at hl 2 rfl) ?_
            refine va_get (D := (dC, dI)) (ci := 4) (v := .ref (M 5)) (C := RX4) (T := TX4) (N := 7) hx hb hts (by decide +kernel) hown hKK.1 hP 0 rfl rfl 6 (by decide) (hts (.fieldLink RX4 22 "WidowPenniesModel" "worths" "[I") (by decide +kernel)) (fun _ h9 => h9) rfl dX4_reckon_35 ?_
            refine lv_bipush (v := 51) hx hb dX4_reckon_38 (by decide) ?_
            refine lv_iload_n hx hb dX4_reckon_40 rfl (lv_at hl 1 rfl) ?_
            refine lv_iconst (v := 1) hx hb dX4_reckon_41 (by decide) ?_
            refine lv_isub hx hb dX4_reckon_42 ?_
            rw [show ((nI (l9 + 1)) - 1 : Int32) = nI l9 from by rw [show (1 : Int32) = nI 1 from rfl, n_sub (by omega), Nat.add_sub_cancel]]
            refine lv_imul hx hb dX4_reckon_43 ?_
            rw [show (51 * (nI l9) : Int32) = nI (51 * l9) from pk_mul 51 l9]
            refine lv_iload_n hx hb dX4_reckon_44 rfl (lv_at hl 0 rfl) ?_
            refine lv_iadd hx hb dX4_reckon_45 ?_
            rw [show ((nI (51 * l9)) + (nI (49 - mm)) : Int32) = nI (51 * l9 + (49 - mm)) from nI_add _ _]
            refine lv_iconst (v := 1) hx hb dX4_reckon_46 (by decide) ?_
            refine lv_iadd hx hb dX4_reckon_47 ?_
            rw [show ((nI (51 * l9 + (49 - mm))) + 1 : Int32) = nI (51 * l9 + (49 - mm) + 1) from nI_1 _]
            refine va_iald hx hb hKK.1 hP 5 0 rfl rfl (vp_in_nI (by omega) (by omega)) dX4_reckon_48 ?_
            rw [show (MT d (r 0) T (l9 + 1) mm) (nI (51 * l9 + (49 - mm) + 1)).toNatClampNeg = (MT d (r 0) T (l9 + 1) mm) (51 * l9 + (49 - mm) + 1) from congrArg (MT d (r 0) T (l9 + 1) mm) (clamp_nI (by omega))]
            rw [show ((MT d (r 0) T (l9 + 1) mm) (51 * l9 + (49 - mm) + 1) : Int32) = wN d (r 0) mm l9 from MT_next d (r 0) T (by omega) hm50]
            refine lv_istore_n (lv' := [(3, .int (wN d (r 0) mm l9)), (2, .int (nI (49 - mm))), (1, .int (nI (l9 + 1))), (0, .ref (M 0))]) hx hb dX4_reckon_49 rfl hl (by decide) rfl (fun ls hl => ?_)
            refine lv_aload_n hx hb dX4_reckon_50 rfl (lv_at hl 3 rfl) ?_
            refine va_get (D := (dC, dI)) (ci := 4) (v := .ref (M 5)) (C := RX4) (T := TX4) (N := 7) hx hb hts (by decide +kernel) hown hKK.1 hP 0 rfl rfl 6 (by decide) (hts (.fieldLink RX4 22 "WidowPenniesModel" "worths" "[I") (by decide +kernel)) (fun _ h9 => h9) rfl dX4_reckon_51 ?_
            refine lv_bipush (v := 51) hx hb dX4_reckon_54 (by decide) ?_
            refine lv_iload_n hx hb dX4_reckon_56 rfl (lv_at hl 2 rfl) ?_
            refine lv_imul hx hb dX4_reckon_57 ?_
            rw [show (51 * (nI (l9 + 1)) : Int32) = nI (51 * (l9 + 1)) from pk_mul 51 (l9 + 1)]
            refine lv_iload_n hx hb dX4_reckon_58 rfl (lv_at hl 1 rfl) ?_
            refine lv_iadd hx hb dX4_reckon_59 ?_
            rw [show ((nI (51 * (l9 + 1))) + (nI (49 - mm)) : Int32) = nI (51 * (l9 + 1) + (49 - mm)) from nI_add _ _]
            refine lv_sipush (v := 1000) hx hb dX4_reckon_60 (by decide) ?_
            refine lv_aload_n hx hb dX4_reckon_63 rfl (lv_at hl 3 rfl) ?_
            refine va_get (D := (dC, dI)) (ci := 4) (v := .ref (M 2)) (C := RX4) (T := TX4) (N := 7) hx hb hts (by decide +kernel) hown hKK.1 hP 0 rfl rfl 3 (by decide) (hts (.fieldLink RX4 13 "WidowPenniesModel" "deaths" "[I") (by decide +kernel)) (fun _ h9 => h9) rfl dX4_reckon_64 ?_
            refine lv_iload_n hx hb dX4_reckon_67 rfl (lv_at hl 1 rfl) ?_
            refine va_iald hx hb hKK.1 hP 2 0 rfl rfl (vp_in_nI (by omega) (by omega)) dX4_reckon_68 ?_
            rw [show d (nI (49 - mm)).toNatClampNeg = d (49 - mm) from congrArg d (clamp_nI (by omega))]
            refine lv_isub hx hb dX4_reckon_69 ?_
            refine lv_iload_n hx hb dX4_reckon_70 rfl (lv_at hl 0 rfl) ?_
            refine lv_imul hx hb dX4_reckon_71 ?_
            refine lv_sipush (v := 1000) hx hb dX4_reckon_72 (by decide) ?_
            refine lv_aload_n hx hb dX4_reckon_75 rfl (lv_at hl 3 rfl) ?_
            refine va_get (D := (dC, dI)) (ci := 4) (v := .ref (M 1)) (C := RX4) (T := TX4) (N := 7) hx hb hts (by decide +kernel) hown hKK.1 hP 0 rfl rfl 2 (by decide) (hts (.fieldLink RX4 7 "WidowPenniesModel" "rates" "[I") (by decide +kernel)) (fun _ h9 => h9) rfl dX4_reckon_76 ?_
            refine lv_iconst (v := 0) hx hb dX4_reckon_79 (by decide) ?_
            refine va_iald hx hb hKK.1 hP 1 0 rfl rfl (vp_in_nI (n := 0) (by omega) (by omega)) dX4_reckon_80 ?_
            rw [show r (0 : Int32).toNatClampNeg = r 0 from rfl]
            refine lv_iadd hx hb dX4_reckon_81 ?_
            refine lv_idiv hx hb dX4_reckon_82 hi ?_
            refine va_iast hx hb hKK.1 hP hD hS 5 0 rfl rfl (vp_in_nI (by omega) (by omega)) dX4_reckon_83 (fun H locs hP hD hS => ?_)
            rw [clamp_nI (show 51 * (l9 + 1) + (49 - mm) < 2147483648 by omega), MT_put d (r 0) T (late := (l9 + 1)) (by omega) hm50 (show ((1000 - (d (49 - mm))) * (wN d (r 0) mm l9)) / (1000 + (r 0)) = WT d (r 0) (51 * (l9 + 1) + (49 - mm)) from by rw [WT_n d (r 0) (late := (l9 + 1)) (by omega) hm50, wN, show 49 - mm = 49 - mm from rfl])] at hP hD
            have hP : va_P (dC, dI) vwCl (mw cI M th n d r Wd ch pd yr (MT d (r 0) T (l9 + 1) (mm + 1)) ++ R) H := hP
            have hD : va_D A (mw cI M th n d r Wd ch pd yr (MT d (r 0) T (l9 + 1) (mm + 1)) ++ R) := hD
            refine lv_iinc (v := (nI (49 - mm) + Int32.ofInt (-1))) (lv' := [(2, .int (nI (49 - mm) + Int32.ofInt (-1))), (3, .int (wN d (r 0) mm l9)), (1, .int (nI (l9 + 1))), (0, .ref (M 0))]) hx hb dX4_reckon_84 hl (k := 1) rfl rfl (by decide) rfl (fun ls hl => ?_)
            refine lv_goto (tgt := 11) hx hb dX4_reckon_87 (by decide) ?_
            exact ih (mm + 1) (by omega) _ (dec_sub hm50) H locs hP hD hS ls (lv_sub hl [0, 2, 3] rfl)
          · exact absurd c_2 (nI_ne0 (by omega) (by omega))
  have key : ∀ (q late : Nat), late + q = 31 → ∀ (H : Heap) (locs : List Loc), va_P (dC, dI) vwCl (mw cI M th n d r Wd ch pd yr (MT d (r 0) T late 0) ++ R) H → va_D A (mw cI M th n d r Wd ch pd yr (MT d (r 0) T late 0) ++ R) → va_S A s.heap H locs → ∀ ls : Array Slot, lv_has ls 4 [(1, .int (nI late)), (0, .ref (M 0))] → W p l e (headSpec wsX4_reckon ({ frames := 0, cells := 0, slots := 0, locals := 0 })).room s m (([.ref (M 0)] : List Value).toArray) below meth c H locs 0 0 (MQ below (Qv1 dC dI (mw cI M th n d r Wd ch pd yr T ++ R) (mw cI M th n d r Wd ch pd yr (WT d (r 0)) ++ R) s.heap.size) ([.ref (M 0)] : List Value).toArray s 0 0 A) (F0 m 2 ls []) := by
    intro q
    induction q with
    | zero =>
      intro late hq H locs hP hD hS ls hl
      have h31 : late = 31 := by omega
      subst h31
      refine lv_iload_n hx hb dX4_reckon_2 rfl (lv_at hl 0 rfl) ?_
      refine lv_bipush (v := 30) hx hb dX4_reckon_3 (by decide) ?_
      refine lv_icmp_gt (tgt := 96) hx hb dX4_reckon_5 (by decide) (fun c_1 => ?_) (fun c_1 => ?_)
      · have hP9 : va_P (dC, dI) vwCl (mw cI M th n d r Wd ch pd yr (MT d (r 0) T 31 0) ++ R) _ := hP
        have hD9 : va_D A (mw cI M th n d r Wd ch pd yr (MT d (r 0) T 31 0) ++ R) := hD
        rw [MT_end d (r 0) hT] at hP9 hD9
        exact W.vret hx hb hr (fun t ht hW => ⟨⟨(), rfl, trivial, by rw [ht]; exact hP9, by rw [hAe]; exact hD9⟩, by rw [hAe]; exact hS.F ht⟩) hS.2.2 dX4_reckon_96
      · exact absurd (by decide) c_1
    | succ q ih =>
      intro late hq H locs hP hD hS ls hl
      refine lv_iload_n hx hb dX4_reckon_2 rfl (lv_at hl 0 rfl) ?_
      refine lv_bipush (v := 30) hx hb dX4_reckon_3 (by decide) ?_
      refine lv_icmp_gt (tgt := 96) hx hb dX4_reckon_5 (by decide) (fun c_1 => ?_) (fun c_1 => ?_)
      · exact absurd c_1 (fun q9 => absurd ((lt_nI (a := 30) (by omega)).mp q9) (by omega))
      · refine lv_bipush (v := 49) hx hb dX4_reckon_8 (by decide) ?_
        refine lv_istore_n (lv' := [(2, .int 49), (1, .int (nI late)), (0, .ref (M 0))]) hx hb dX4_reckon_10 rfl hl (by decide) rfl (fun ls hl => ?_)
        refine inner late (by omega) (fun H locs hP hD hS ls hl => ?_) 50 0 (by omega) 49 (by decide) H locs hP hD hS ls (lv_sub hl [0, 1, 2] rfl)
        refine lv_iinc (v := (nI (late + 1))) (lv' := [(1, .int (nI (late + 1))), (0, .ref (M 0))]) hx hb dX4_reckon_90 hl (k := 0) rfl (nI_1 late) (by decide) rfl (fun ls hl => ?_)
        refine lv_goto (tgt := 2) hx hb dX4_reckon_93 (by decide) ?_
        have hP : va_P (dC, dI) vwCl (mw cI M th n d r Wd ch pd yr (MT d (r 0) T (late + 1) 0) ++ R) H := by rw [← MT_row d (r 0) hT late]; exact hP
        have hD : va_D A (mw cI M th n d r Wd ch pd yr (MT d (r 0) T (late + 1) 0) ++ R) := by rw [← MT_row d (r 0) hT late]; exact hD
        exact ih (late + 1) (by omega) H locs hP hD hS ls (lv_sub hl [0, 1] rfl)
  refine lv_iconst (v := 0) hx hb dX4_reckon_0 (by decide) ?_
  refine lv_istore_n (lv' := [(1, .int 0), (0, .ref (M 0))]) hx hb dX4_reckon_1 rfl hl (by decide) rfl (fun ls hl => ?_)
  have hP : va_P (dC, dI) vwCl (mw cI M th n d r Wd ch pd yr (MT d (r 0) T 0 0) ++ R) s.heap := by rw [MT_0 d (r 0) hT]; exact hP
  have hD : va_D A (mw cI M th n d r Wd ch pd yr (MT d (r 0) T 0 0) ++ R) := by rw [MT_0 d (r 0) hT]; exact hD
  exact key 31 0 (by omega) _ _ hP hD hS ls (lv_sub hl [0, 1] rfl)
