set_option maxHeartbeats 4000000 in
set_option maxRecDepth 100000 in
theorem met_X4_setRate (l : Launch) (dC : Nat → ClassId) (dI : Nat → Nat → Nat) (cI cW : ClassId) (t : Nat) (M : Nat → Nat) (th : Int32) (n : Nat) (d r : Nat → Int32) (Wd : Nat → Nat → Int32) (ch pd yr : Int32) (R : va_W) (k : Nat) (hk : k < 3) (x : Int32) (h4 : 0 ≤ x ∧ x ≤ (if k = 0 then (200 : Int32) else 50)) (hi : ¬ (1000 : Int32) + upd r k x 0 = 0) (sz : Nat) : Met l yX4_setRate wsX4_setRate ({ frames := 1, cells := 0, slots := 0, locals := 23 }) (PreH dC dI cI cW t [.ref (M 0), .int (nI k), .int x] (mw cI M th n d r Wd ch pd yr (WT d (r 0)) ++ R) sz) (Qi1 dC dI (fun z => z = r k) (mw cI M th n d r Wd ch pd yr (WT d (r 0)) ++ R) (mw cI M 0 n d (upd r k x) Wd ch pd yr (WT d ((upd r k x) 0)) ++ R) sz) 0 0 (va_A (mw cI M th n d r Wd ch pd yr (WT d (r 0)) ++ R) sz) := by
  refine Met.ofW (cc := cX4_setRate) (maxL := 4) (ret := (some .int)) (by decide) rfl ?_
  intro p e s m args below meth c s₁ B hml hv
  obtain ⟨rfl, hsz, hP, hD0, hKK, hHG⟩ := hv
  subst hsz
  have hx := B.exec
  have hb := B.bytes
  have hr := B.returns
  have hts := atoms_spec (ws := wsX4_setRate) B.pre
  have hown : s.vm.findClass RX4 = some m.cls := findClass_of_methodNamed B.named
  have hlocks := B.notSynchronized
  have hD := hD0.self (sz := s.heap.size)
  generalize hAe : va_A (mw cI M th n d r Wd ch pd yr (WT d (r 0)) ++ R) s.heap.size = A at hD ⊢
  rw [hAe] at hHG
  have hA : ∀ q : Nat, s.heap.size ≤ q → A q := fun q h => by rw [← hAe]; exact Or.inr h
  have hS : va_S A s.heap s.heap [] := va_S.rf
  have hl := lv_entry ([.ref (M 0), .int (nI k), .int x]) (n := 4) (Nat.le_of_ble_eq_true rfl)
  rw [lg_entry_eq]
  generalize (lg_sl ([.ref (M 0), .int (nI k), .int x]) ++ List.replicate (4 - (lg_sl ([.ref (M 0), .int (nI k), .int x])).length) Slot.unset).toArray = ls at hl ⊢
  have hl : lv_has ls 4 [(0, .ref (M 0)), (1, .int (nI k)), (2, .int x)] := hl
  refine lv_aload_n hx hb dX4_setRate_0 rfl (lv_at hl 0 rfl) ?_
  refine lv_iconst (v := 0) hx hb dX4_setRate_1 (by decide) ?_
  refine va_put (D := (dC, dI)) (ci := 4) (v := .int 0) (ty := .int) (C := RX4) (T := TX4) (N := 7) hx hb hts (by decide +kernel) tyX4 tyX4_ok nmX4 hown hKK.1 hP hD hS 0 rfl rfl 0 (by decide) (hts (.fieldLink RX4 28 "WidowPenniesModel" "thrown" "I") (by decide +kernel)) (fun _ h9 => h9) rfl (by decide +kernel) rfl rfl (Nat.le_of_ble_eq_true rfl) dX4_setRate_2 (fun H locs hP hD hS => ?_)
  have hP : va_P (dC, dI) vwCl (mw cI M 0 n d r Wd ch pd yr (WT d (r 0)) ++ R) H := hP
  have hD : va_D A (mw cI M 0 n d r Wd ch pd yr (WT d (r 0)) ++ R) := hD
  refine lv_iload_n hx hb dX4_setRate_5 rfl (lv_at hl 1 rfl) ?_
  refine lv_iconst (v := 0) hx hb dX4_setRate_6 (by decide) ?_
  refine lv_iconst (v := 2) hx hb dX4_setRate_7 (by decide) ?_
  refine rd_i (runS0 (As := [.int (nI k), .int 0, .int 2]) (rest := []) ⟨hx, hb, hml, hown, hts⟩ (met_X4_isIn l dC dI cI cW (nI k) 0 2) (va_cwS 3 hts gX4_setRate_X4_isIn rfl rfl rfl (by decide +kernel) ⟨Nat.le_of_ble_eq_true rfl, Nat.le_of_ble_eq_true rfl⟩) hKK nilP rfl hl.1 (Nat.le_of_ble_eq_true rfl) rfl dX4_setRate_8 ⟨Nat.zero_le _, Nat.zero_le _⟩) (fun r_1 hr_1 => ?_)
  subst hr_1
  refine lv_if_ne (tgt := 20) hx hb dX4_setRate_11 (by decide) (fun c_2 => ?_) (fun c_2 => ?_)
  · have bc_2 : 0 ≤ (nI k) ∧ (nI k) ≤ 2 := b1.mp c_2
    refine lv_iload_n hx hb dX4_setRate_20 rfl (lv_at hl 2 rfl) ?_
    refine lv_iconst (v := 0) hx hb dX4_setRate_21 (by decide) ?_
    refine va_gets (v := .ref t) hx hb hHG.1 hS hown (hts (.fieldLink RX4 75 "WidowPenniesModel" "HIGH" "[I") (by decide +kernel)) (fun _ h9 => h9) dX4_setRate_22 ?_
    refine lv_iload_n hx hb dX4_setRate_25 rfl (lv_at hl 1 rfl) ?_
    refine va_ti (v := .int (highF k)) hx hb hHG.2 hS (vp_in_nI (by omega) (by omega)) (congrArg (fun q9 => Value.int (highF q9)) (clamp_nI (by omega))) dX4_setRate_26 ?_
    refine rd_i (runS0 (As := [.int x, .int 0, .int (highF k)]) (rest := []) ⟨hx, hb, hml, hown, hts⟩ (met_X4_isIn l dC dI cI cW x 0 (highF k)) (va_cwS 3 hts gX4_setRate_X4_isIn rfl rfl rfl (by decide +kernel) ⟨Nat.le_of_ble_eq_true rfl, Nat.le_of_ble_eq_true rfl⟩) hKK nilP rfl hl.1 (Nat.le_of_ble_eq_true rfl) rfl dX4_setRate_27 ⟨Nat.zero_le _, Nat.zero_le _⟩) (fun r_3 hr_3 => ?_)
    subst hr_3
    refine lv_if_ne (tgt := 39) hx hb dX4_setRate_30 (by decide) (fun c_4 => ?_) (fun c_4 => ?_)
    · have bc_4 : 0 ≤ x ∧ x ≤ (highF k) := b1.mp c_4
      refine lv_aload_n hx hb dX4_setRate_39 rfl (lv_at hl 0 rfl) ?_
      refine va_get (D := (dC, dI)) (ci := 4) (v := .ref (M 1)) (C := RX4) (T := TX4) (N := 7) hx hb hts (by decide +kernel) hown hKK.1 hP 0 rfl rfl 2 (by decide) (hts (.fieldLink RX4 7 "WidowPenniesModel" "rates" "[I") (by decide +kernel)) (fun _ h9 => h9) rfl dX4_setRate_40 ?_
      refine lv_iload_n hx hb dX4_setRate_43 rfl (lv_at hl 1 rfl) ?_
      refine va_iald hx hb hKK.1 hP 1 0 rfl rfl (vp_in_nI (by omega) (by omega)) dX4_setRate_44 ?_
      rw [show r (nI k).toNatClampNeg = r k from congrArg r (clamp_nI (by omega))]
      refine lv_istore_n (lv' := [(3, .int (r k)), (0, .ref (M 0)), (1, .int (nI k)), (2, .int x)]) hx hb dX4_setRate_45 rfl hl (by decide) rfl (fun ls hl => ?_)
      refine lv_aload_n hx hb dX4_setRate_46 rfl (lv_at hl 1 rfl) ?_
      refine va_get (D := (dC, dI)) (ci := 4) (v := .ref (M 1)) (C := RX4) (T := TX4) (N := 7) hx hb hts (by decide +kernel) hown hKK.1 hP 0 rfl rfl 2 (by decide) (hts (.fieldLink RX4 7 "WidowPenniesModel" "rates" "[I") (by decide +kernel)) (fun _ h9 => h9) rfl dX4_setRate_47 ?_
      refine lv_iload_n hx hb dX4_setRate_50 rfl (lv_at hl 2 rfl) ?_
      refine lv_iload_n hx hb dX4_setRate_51 rfl (lv_at hl 3 rfl) ?_
      refine va_iast hx hb hKK.1 hP hD hS 1 0 rfl rfl (vp_in_nI (by omega) (by omega)) dX4_setRate_52 (fun H locs hP hD hS => ?_)
      rw [clamp_nI (show k < 2147483648 by omega)] at hP hD
      have hP : va_P (dC, dI) vwCl (mw cI M 0 n d (upd r k x) Wd ch pd yr (WT d (r 0)) ++ R) H := hP
      have hD : va_D A (mw cI M 0 n d (upd r k x) Wd ch pd yr (WT d (r 0)) ++ R) := hD
      refine lv_aload_n hx hb dX4_setRate_53 rfl (lv_at hl 1 rfl) ?_
      refine wr_v (runV1 (As := []) (rest := []) ⟨hx, hb, hml, hown, hts⟩ (met_X4_reckon l dC dI cI cW M 0 n d (upd r k x) Wd ch pd yr (WT d (r 0)) R (WT_zero d (r 0)) hi _) (cwV 0 hts gX4_setRate_X4_reckon rfl rfl rfl (by decide +kernel) ⟨Nat.le_of_ble_eq_true rfl, Nat.le_of_ble_eq_true rfl⟩) hKK hP hD 4 0 rfl rfl rfl hl.1 (Nat.le_of_ble_eq_true rfl) rfl dX4_setRate_54 ⟨Nat.zero_le _, Nat.zero_le _⟩) hD hS hA (fun H locs hP hD hS => ?_)
      have hP : va_P (dC, dI) vwCl (mw cI M 0 n d (upd r k x) Wd ch pd yr (WT d ((upd r k x) 0)) ++ R) H := hP
      have hD : va_D A (mw cI M 0 n d (upd r k x) Wd ch pd yr (WT d ((upd r k x) 0)) ++ R) := hD
      refine lv_iload_n hx hb dX4_setRate_57 rfl (lv_at hl 0 rfl) ?_
      have hP9 : va_P (dC, dI) vwCl (mw cI M 0 n d (upd r k x) Wd ch pd yr (WT d ((upd r k x) 0)) ++ R) _ := hP
      have hD9 : va_D A (mw cI M 0 n d (upd r k x) Wd ch pd yr (WT d ((upd r k x) 0)) ++ R) := hD
      have hz : r k = r k := rfl
      exact W.iret (v := (r k)) hx hb hr (fun t ht hW => ⟨⟨_, (), rfl, hz, by rw [ht]; exact hP9, by rw [hAe]; exact hD9⟩, by rw [hAe]; exact hS.F ht⟩) hS.2.2 dX4_setRate_58
    · have bc_4 : ¬ (0 ≤ x ∧ x ≤ (highF k)) := b0.mp c_4
      exact absurd h4 bc_4
  · have bc_2 : ¬ (0 ≤ (nI k) ∧ (nI k) ≤ 2) := b0.mp c_2
    exact absurd (int_in (lo := 0) (hi := 2) (Nat.zero_le _) (by omega) (by omega)) bc_2
set_option maxHeartbeats 4000000 in
set_option maxRecDepth 100000 in
theorem met1_X4_setRate (l : Launch) (dC : Nat → ClassId) (dI : Nat → Nat → Nat) (cI cW : ClassId) (M : Nat → Nat) (th : Int32) (n : Nat) (d r : Nat → Int32) (Wd : Nat → Nat → Int32) (ch pd yr : Int32) (R : va_W) (a x : Int32) (h9 : ¬ (0 ≤ a ∧ a ≤ 2)) (sz : Nat) : Met l yX4_setRate wsX4_setRate ({ frames := 1, cells := 0, slots := 0, locals := 23 }) (Pre1 dC dI cI cW [.ref (M 0), .int a, .int x] (mw cI M th n d r Wd ch pd yr (WT d (r 0)) ++ R) sz) (Qi1 dC dI (fun z => z = 0) (mw cI M th n d r Wd ch pd yr (WT d (r 0)) ++ R) (mw cI M 1 n d r Wd ch pd yr (WT d (r 0)) ++ R) sz) 0 0 (va_A (mw cI M th n d r Wd ch pd yr (WT d (r 0)) ++ R) sz) := by
  refine Met.ofW (cc := cX4_setRate) (maxL := 4) (ret := (some .int)) (by decide) rfl ?_
  intro p e s m args below meth c s₁ B hml hv
  obtain ⟨rfl, hsz, hP, hD0, hKK⟩ := hv
  subst hsz
  have hx := B.exec
  have hb := B.bytes
  have hr := B.returns
  have hts := atoms_spec (ws := wsX4_setRate) B.pre
  have hown : s.vm.findClass RX4 = some m.cls := findClass_of_methodNamed B.named
  have hlocks := B.notSynchronized
  have hD := hD0.self (sz := s.heap.size)
  generalize hAe : va_A (mw cI M th n d r Wd ch pd yr (WT d (r 0)) ++ R) s.heap.size = A at hD ⊢
  have hA : ∀ q : Nat, s.heap.size ≤ q → A q := fun q h => by rw [← hAe]; exact Or.inr h
  have hS : va_S A s.heap s.heap [] := va_S.rf
  have hl := lv_entry ([.ref (M 0), .int a, .int x]) (n := 4) (Nat.le_of_ble_eq_true rfl)
  rw [lg_entry_eq]
  generalize (lg_sl ([.ref (M 0), .int a, .int x]) ++ List.replicate (4 - (lg_sl ([.ref (M 0), .int a, .int x])).length) Slot.unset).toArray = ls at hl ⊢
  have hl : lv_has ls 4 [(0, .ref (M 0)), (1, .int a), (2, .int x)] := hl
  refine lv_aload_n hx hb dX4_setRate_0 rfl (lv_at hl 0 rfl) ?_
  refine lv_iconst (v := 0) hx hb dX4_setRate_1 (by decide) ?_
  refine va_put (D := (dC, dI)) (ci := 4) (v := .int 0) (ty := .int) (C := RX4) (T := TX4) (N := 7) hx hb hts (by decide +kernel) tyX4 tyX4_ok nmX4 hown hKK.1 hP hD hS 0 rfl rfl 0 (by decide) (hts (.fieldLink RX4 28 "WidowPenniesModel" "thrown" "I") (by decide +kernel)) (fun _ h9 => h9) rfl (by decide +kernel) rfl rfl (Nat.le_of_ble_eq_true rfl) dX4_setRate_2 (fun H locs hP hD hS => ?_)
  have hP : va_P (dC, dI) vwCl (mw cI M 0 n d r Wd ch pd yr (WT d (r 0)) ++ R) H := hP
  have hD : va_D A (mw cI M 0 n d r Wd ch pd yr (WT d (r 0)) ++ R) := hD
  refine lv_iload_n hx hb dX4_setRate_5 rfl (lv_at hl 1 rfl) ?_
  refine lv_iconst (v := 0) hx hb dX4_setRate_6 (by decide) ?_
  refine lv_iconst (v := 2) hx hb dX4_setRate_7 (by decide) ?_
  refine rd_i (runS0 (As := [.int a, .int 0, .int 2]) (rest := []) ⟨hx, hb, hml, hown, hts⟩ (met_X4_isIn l dC dI cI cW a 0 2) (va_cwS 3 hts gX4_setRate_X4_isIn rfl rfl rfl (by decide +kernel) ⟨Nat.le_of_ble_eq_true rfl, Nat.le_of_ble_eq_true rfl⟩) hKK nilP rfl hl.1 (Nat.le_of_ble_eq_true rfl) rfl dX4_setRate_8 ⟨Nat.zero_le _, Nat.zero_le _⟩) (fun r_1 hr_1 => ?_)
  subst hr_1
  refine lv_if_ne (tgt := 20) hx hb dX4_setRate_11 (by decide) (fun c_2 => ?_) (fun c_2 => ?_)
  · have bc_2 : 0 ≤ a ∧ a ≤ 2 := b1.mp c_2
    exact (h9 bc_2).elim
  · have bc_2 : ¬ (0 ≤ a ∧ a ≤ 2) := b0.mp c_2
    refine lv_aload_n hx hb dX4_setRate_14 rfl (lv_at hl 0 rfl) ?_
    refine lv_iconst (v := 1) hx hb dX4_setRate_15 (by decide) ?_
    refine wr_i (runV1 (As := [.int 1]) (rest := []) ⟨hx, hb, hml, hown, hts⟩ (met_X4_fail l dC dI cI cW M 0 n d r Wd ch pd yr (WT d (r 0)) R 1 _) (cwV 1 hts gX4_setRate_X4_fail rfl rfl rfl (by decide +kernel) ⟨Nat.le_of_ble_eq_true rfl, Nat.le_of_ble_eq_true rfl⟩) hKK hP hD 4 0 rfl rfl rfl hl.1 (Nat.le_of_ble_eq_true rfl) rfl dX4_setRate_16 ⟨Nat.zero_le _, Nat.zero_le _⟩) hD hS hA (fun r_3 H locs hr_3 hP hD hS => ?_)
    subst hr_3
    have hP : va_P (dC, dI) vwCl (mw cI M 1 n d r Wd ch pd yr (WT d (r 0)) ++ R) H := hP
    have hD : va_D A (mw cI M 1 n d r Wd ch pd yr (WT d (r 0)) ++ R) := hD
    have hP9 : va_P (dC, dI) vwCl (mw cI M 1 n d r Wd ch pd yr (WT d (r 0)) ++ R) _ := hP
    have hD9 : va_D A (mw cI M 1 n d r Wd ch pd yr (WT d (r 0)) ++ R) := hD
    have hz : (0 : Int32) = 0 := rfl
    exact W.iret (v := 0) hx hb hr (fun t ht hW => ⟨⟨_, (), rfl, hz, by rw [ht]; exact hP9, by rw [hAe]; exact hD9⟩, by rw [hAe]; exact hS.F ht⟩) hS.2.2 dX4_setRate_19
set_option maxHeartbeats 4000000 in
set_option maxRecDepth 100000 in
theorem met2_X4_setRate (l : Launch) (dC : Nat → ClassId) (dI : Nat → Nat → Nat) (cI cW : ClassId) (t : Nat) (M : Nat → Nat) (th : Int32) (n : Nat) (d r : Nat → Int32) (Wd : Nat → Nat → Int32) (ch pd yr : Int32) (R : va_W) (k : Nat) (hk : k < 3) (x : Int32) (h9 : ¬ (0 ≤ x ∧ x ≤ (if k = 0 then (200 : Int32) else 50))) (sz : Nat) : Met l yX4_setRate wsX4_setRate ({ frames := 1, cells := 0, slots := 0, locals := 23 }) (PreH dC dI cI cW t [.ref (M 0), .int (nI k), .int x] (mw cI M th n d r Wd ch pd yr (WT d (r 0)) ++ R) sz) (Qi1 dC dI (fun z => z = 0) (mw cI M th n d r Wd ch pd yr (WT d (r 0)) ++ R) (mw cI M 2 n d r Wd ch pd yr (WT d (r 0)) ++ R) sz) 0 0 (va_A (mw cI M th n d r Wd ch pd yr (WT d (r 0)) ++ R) sz) := by
  refine Met.ofW (cc := cX4_setRate) (maxL := 4) (ret := (some .int)) (by decide) rfl ?_
  intro p e s m args below meth c s₁ B hml hv
  obtain ⟨rfl, hsz, hP, hD0, hKK, hHG⟩ := hv
  subst hsz
  have hx := B.exec
  have hb := B.bytes
  have hr := B.returns
  have hts := atoms_spec (ws := wsX4_setRate) B.pre
  have hown : s.vm.findClass RX4 = some m.cls := findClass_of_methodNamed B.named
  have hlocks := B.notSynchronized
  have hD := hD0.self (sz := s.heap.size)
  generalize hAe : va_A (mw cI M th n d r Wd ch pd yr (WT d (r 0)) ++ R) s.heap.size = A at hD ⊢
  rw [hAe] at hHG
  have hA : ∀ q : Nat, s.heap.size ≤ q → A q := fun q h => by rw [← hAe]; exact Or.inr h
  have hS : va_S A s.heap s.heap [] := va_S.rf
  have hl := lv_entry ([.ref (M 0), .int (nI k), .int x]) (n := 4) (Nat.le_of_ble_eq_true rfl)
  rw [lg_entry_eq]
  generalize (lg_sl ([.ref (M 0), .int (nI k), .int x]) ++ List.replicate (4 - (lg_sl ([.ref (M 0), .int (nI k), .int x])).length) Slot.unset).toArray = ls at hl ⊢
  have hl : lv_has ls 4 [(0, .ref (M 0)), (1, .int (nI k)), (2, .int x)] := hl
  refine lv_aload_n hx hb dX4_setRate_0 rfl (lv_at hl 0 rfl) ?_
  refine lv_iconst (v := 0) hx hb dX4_setRate_1 (by decide) ?_
  refine va_put (D := (dC, dI)) (ci := 4) (v := .int 0) (ty := .int) (C := RX4) (T := TX4) (N := 7) hx hb hts (by decide +kernel) tyX4 tyX4_ok nmX4 hown hKK.1 hP hD hS 0 rfl rfl 0 (by decide) (hts (.fieldLink RX4 28 "WidowPenniesModel" "thrown" "I") (by decide +kernel)) (fun _ h9 => h9) rfl (by decide +kernel) rfl rfl (Nat.le_of_ble_eq_true rfl) dX4_setRate_2 (fun H locs hP hD hS => ?_)
  have hP : va_P (dC, dI) vwCl (mw cI M 0 n d r Wd ch pd yr (WT d (r 0)) ++ R) H := hP
  have hD : va_D A (mw cI M 0 n d r Wd ch pd yr (WT d (r 0)) ++ R) := hD
  refine lv_iload_n hx hb dX4_setRate_5 rfl (lv_at hl 1 rfl) ?_
  refine lv_iconst (v := 0) hx hb dX4_setRate_6 (by decide) ?_
  refine lv_iconst (v := 2) hx hb dX4_setRate_7 (by decide) ?_
  refine rd_i (runS0 (As := [.int (nI k), .int 0, .int 2]) (rest := []) ⟨hx, hb, hml, hown, hts⟩ (met_X4_isIn l dC dI cI cW (nI k) 0 2) (va_cwS 3 hts gX4_setRate_X4_isIn rfl rfl rfl (by decide +kernel) ⟨Nat.le_of_ble_eq_true rfl, Nat.le_of_ble_eq_true rfl⟩) hKK nilP rfl hl.1 (Nat.le_of_ble_eq_true rfl) rfl dX4_setRate_8 ⟨Nat.zero_le _, Nat.zero_le _⟩) (fun r_1 hr_1 => ?_)
  subst hr_1
  refine lv_if_ne (tgt := 20) hx hb dX4_setRate_11 (by decide) (fun c_2 => ?_) (fun c_2 => ?_)
  · have bc_2 : 0 ≤ (nI k) ∧ (nI k) ≤ 2 := b1.mp c_2
    refine lv_iload_n hx hb dX4_setRate_20 rfl (lv_at hl 2 rfl) ?_
    refine lv_iconst (v := 0) hx hb dX4_setRate_21 (by decide) ?_
    refine va_gets (v := .ref t) hx hb hHG.1 hS hown (hts (.fieldLink RX4 75 "WidowPenniesModel" "HIGH" "[I") (by decide +kernel)) (fun _ h9 => h9) dX4_setRate_22 ?_
    refine lv_iload_n hx hb dX4_setRate_25 rfl (lv_at hl 1 rfl) ?_
    refine va_ti (v := .int (highF k)) hx hb hHG.2 hS (vp_in_nI (by omega) (by omega)) (congrArg (fun q9 => Value.int (highF q9)) (clamp_nI (by omega))) dX4_setRate_26 ?_
    refine rd_i (runS0 (As := [.int x, .int 0, .int (highF k)]) (rest := []) ⟨hx, hb, hml, hown, hts⟩ (met_X4_isIn l dC dI cI cW x 0 (highF k)) (va_cwS 3 hts gX4_setRate_X4_isIn rfl rfl rfl (by decide +kernel) ⟨Nat.le_of_ble_eq_true rfl, Nat.le_of_ble_eq_true rfl⟩) hKK nilP rfl hl.1 (Nat.le_of_ble_eq_true rfl) rfl dX4_setRate_27 ⟨Nat.zero_le _, Nat.zero_le _⟩) (fun r_3 hr_3 => ?_)
    subst hr_3
    refine lv_if_ne (tgt := 39) hx hb dX4_setRate_30 (by decide) (fun c_4 => ?_) (fun c_4 => ?_)
    · have bc_4 : 0 ≤ x ∧ x ≤ (highF k) := b1.mp c_4
      exact (h9 bc_4).elim
    · have bc_4 : ¬ (0 ≤ x ∧ x ≤ (highF k)) := b0.mp c_4
      refine lv_aload_n hx hb dX4_setRate_33 rfl (lv_at hl 0 rfl) ?_
      refine lv_iconst (v := 2) hx hb dX4_setRate_34 (by decide) ?_
      refine wr_i (runV1 (As := [.int 2]) (rest := []) ⟨hx, hb, hml, hown, hts⟩ (met_X4_fail l dC dI cI cW M 0 n d r Wd ch pd yr (WT d (r 0)) R 2 _) (cwV 1 hts gX4_setRate_X4_fail rfl rfl rfl (by decide +kernel) ⟨Nat.le_of_ble_eq_true rfl, Nat.le_of_ble_eq_true rfl⟩) hKK hP hD 4 0 rfl rfl rfl hl.1 (Nat.le_of_ble_eq_true rfl) rfl dX4_setRate_35 ⟨Nat.zero_le _, Nat.zero_le _⟩) hD hS hA (fun r_5 H locs hr_5 hP hD hS => ?_)
      subst hr_5
      have hP : va_P (dC, dI) vwCl (mw cI M 2 n d r Wd ch pd yr (WT d (r 0)) ++ R) H := hP
      have hD : va_D A (mw cI M 2 n d r Wd ch pd yr (WT d (r 0)) ++ R) := hD
      have hP9 : va_P (dC, dI) vwCl (mw cI M 2 n d r Wd ch pd yr (WT d (r 0)) ++ R) _ := hP
      have hD9 : va_D A (mw cI M 2 n d r Wd ch pd yr (WT d (r 0)) ++ R) := hD
      have hz : (0 : Int32) = 0 := rfl
      exact W.iret (v := 0) hx hb hr (fun t ht hW => ⟨⟨_, (), rfl, hz, by rw [ht]; exact hP9, by rw [hAe]; exact hD9⟩, by rw [hAe]; exact hS.F ht⟩) hS.2.2 dX4_setRate_38
  · have bc_2 : ¬ (0 ≤ (nI k) ∧ (nI k) ≤ 2) := b0.mp c_2
    exact absurd (int_in (lo := 0) (hi := 2) (Nat.zero_le _) (by omega) (by omega)) bc_2
set_option maxHeartbeats 4000000 in
set_option maxRecDepth 100000 in
theorem met_X4_buy (l : Launch) (dC : Nat → ClassId) (dI : Nat → Nat → Nat) (cI cW : ClassId) (M : Nat → Nat) (th : Int32) (n : Nat) (d r : Nat → Int32) (Wd : Nat → Nat → Int32) (ch pd yr : Int32) (R : va_W) (hn10 : n < 10) (ka : Nat) (x : Int32) (kb : Nat) (h1 : 50 ≤ ka) (h2 : ka ≤ 99) (hx9 : 1 ≤ x ∧ x ≤ 999) (h3 : kb ≤ 30) (hw : ¬ wN d (r 0) (100 - ka) kb = 0) (sz : Nat) : Met l yX4_buy wsX4_buy ({ frames := 3, cells := 1, slots := 7, locals := 64 }) (Pre1 dC dI cI cW [.ref (M 0), .int (nI ka), .int x, .int (nI kb)] (mw cI M th n d r Wd ch pd yr (WT d (r 0)) ++ R) sz) (Qi1 dC dI (fun z => z = nI n) (mw cI M th n d r Wd ch pd yr (WT d (r 0)) ++ R) (mw cI M 0 (n + 1) d r (upW Wd n (mkW (nI ka) x (nI kb) (priceS (r 1) x (wN d (r 0) (100 - ka) kb)))) (comeS ch (priceS (r 1) x (wN d (r 0) (100 - ka) kb)).toInt64) pd yr (WT d (r 0)) ++ R) sz) 1 7 (va_A (mw cI M th n d r Wd ch pd yr (WT d (r 0)) ++ R) sz) := by
  refine Met.ofW (cc := cX4_buy) (maxL := 6) (ret := (some .int)) (by decide) rfl ?_
  intro p e s m args below meth c s₁ B hml hv
  obtain ⟨rfl, hsz, hP, hD0, hKK⟩ := hv
  subst hsz
  have hx := B.exec
  have hb := B.bytes
  have hr := B.returns
  have hts := atoms_spec (ws := wsX4_buy) B.pre
  have hown : s.vm.findClass RX4 = some m.cls := findClass_of_methodNamed B.named
  have hlocks := B.notSynchronized
  have hD := hD0.self (sz := s.heap.size)
  generalize hAe : va_A (mw cI M th n d r Wd ch pd yr (WT d (r 0)) ++ R) s.heap.size = A at hD ⊢
  have hA : ∀ q : Nat, s.heap.size ≤ q → A q := fun q h => by rw [← hAe]; exact Or.inr h
  have hS : va_S A s.heap s.heap [] := va_S.rf
  have hl := lv_entry ([.ref (M 0), .int (nI ka), .int x, .int (nI kb)]) (n := 6) (Nat.le_of_ble_eq_true rfl)
  rw [lg_entry_eq]
  generalize (lg_sl ([.ref (M 0), .int (nI ka), .int x, .int (nI kb)]) ++ List.replicate (6 - (lg_sl ([.ref (M 0), .int (nI ka), .int x, .int (nI kb)])).length) Slot.unset).toArray = ls at hl ⊢
  have hl : lv_has ls 6 [(0, .ref (M 0)), (1, .int (nI ka)), (2, .int x), (3, .int (nI kb))] := hl
  refine lv_aload_n hx hb dX4_buy_0 rfl (lv_at hl 0 rfl) ?_
  refine lv_iconst (v := 0) hx hb dX4_buy_1 (by decide) ?_
  refine va_put (D := (dC, dI)) (ci := 4) (v := .int 0) (ty := .int) (C := RX4) (T := TX4) (N := 7) hx hb hts (by decide +kernel) tyX4 tyX4_ok nmX4 hown hKK.1 hP hD hS 0 rfl rfl 0 (by decide) (hts (.fieldLink RX4 28 "WidowPenniesModel" "thrown" "I") (by decide +kernel)) (fun _ h9 => h9) rfl (by decide +kernel) rfl rfl (Nat.le_of_ble_eq_true rfl) dX4_buy_2 (fun H locs hP hD hS => ?_)
  have hP : va_P (dC, dI) vwCl (mw cI M 0 n d r Wd ch pd yr (WT d (r 0)) ++ R) H := hP
  have hD : va_D A (mw cI M 0 n d r Wd ch pd yr (WT d (r 0)) ++ R) := hD
  refine lv_iload_n hx hb dX4_buy_5 rfl (lv_at hl 1 rfl) ?_
  refine lv_iload_n hx hb dX4_buy_6 rfl (lv_at hl 2 rfl) ?_
  refine lv_iload_n hx hb dX4_buy_7 rfl (lv_at hl 3 rfl) ?_
  refine rd_i (runS0 (As := [.int (nI ka), .int x, .int (nI kb)]) (rest := []) ⟨hx, hb, hml, hown, hts⟩ (met_X4_isBought l dC dI cI cW (nI ka) x (nI kb)) (va_cwS 3 hts gX4_buy_X4_isBought rfl rfl rfl (by decide +kernel) ⟨Nat.le_of_ble_eq_true rfl, Nat.le_of_ble_eq_true rfl⟩) hKK nilP rfl hl.1 (Nat.le_of_ble_eq_true rfl) rfl dX4_buy_8 ⟨Nat.le_of_ble_eq_true rfl, Nat.le_of_ble_eq_true rfl⟩) (fun r_1 hr_1 => ?_)
  subst hr_1
  refine lv_if_ne (tgt := 20) hx hb dX4_buy_11 (by decide) (fun c_2 => ?_) (fun c_2 => ?_)
  · have bc_2 : (50 ≤ (nI ka) ∧ (nI ka) ≤ 99) ∧ (1 ≤ x ∧ x ≤ 999) ∧ (0 ≤ (nI kb) ∧ (nI kb) ≤ 30) := b1.mp c_2
    refine lv_aload_n hx hb dX4_buy_20 rfl (lv_at hl 0 rfl) ?_
    refine va_get (D := (dC, dI)) (ci := 4) (v := .int (nI n)) (C := RX4) (T := TX4) (N := 7) hx hb hts (by decide +kernel) hown hKK.1 hP 0 rfl rfl 1 (by decide) (hts (.fieldLink RX4 36 "WidowPenniesModel" "widows" "I") (by decide +kernel)) (fun _ h9 => h9) rfl dX4_buy_21 ?_
    refine lv_bipush (v := 10) hx hb dX4_buy_24 (by decide) ?_
    refine lv_icmp_eq (tgt := 38) hx hb dX4_buy_26 (by decide) (fun c_3 => ?_) (fun c_3 => ?_)
    · exact absurd c_3 (fun q9 => absurd ((nI_eq (b := 10) (by omega) (by omega)).mp q9) (by omega))
    · refine lv_aload_n hx hb dX4_buy_29 rfl (lv_at hl 0 rfl) ?_
      refine lv_iload_n hx hb dX4_buy_30 rfl (lv_at hl 1 rfl) ?_
      refine lv_iload_n hx hb dX4_buy_31 rfl (lv_at hl 3 rfl) ?_
      refine rd_i (runV0 (As := [.int (nI ka), .int (nI kb)]) (rest := []) ⟨hx, hb, hml, hown, hts⟩ (met_X4_worthOf l dC dI cI cW M 0 n d r Wd ch pd yr ka kb h1 h2 h3) (cwV 2 hts gX4_buy_X4_worthOf rfl rfl rfl (by decide +kernel) ⟨Nat.le_of_ble_eq_true rfl, Nat.le_of_ble_eq_true rfl⟩) hKK (ws_left hP) 4 0 rfl rfl rfl hl.1 (Nat.le_of_ble_eq_true rfl) rfl dX4_buy_32 ⟨Nat.le_of_ble_eq_true rfl, Nat.le_of_ble_eq_true rfl⟩) (fun r_4 hr_4 => ?_)
      subst hr_4
      refine lv_if_ne (tgt := 44) hx hb dX4_buy_35 (by decide) (fun c_5 => ?_) (fun c_5 => ?_)
      · refine lv_aload_n hx hb dX4_buy_44 rfl (lv_at hl 0 rfl) ?_
        refine lv_iload_n hx hb dX4_buy_45 rfl (lv_at hl 1 rfl) ?_
        refine lv_iload_n hx hb dX4_buy_46 rfl (lv_at hl 2 rfl) ?_
        refine lv_iload_n hx hb dX4_buy_47 rfl (lv_at hl 3 rfl) ?_
        refine rd_i (runV0 (As := [.int (nI ka), .int x, .int (nI kb)]) (rest := []) ⟨hx, hb, hml, hown, hts⟩ (met_X4_priceOf l dC dI cI cW M 0 n d r Wd ch pd yr ka x kb h1 h2 h3) (cwV 3 hts gX4_buy_X4_priceOf rfl rfl rfl (by decide +kernel) ⟨Nat.le_of_ble_eq_true rfl, Nat.le_of_ble_eq_true rfl⟩) hKK (ws_left hP) 4 0 rfl rfl rfl hl.1 (Nat.le_of_ble_eq_true rfl) rfl dX4_buy_48 ⟨Nat.le_of_ble_eq_true rfl, Nat.le_of_ble_eq_true rfl⟩) (fun r_6 hr_6 => ?_)
        subst hr_6
        refine lv_istore (lv' := [(4, .int (priceS (r 1) x (wN d (r 0) (100 - ka) kb))), (0, .ref (M 0)), (1, .int (nI ka)), (2, .int x), (3, .int (nI kb))]) hx hb dX4_buy_51 hl (by decide) rfl (fun ls hl => ?_)
        refine lv_bipush (v := 7) hx hb dX4_buy_53 (by decide) ?_
        refine va_newa (atype := .int) (ty := .int) (a0 := (7, .inl (fun _ => 0))) (N' := 7) hx hb (hts (.arrayClass .int) (by decide +kernel)) rfl hKK.1 hP hD hS hA (fun _ => rfl) (by decide) rfl (by decide) (Nat.le_of_ble_eq_true rfl) (Nat.le_of_ble_eq_true rfl) dX4_buy_55 (fun q7 cA H hK2 hP hD hS => ?_)
        have hcA := cls_int hK2
        rw [hcA] at hP hD
        have hP := va_P_perm (perm_tail (mw cI M 0 n d r Wd ch pd yr (WT d (r 0))) R (q7, .inl (cI, 7, .inl (fun _ => 0)))) hP
        have hD := va_D_perm (perm_tail (mw cI M 0 n d r Wd ch pd yr (WT d (r 0))) R (q7, .inl (cI, 7, .inl (fun _ => 0)))) hD
        refine lv_dup hx hb dX4_buy_57 rfl ?_
        refine lv_iconst (v := 0) hx hb dX4_buy_58 (by decide) ?_
        refine lv_iload_n hx hb dX4_buy_59 rfl (lv_at hl 2 rfl) ?_
        refine va_iast hx hb hKK.1 hP hD hS 6 0 rfl rfl (vp_in_nI (n := 0) (by omega) (by omega)) dX4_buy_60 (fun H locs hP hD hS => ?_)
        rw [show (0 : Int32).toNatClampNeg = 0 from rfl] at hP hD
        have hP : va_P (dC, dI) vwCl (mw cI M 0 n d r Wd ch pd yr (WT d (r 0)) ++ ((q7, .inl (cI, 7, .inl (upd (fun _ => 0) 0 (nI ka)))) :: R)) H := hP
        have hD : va_D A (mw cI M 0 n d r Wd ch pd yr (WT d (r 0)) ++ ((q7, .inl (cI, 7, .inl (upd (fun _ => 0) 0 (nI ka)))) :: R)) := hD
        refine lv_dup hx hb dX4_buy_61 rfl ?_
        refine lv_iconst (v := 1) hx hb dX4_buy_62 (by decide) ?_
        refine lv_iload_n hx hb dX4_buy_63 rfl (lv_at hl 3 rfl) ?_
        refine va_iast hx hb hKK.1 hP hD hS 6 0 rfl rfl (vp_in_nI (n := 1) (by omega) (by omega)) dX4_buy_64 (fun H locs hP hD hS => ?_)
        rw [show (1 : Int32).toNatClampNeg = 1 from rfl] at hP hD
        have hP : va_P (dC, dI) vwCl (mw cI M 0 n d r Wd ch pd yr (WT d (r 0)) ++ ((q7, .inl (cI, 7, .inl (upd (upd (fun _ => 0) 0 (nI ka)) 1 x))) :: R)) H := hP
        have hD : va_D A (mw cI M 0 n d r Wd ch pd yr (WT d (r 0)) ++ ((q7, .inl (cI, 7, .inl (upd (upd (fun _ => 0) 0 (nI ka)) 1 x))) :: R)) := hD
        refine lv_dup hx hb dX4_buy_65 rfl ?_
        refine lv_iconst (v := 2) hx hb dX4_buy_66 (by decide) ?_
        refine lv_iload_n hx hb dX4_buy_67 rfl (lv_at hl 4 rfl) ?_
        refine va_iast hx hb hKK.1 hP hD hS 6 0 rfl rfl (vp_in_nI (n := 2) (by omega) (by omega)) dX4_buy_68 (fun H locs hP hD hS => ?_)
        rw [show (2 : Int32).toNatClampNeg = 2 from rfl] at hP hD
        have hP : va_P (dC, dI) vwCl (mw cI M 0 n d r Wd ch pd yr (WT d (r 0)) ++ ((q7, .inl (cI, 7, .inl (upd (upd (upd (fun _ => 0) 0 (nI ka)) 1 x) 2 (nI kb)))) :: R)) H := hP
        have hD : va_D A (mw cI M 0 n d r Wd ch pd yr (WT d (r 0)) ++ ((q7, .inl (cI, 7, .inl (upd (upd (upd (fun _ => 0) 0 (nI ka)) 1 x) 2 (nI kb)))) :: R)) := hD
        refine lv_dup hx hb dX4_buy_69 rfl ?_
        refine lv_iconst (v := 3) hx hb dX4_buy_70 (by decide) ?_
        refine lv_iconst (v := 0) hx hb dX4_buy_71 (by decide) ?_
        refine va_iast hx hb hKK.1 hP hD hS 6 0 rfl rfl (vp_in_nI (n := 3) (by omega) (by omega)) dX4_buy_72 (fun H locs hP hD hS => ?_)
        rw [show (3 : Int32).toNatClampNeg = 3 from rfl] at hP hD
        have hP : va_P (dC, dI) vwCl (mw cI M 0 n d r Wd ch pd yr (WT d (r 0)) ++ ((q7, .inl (cI, 7, .inl (upd (upd (upd (upd (fun _ => 0) 0 (nI ka)) 1 x) 2 (nI kb)) 3 0))) :: R)) H := hP
        have hD : va_D A (mw cI M 0 n d r Wd ch pd yr (WT d (r 0)) ++ ((q7, .inl (cI, 7, .inl (upd (upd (upd (upd (fun _ => 0) 0 (nI ka)) 1 x) 2 (nI kb)) 3 0))) :: R)) := hD
        refine lv_dup hx hb dX4_buy_73 rfl ?_
        refine lv_iconst (v := 4) hx hb dX4_buy_74 (by decide) ?_
        refine lv_iconst (v := 0) hx hb dX4_buy_75 (by decide) ?_
        refine va_iast hx hb hKK.1 hP hD hS 6 0 rfl rfl (vp_in_nI (n := 4) (by omega) (by omega)) dX4_buy_76 (fun H locs hP hD hS => ?_)
        rw [show (4 : Int32).toNatClampNeg = 4 from rfl] at hP hD
        have hP : va_P (dC, dI) vwCl (mw cI M 0 n d r Wd ch pd yr (WT d (r 0)) ++ ((q7, .inl (cI, 7, .inl (upd (upd (upd (upd (upd (fun _ => 0) 0 (nI ka)) 1 x) 2 (nI kb)) 3 0) 4 0))) :: R)) H := hP
        have hD : va_D A (mw cI M 0 n d r Wd ch pd yr (WT d (r 0)) ++ ((q7, .inl (cI, 7, .inl (upd (upd (upd (upd (upd (fun _ => 0) 0 (nI ka)) 1 x) 2 (nI kb)) 3 0) 4 0))) :: R)) := hD
        refine lv_dup hx hb dX4_buy_77 rfl ?_
        refine lv_iconst (v := 5) hx hb dX4_buy_78 (by decide) ?_
        refine lv_iconst (v := 0) hx hb dX4_buy_79 (by decide) ?_
        refine va_iast hx hb hKK.1 hP hD hS 6 0 rfl rfl (vp_in_nI (n := 5) (by omega) (by omega)) dX4_buy_80 (fun H locs hP hD hS => ?_)
        rw [show (5 : Int32).toNatClampNeg = 5 from rfl] at hP hD
        have hP : va_P (dC, dI) vwCl (mw cI M 0 n d r Wd ch pd yr (WT d (r 0)) ++ ((q7, .inl (cI, 7, .inl (upd (upd (upd (upd (upd (upd (fun _ => 0) 0 (nI ka)) 1 x) 2 (nI kb)) 3 0) 4 0) 5 0))) :: R)) H := hP
        have hD : va_D A (mw cI M 0 n d r Wd ch pd yr (WT d (r 0)) ++ ((q7, .inl (cI, 7, .inl (upd (upd (upd (upd (upd (upd (fun _ => 0) 0 (nI ka)) 1 x) 2 (nI kb)) 3 0) 4 0) 5 0))) :: R)) := hD
        refine lv_dup hx hb dX4_buy_81 rfl ?_
        refine lv_bipush (v := 6) hx hb dX4_buy_82 (by decide) ?_
        refine lv_iload hx hb dX4_buy_84 (lv_at hl 0 rfl) ?_
        refine va_iast hx hb hKK.1 hP hD hS 6 0 rfl rfl (vp_in_nI (n := 6) (by omega) (by omega)) dX4_buy_86 (fun H locs hP hD hS => ?_)
        rw [show (6 : Int32).toNatClampNeg = 6 from rfl] at hP hD
        have hP : va_P (dC, dI) vwCl (mw cI M 0 n d r Wd ch pd yr (WT d (r 0)) ++ ((q7, .inl (cI, 7, .inl (upd (upd (upd (upd (upd (upd (upd (fun _ => 0) 0 (nI ka)) 1 x) 2 (nI kb)) 3 0) 4 0) 5 0) 6 (priceS (r 1) x (wN d (r 0) (100 - ka) kb))))) :: R)) H := hP
        have hD : va_D A (mw cI M 0 n d r Wd ch pd yr (WT d (r 0)) ++ ((q7, .inl (cI, 7, .inl (upd (upd (upd (upd (upd (upd (upd (fun _ => 0) 0 (nI ka)) 1 x) 2 (nI kb)) 3 0) 4 0) 5 0) 6 (priceS (r 1) x (wN d (r 0) (100 - ka) kb))))) :: R)) := hD
        refine lv_astore (lv' := [(5, .ref q7), (4, .int (priceS (r 1) x (wN d (r 0) (100 - ka) kb))), (0, .ref (M 0)), (1, .int (nI ka)), (2, .int x), (3, .int (nI kb))]) hx hb dX4_buy_87 hl (by decide) rfl (fun ls hl => ?_)
        refine lv_aload hx hb dX4_buy_89 (lv_at hl 0 rfl) ?_
        refine lv_iconst (v := 0) hx hb dX4_buy_91 (by decide) ?_
        refine lv_aload_n hx hb dX4_buy_92 rfl (lv_at hl 2 rfl) ?_
        refine va_get (D := (dC, dI)) (ci := 4) (v := .ref (M 3)) (C := RX4) (T := TX4) (N := 7) hx hb hts (by decide +kernel) hown hKK.1 hP 0 rfl rfl 4 (by decide) (hts (.fieldLink RX4 16 "WidowPenniesModel" "rows" "[I") (by decide +kernel)) (fun _ h9 => h9) rfl dX4_buy_93 ?_
        refine lv_bipush (v := 7) hx hb dX4_buy_96 (by decide) ?_
        refine lv_aload_n hx hb dX4_buy_98 rfl (lv_at hl 2 rfl) ?_
        refine va_get (D := (dC, dI)) (ci := 4) (v := .int (nI n)) (C := RX4) (T := TX4) (N := 7) hx hb hts (by decide +kernel) hown hKK.1 hP 0 rfl rfl 1 (by decide) (hts (.fieldLink RX4 36 "WidowPenniesModel" "widows" "I") (by decide +kernel)) (fun _ h9 => h9) rfl dX4_buy_99 ?_
        refine lv_imul hx hb dX4_buy_102 ?_
        rw [show (7 * (nI n) : Int32) = nI (7 * n) from pk_mul 7 n]
        refine lv_bipush (v := 7) hx hb dX4_buy_103 (by decide) ?_
        refine va_copyi hx hb (hml.trans hl.1.symm) hown (hts (.methodLink RX4 91 arraycopyName) (by decide +kernel)) (hts (.native arraycopyName) (by decide +kernel)) (hts (.static arraycopyName) (by decide +kernel)) (hts (.initialized "java/lang/System") (by decide +kernel)) hKK.1 hP hD hS 6 3 0 0 rfl rfl rfl rfl rfl (by decide) (nI_pos (by omega)) (by decide) (by decide) (by rw [clamp_nI (show 7 * n < 2147483648 by omega)]; show 7 * n + 7 ≤ 70; omega) (fun _ _ => rfl) (Nat.le_of_ble_eq_true rfl) (Nat.le_of_ble_eq_true rfl) dX4_buy_105 (fun H locs hP hD hS => ?_)
        rw [clamp_nI (show 7 * n < 2147483648 by omega), show (0 : Int32).toNatClampNeg = 0 from rfl, show (7 : Int32).toNatClampNeg = 7 from rfl, cpy_row (upd (upd (upd (upd (upd (upd (upd (fun _ => 0) 0 (nI ka)) 1 x) 2 (nI kb)) 3 0) 4 0) 5 0) 6 (priceS (r 1) x (wN d (r 0) (100 - ka) kb))) Wd n (mkW (nI ka) x (nI kb) (priceS (r 1) x (wN d (r 0) (100 - ka) kb))) (fun i9 hi9 => by rcases (show i9 = 0 ∨ i9 = 1 ∨ i9 = 2 ∨ i9 = 3 ∨ i9 = 4 ∨ i9 = 5 ∨ i9 = 6 by omega) with rfl | rfl | rfl | rfl | rfl | rfl | rfl <;> rfl)] at hP hD
        have hP : va_P (dC, dI) vwCl (mw cI M 0 n d r (upW Wd n (mkW (nI ka) x (nI kb) (priceS (r 1) x (wN d (r 0) (100 - ka) kb)))) ch pd yr (WT d (r 0)) ++ ((q7, .inl (cI, 7, .inl (upd (upd (upd (upd (upd (upd (upd (fun _ => 0) 0 (nI ka)) 1 x) 2 (nI kb)) 3 0) 4 0) 5 0) 6 (priceS (r 1) x (wN d (r 0) (100 - ka) kb))))) :: R)) H := hP
        have hD : va_D A (mw cI M 0 n d r (upW Wd n (mkW (nI ka) x (nI kb) (priceS (r 1) x (wN d (r 0) (100 - ka) kb)))) ch pd yr (WT d (r 0)) ++ ((q7, .inl (cI, 7, .inl (upd (upd (upd (upd (upd (upd (upd (fun _ => 0) 0 (nI ka)) 1 x) 2 (nI kb)) 3 0) 4 0) 5 0) 6 (priceS (r 1) x (wN d (r 0) (100 - ka) kb))))) :: R)) := hD
        refine lv_aload_n hx hb dX4_buy_108 rfl (lv_at hl 2 rfl) ?_
        refine lv_dup hx hb dX4_buy_109 rfl ?_
        refine va_get (D := (dC, dI)) (ci := 4) (v := .int (nI n)) (C := RX4) (T := TX4) (N := 7) hx hb hts (by decide +kernel) hown hKK.1 hP 0 rfl rfl 1 (by decide) (hts (.fieldLink RX4 36 "WidowPenniesModel" "widows" "I") (by decide +kernel)) (fun _ h9 => h9) rfl dX4_buy_110 ?_
        refine lv_iconst (v := 1) hx hb dX4_buy_113 (by decide) ?_
        refine lv_iadd hx hb dX4_buy_114 ?_
        rw [show ((nI n) + 1 : Int32) = nI (n + 1) from nI_1 n]
        refine va_put (D := (dC, dI)) (ci := 4) (v := .int (nI (n + 1))) (ty := .int) (C := RX4) (T := TX4) (N := 7) hx hb hts (by decide +kernel) tyX4 tyX4_ok nmX4 hown hKK.1 hP hD hS 0 rfl rfl 1 (by decide) (hts (.fieldLink RX4 36 "WidowPenniesModel" "widows" "I") (by decide +kernel)) (fun _ h9 => h9) rfl (by decide +kernel) rfl rfl (Nat.le_of_ble_eq_true rfl) dX4_buy_115 (fun H locs hP hD hS => ?_)
        have hP : va_P (dC, dI) vwCl (mw cI M 0 (n + 1) d r (upW Wd n (mkW (nI ka) x (nI kb) (priceS (r 1) x (wN d (r 0) (100 - ka) kb)))) ch pd yr (WT d (r 0)) ++ ((q7, .inl (cI, 7, .inl (upd (upd (upd (upd (upd (upd (upd (fun _ => 0) 0 (nI ka)) 1 x) 2 (nI kb)) 3 0) 4 0) 5 0) 6 (priceS (r 1) x (wN d (r 0) (100 - ka) kb))))) :: R)) H := hP
        have hD : va_D A (mw cI M 0 (n + 1) d r (upW Wd n (mkW (nI ka) x (nI kb) (priceS (r 1) x (wN d (r 0) (100 - ka) kb)))) ch pd yr (WT d (r 0)) ++ ((q7, .inl (cI, 7, .inl (upd (upd (upd (upd (upd (upd (upd (fun _ => 0) 0 (nI ka)) 1 x) 2 (nI kb)) 3 0) 4 0) 5 0) 6 (priceS (r 1) x (wN d (r 0) (100 - ka) kb))))) :: R)) := hD
        refine lv_aload_n hx hb dX4_buy_118 rfl (lv_at hl 2 rfl) ?_
        refine lv_iload hx hb dX4_buy_119 (lv_at hl 1 rfl) ?_
        refine lv_i2l hx hb dX4_buy_121 rfl ?_
        refine wr_v (runV1 (As := [.long ((priceS (r 1) x (wN d (r 0) (100 - ka) kb)).toInt64)]) (rest := []) ⟨hx, hb, hml, hown, hts⟩ (met_X4_comeIn l dC dI cI cW M 0 (n + 1) d r (upW Wd n (mkW (nI ka) x (nI kb) (priceS (r 1) x (wN d (r 0) (100 - ka) kb)))) ch pd yr (WT d (r 0)) ((q7, .inl (cI, 7, .inl (upd (upd (upd (upd (upd (upd (upd (fun _ => 0) 0 (nI ka)) 1 x) 2 (nI kb)) 3 0) 4 0) 5 0) 6 (priceS (r 1) x (wN d (r 0) (100 - ka) kb))))) :: R) ((priceS (r 1) x (wN d (r 0) (100 - ka) kb)).toInt64) _) (cwV 1 hts gX4_buy_X4_comeIn rfl rfl rfl (by decide +kernel) ⟨Nat.le_of_ble_eq_true rfl, Nat.le_of_ble_eq_true rfl⟩) hKK hP hD 4 0 rfl rfl rfl hl.1 (Nat.le_of_ble_eq_true rfl) rfl dX4_buy_122 ⟨Nat.le_of_ble_eq_true rfl, Nat.le_of_ble_eq_true rfl⟩) hD hS hA (fun H locs hP hD hS => ?_)
        have hP : va_P (dC, dI) vwCl (mw cI M 0 (n + 1) d r (upW Wd n (mkW (nI ka) x (nI kb) (priceS (r 1) x (wN d (r 0) (100 - ka) kb)))) (comeS ch ((priceS (r 1) x (wN d (r 0) (100 - ka) kb)).toInt64)) pd yr (WT d (r 0)) ++ ((q7, .inl (cI, 7, .inl (upd (upd (upd (upd (upd (upd (upd (fun _ => 0) 0 (nI ka)) 1 x) 2 (nI kb)) 3 0) 4 0) 5 0) 6 (priceS (r 1) x (wN d (r 0) (100 - ka) kb))))) :: R)) H := hP
        have hD : va_D A (mw cI M 0 (n + 1) d r (upW Wd n (mkW (nI ka) x (nI kb) (priceS (r 1) x (wN d (r 0) (100 - ka) kb)))) (comeS ch ((priceS (r 1) x (wN d (r 0) (100 - ka) kb)).toInt64)) pd yr (WT d (r 0)) ++ ((q7, .inl (cI, 7, .inl (upd (upd (upd (upd (upd (upd (upd (fun _ => 0) 0 (nI ka)) 1 x) 2 (nI kb)) 3 0) 4 0) 5 0) 6 (priceS (r 1) x (wN d (r 0) (100 - ka) kb))))) :: R)) := hD
        refine lv_aload_n hx hb dX4_buy_125 rfl (lv_at hl 2 rfl) ?_
        refine va_get (D := (dC, dI)) (ci := 4) (v := .int (nI (n + 1))) (C := RX4) (T := TX4) (N := 7) hx hb hts (by decide +kernel) hown hKK.1 hP 0 rfl rfl 1 (by decide) (hts (.fieldLink RX4 36 "WidowPenniesModel" "widows" "I") (by decide +kernel)) (fun _ h9 => h9) rfl dX4_buy_126 ?_
        refine lv_iconst (v := 1) hx hb dX4_buy_129 (by decide) ?_
        refine lv_isub hx hb dX4_buy_130 ?_
        rw [show ((nI (n + 1)) - 1 : Int32) = nI n from nI_sub1 n]
        have hP9 : va_P (dC, dI) vwCl (mw cI M 0 (n + 1) d r (upW Wd n (mkW (nI ka) x (nI kb) (priceS (r 1) x (wN d (r 0) (100 - ka) kb)))) (comeS ch ((priceS (r 1) x (wN d (r 0) (100 - ka) kb)).toInt64)) pd yr (WT d (r 0)) ++ ((q7, .inl (cI, 7, .inl (upd (upd (upd (upd (upd (upd (upd (fun _ => 0) 0 (nI ka)) 1 x) 2 (nI kb)) 3 0) 4 0) 5 0) 6 (priceS (r 1) x (wN d (r 0) (100 - ka) kb))))) :: R)) _ := hP
        have hD9 : va_D A (mw cI M 0 (n + 1) d r (upW Wd n (mkW (nI ka) x (nI kb) (priceS (r 1) x (wN d (r 0) (100 - ka) kb)))) (comeS ch ((priceS (r 1) x (wN d (r 0) (100 - ka) kb)).toInt64)) pd yr (WT d (r 0)) ++ ((q7, .inl (cI, 7, .inl (upd (upd (upd (upd (upd (upd (upd (fun _ => 0) 0 (nI ka)) 1 x) 2 (nI kb)) 3 0) 4 0) 5 0) 6 (priceS (r 1) x (wN d (r 0) (100 - ka) kb))))) :: R)) := hD
        have hP9 := va_P_drop hP9
        have hD9 := va_D_drop hD9
        have hz : (nI n : Int32) = nI n := rfl
        exact W.iret (v := (nI n)) hx hb hr (fun t ht hW => ⟨⟨_, (), rfl, hz, by rw [ht]; exact hP9, by rw [hAe]; exact hD9⟩, by rw [hAe]; exact hS.F ht⟩) hS.2.2 dX4_buy_131
      · exact absurd c_5 hw
  · have bc_2 : ¬ ((50 ≤ (nI ka) ∧ (nI ka) ≤ 99) ∧ (1 ≤ x ∧ x ≤ 999) ∧ (0 ≤ (nI kb) ∧ (nI kb) ≤ 30)) := b0.mp c_2
    exact absurd ⟨age_in h1 h2, hx9, put_in h3⟩ bc_2
set_option maxHeartbeats 4000000 in
set_option maxRecDepth 100000 in
theorem met1_X4_buy (l : Launch) (dC : Nat → ClassId) (dI : Nat → Nat → Nat) (cI cW : ClassId) (M : Nat → Nat) (th : Int32) (n : Nat) (d r : Nat → Int32) (Wd : Nat → Nat → Int32) (ch pd yr : Int32) (R : va_W) (a x p9 : Int32) (h9 : ¬ ((50 ≤ a ∧ a ≤ 99) ∧ (1 ≤ x ∧ x ≤ 999) ∧ (0 ≤ p9 ∧ p9 ≤ 30))) (sz : Nat) : Met l yX4_buy wsX4_buy ({ frames := 3, cells := 0, slots := 0, locals := 64 }) (Pre1 dC dI cI cW [.ref (M 0), .int a, .int x, .int p9] (mw cI M th n d r Wd ch pd yr (WT d (r 0)) ++ R) sz) (Qi1 dC dI (fun z => z = 0) (mw cI M th n d r Wd ch pd yr (WT d (r 0)) ++ R) (mw cI M 1 n d r Wd ch pd yr (WT d (r 0)) ++ R) sz) 0 0 (va_A (mw cI M th n d r Wd ch pd yr (WT d (r 0)) ++ R) sz) := by
  refine Met.ofW (cc := cX4_buy) (maxL := 6) (ret := (some .int)) (by decide) rfl ?_
  intro p e s m args below meth c s₁ B hml hv
  obtain ⟨rfl, hsz, hP, hD0, hKK⟩ := hv
  subst hsz
  have hx := B.exec
  have hb := B.bytes
  have hr := B.returns
  have hts := atoms_spec (ws := wsX4_buy) B.pre
  have hown : s.vm.findClass RX4 = some m.cls := findClass_of_methodNamed B.named
  have hlocks := B.notSynchronized
  have hD := hD0.self (sz := s.heap.size)
  generalize hAe : va_A (mw cI M th n d r Wd ch pd yr (WT d (r 0)) ++ R) s.heap.size = A at hD ⊢
  have hA : ∀ q : Nat, s.heap.size ≤ q → A q := fun q h => by rw [← hAe]; exact Or.inr h
  have hS : va_S A s.heap s.heap [] := va_S.rf
  have hl := lv_entry ([.ref (M 0), .int a, .int x, .int p9]) (n := 6) (Nat.le_of_ble_eq_true rfl)
  rw [lg_entry_eq]
  generalize (lg_sl ([.ref (M 0), .int a, .int x, .int p9]) ++ List.replicate (6 - (lg_sl ([.ref (M 0), .int a, .int x, .int p9])).length) Slot.unset).toArray = ls at hl ⊢
  have hl : lv_has ls 6 [(0, .ref (M 0)), (1, .int a), (2, .int x), (3, .int p9)] := hl
  refine lv_aload_n hx hb dX4_buy_0 rfl (lv_at hl 0 rfl) ?_
  refine lv_iconst (v := 0) hx hb dX4_buy_1 (by decide) ?_
  refine va_put (D := (dC, dI)) (ci := 4) (v := .int 0) (ty := .int) (C := RX4) (T := TX4) (N := 7) hx hb hts (by decide +kernel) tyX4 tyX4_ok nmX4 hown hKK.1 hP hD hS 0 rfl rfl 0 (by decide) (hts (.fieldLink RX4 28 "WidowPenniesModel" "thrown" "I") (by decide +kernel)) (fun _ h9 => h9) rfl (by decide +kernel) rfl rfl (Nat.le_of_ble_eq_true rfl) dX4_buy_2 (fun H locs hP hD hS => ?_)
  have hP : va_P (dC, dI) vwCl (mw cI M 0 n d r Wd ch pd yr (WT d (r 0)) ++ R) H := hP
  have hD : va_D A (mw cI M 0 n d r Wd ch pd yr (WT d (r 0)) ++ R) := hD
  refine lv_iload_n hx hb dX4_buy_5 rfl (lv_at hl 1 rfl) ?_
  refine lv_iload_n hx hb dX4_buy_6 rfl (lv_at hl 2 rfl) ?_
  refine lv_iload_n hx hb dX4_buy_7 rfl (lv_at hl 3 rfl) ?_
  refine rd_i (runS0 (As := [.int a, .int x, .int p9]) (rest := []) ⟨hx, hb, hml, hown, hts⟩ (met_X4_isBought l dC dI cI cW a x p9) (va_cwS 3 hts gX4_buy_X4_isBought rfl rfl rfl (by decide +kernel) ⟨Nat.le_of_ble_eq_true rfl, Nat.le_of_ble_eq_true rfl⟩) hKK nilP rfl hl.1 (Nat.le_of_ble_eq_true rfl) rfl dX4_buy_8 ⟨Nat.zero_le _, Nat.zero_le _⟩) (fun r_1 hr_1 => ?_)
  subst hr_1
  refine lv_if_ne (tgt := 20) hx hb dX4_buy_11 (by decide) (fun c_2 => ?_) (fun c_2 => ?_)
  · have bc_2 : (50 ≤ a ∧ a ≤ 99) ∧ (1 ≤ x ∧ x ≤ 999) ∧ (0 ≤ p9 ∧ p9 ≤ 30) := b1.mp c_2
    exact (h9 bc_2).elim
  · have bc_2 : ¬ ((50 ≤ a ∧ a ≤ 99) ∧ (1 ≤ x ∧ x ≤ 999) ∧ (0 ≤ p9 ∧ p9 ≤ 30)) := b0.mp c_2
    refine lv_aload_n hx hb dX4_buy_14 rfl (lv_at hl 0 rfl) ?_
    refine lv_iconst (v := 1) hx hb dX4_buy_15 (by decide) ?_
    refine wr_i (runV1 (As := [.int 1]) (rest := []) ⟨hx, hb, hml, hown, hts⟩ (met_X4_fail l dC dI cI cW M 0 n d r Wd ch pd yr (WT d (r 0)) R 1 _) (cwV 1 hts gX4_buy_X4_fail rfl rfl rfl (by decide +kernel) ⟨Nat.le_of_ble_eq_true rfl, Nat.le_of_ble_eq_true rfl⟩) hKK hP hD 4 0 rfl rfl rfl hl.1 (Nat.le_of_ble_eq_true rfl) rfl dX4_buy_16 ⟨Nat.zero_le _, Nat.zero_le _⟩) hD hS hA (fun r_3 H locs hr_3 hP hD hS => ?_)
    subst hr_3
    have hP : va_P (dC, dI) vwCl (mw cI M 1 n d r Wd ch pd yr (WT d (r 0)) ++ R) H := hP
    have hD : va_D A (mw cI M 1 n d r Wd ch pd yr (WT d (r 0)) ++ R) := hD
    have hP9 : va_P (dC, dI) vwCl (mw cI M 1 n d r Wd ch pd yr (WT d (r 0)) ++ R) _ := hP
    have hD9 : va_D A (mw cI M 1 n d r Wd ch pd yr (WT d (r 0)) ++ R) := hD
    have hz : (0 : Int32) = 0 := rfl
    exact W.iret (v := 0) hx hb hr (fun t ht hW => ⟨⟨_, (), rfl, hz, by rw [ht]; exact hP9, by rw [hAe]; exact hD9⟩, by rw [hAe]; exact hS.F ht⟩) hS.2.2 dX4_buy_19
set_option maxHeartbeats 4000000 in
set_option maxRecDepth 100000 in
theorem met2_X4_buy (l : Launch) (dC : Nat → ClassId) (dI : Nat → Nat → Nat) (cI cW : ClassId) (M : Nat → Nat) (th : Int32) (n : Nat) (d r : Nat → Int32) (Wd : Nat → Nat → Int32) (ch pd yr : Int32) (R : va_W) (ka : Nat) (x : Int32) (kb : Nat) (h1 : 50 ≤ ka) (h2 : ka ≤ 99) (hx9 : 1 ≤ x ∧ x ≤ 999) (h3 : kb ≤ 30) (h9 : n = 10 ∨ wN d (r 0) (100 - ka) kb = 0) (sz : Nat) : Met l yX4_buy wsX4_buy ({ frames := 3, cells := 0, slots := 0, locals := 64 }) (Pre1 dC dI cI cW [.ref (M 0), .int (nI ka), .int x, .int (nI kb)] (mw cI M th n d r Wd ch pd yr (WT d (r 0)) ++ R) sz) (Qi1 dC dI (fun z => z = 0) (mw cI M th n d r Wd ch pd yr (WT d (r 0)) ++ R) (mw cI M 2 n d r Wd ch pd yr (WT d (r 0)) ++ R) sz) 0 0 (va_A (mw cI M th n d r Wd ch pd yr (WT d (r 0)) ++ R) sz) := by
  refine Met.ofW (cc := cX4_buy) (maxL := 6) (ret := (some .int)) (by decide) rfl ?_
  intro p e s m args below meth c s₁ B hml hv
  obtain ⟨rfl, hsz, hP, hD0, hKK⟩ := hv
  subst hsz
  have hx := B.exec
  have hb := B.bytes
  have hr := B.returns
  have hts := atoms_spec (ws := wsX4_buy) B.pre
  have hown : s.vm.findClass RX4 = some m.cls := findClass_of_methodNamed B.named
  have hlocks := B.notSynchronized
  have hD := hD0.self (sz := s.heap.size)
  generalize hAe : va_A (mw cI M th n d r Wd ch pd yr (WT d (r 0)) ++ R) s.heap.size = A at hD ⊢
  have hA : ∀ q : Nat, s.heap.size ≤ q → A q := fun q h => by rw [← hAe]; exact Or.inr h
  have hS : va_S A s.heap s.heap [] := va_S.rf
  have hl := lv_entry ([.ref (M 0), .int (nI ka), .int x, .int (nI kb)]) (n := 6) (Nat.le_of_ble_eq_true rfl)
  rw [lg_entry_eq]
  generalize (lg_sl ([.ref (M 0), .int (nI ka), .int x, .int (nI kb)]) ++ List.replicate (6 - (lg_sl ([.ref (M 0), .int (nI ka), .int x, .int (nI kb)])).length) Slot.unset).toArray = ls at hl ⊢
  have hl : lv_has ls 6 [(0, .ref (M 0)), (1, .int (nI ka)), (2, .int x), (3, .int (nI kb))] := hl
  refine lv_aload_n hx hb dX4_buy_0 rfl (lv_at hl 0 rfl) ?_
  refine lv_iconst (v := 0) hx hb dX4_buy_1 (by decide) ?_
  refine va_put (D := (dC, dI)) (ci := 4) (v := .int 0) (ty := .int) (C := RX4) (T := TX4) (N := 7) hx hb hts (by decide +kernel) tyX4 tyX4_ok nmX4 hown hKK.1 hP hD hS 0 rfl rfl 0 (by decide) (hts (.fieldLink RX4 28 "WidowPenniesModel" "thrown" "I") (by decide +kernel)) (fun _ h9 => h9) rfl (by decide +kernel) rfl rfl (Nat.le_of_ble_eq_true rfl) dX4_buy_2 (fun H locs hP hD hS => ?_)
  have hP : va_P (dC, dI) vwCl (mw cI M 0 n d r Wd ch pd yr (WT d (r 0)) ++ R) H := hP
  have hD : va_D A (mw cI M 0 n d r Wd ch pd yr (WT d (r 0)) ++ R) := hD
  refine lv_iload_n hx hb dX4_buy_5 rfl (lv_at hl 1 rfl) ?_
  refine lv_iload_n hx hb dX4_buy_6 rfl (lv_at hl 2 rfl) ?_
  refine lv_iload_n hx hb dX4_buy_7 rfl (lv_at hl 3 rfl) ?_
  refine rd_i (runS0 (As := [.int (nI ka), .int x, .int (nI kb)]) (rest := []) ⟨hx, hb, hml, hown, hts⟩ (met_X4_isBought l dC dI cI cW (nI ka) x (nI kb)) (va_cwS 3 hts gX4_buy_X4_isBought rfl rfl rfl (by decide +kernel) ⟨Nat.le_of_ble_eq_true rfl, Nat.le_of_ble_eq_true rfl⟩) hKK nilP rfl hl.1 (Nat.le_of_ble_eq_true rfl) rfl dX4_buy_8 ⟨Nat.zero_le _, Nat.zero_le _⟩) (fun r_1 hr_1 => ?_)
  subst hr_1
  refine lv_if_ne (tgt := 20) hx hb dX4_buy_11 (by decide) (fun c_2 => ?_) (fun c_2 => ?_)
  · have bc_2 : (50 ≤ (nI ka) ∧ (nI ka) ≤ 99) ∧ (1 ≤ x ∧ x ≤ 999) ∧ (0 ≤ (nI kb) ∧ (nI kb) ≤ 30) := b1.mp c_2
    refine lv_aload_n hx hb dX4_buy_20 rfl (lv_at hl 0 rfl) ?_
    refine va_get (D := (dC, dI)) (ci := 4) (v := .int (nI n)) (C := RX4) (T := TX4) (N := 7) hx hb hts (by decide +kernel) hown hKK.1 hP 0 rfl rfl 1 (by decide) (hts (.fieldLink RX4 36 "WidowPenniesModel" "widows" "I") (by decide +kernel)) (fun _ h9 => h9) rfl dX4_buy_21 ?_
    refine lv_bipush (v := 10) hx hb dX4_buy_24 (by decide) ?_
    refine lv_icmp_eq (tgt := 38) hx hb dX4_buy_26 (by decide) (fun c_3 => ?_) (fun c_3 => ?_)
    · refine lv_aload_n hx hb dX4_buy_38 rfl (lv_at hl 0 rfl) ?_
      refine lv_iconst (v := 2) hx hb dX4_buy_39 (by decide) ?_
      refine wr_i (runV1 (As := [.int 2]) (rest := []) ⟨hx, hb, hml, hown, hts⟩ (met_X4_fail l dC dI cI cW M 0 n d r Wd ch pd yr (WT d (r 0)) R 2 _) (cwV 1 hts gX4_buy_X4_fail rfl rfl rfl (by decide +kernel) ⟨Nat.le_of_ble_eq_true rfl, Nat.le_of_ble_eq_true rfl⟩) hKK hP hD 4 0 rfl rfl rfl hl.1 (Nat.le_of_ble_eq_true rfl) rfl dX4_buy_40 ⟨Nat.zero_le _, Nat.zero_le _⟩) hD hS hA (fun r_4 H locs hr_4 hP hD hS => ?_)
      subst hr_4
      have hP : va_P (dC, dI) vwCl (mw cI M 2 n d r Wd ch pd yr (WT d (r 0)) ++ R) H := hP
      have hD : va_D A (mw cI M 2 n d r Wd ch pd yr (WT d (r 0)) ++ R) := hD
      have hP9 : va_P (dC, dI) vwCl (mw cI M 2 n d r Wd ch pd yr (WT d (r 0)) ++ R) _ := hP
      have hD9 : va_D A (mw cI M 2 n d r Wd ch pd yr (WT d (r 0)) ++ R) := hD
      have hz : (0 : Int32) = 0 := rfl
      exact W.iret (v := 0) hx hb hr (fun t ht hW => ⟨⟨_, (), rfl, hz, by rw [ht]; exact hP9, by rw [hAe]; exact hD9⟩, by rw [hAe]; exact hS.F ht⟩) hS.2.2 dX4_buy_43
    · refine lv_aload_n hx hb dX4_buy_29 rfl (lv_at hl 0 rfl) ?_
      refine lv_iload_n hx hb dX4_buy_30 rfl (lv_at hl 1 rfl) ?_
      refine lv_iload_n hx hb dX4_buy_31 rfl (lv_at hl 3 rfl) ?_
      refine rd_i (runV0 (As := [.int (nI ka), .int (nI kb)]) (rest := []) ⟨hx, hb, hml, hown, hts⟩ (met_X4_worthOf l dC dI cI cW M 0 n d r Wd ch pd yr ka kb h1 h2 h3) (cwV 2 hts gX4_buy_X4_worthOf rfl rfl rfl (by decide +kernel) ⟨Nat.le_of_ble_eq_true rfl, Nat.le_of_ble_eq_true rfl⟩) hKK (ws_left hP) 4 0 rfl rfl rfl hl.1 (Nat.le_of_ble_eq_true rfl) rfl dX4_buy_32 ⟨Nat.zero_le _, Nat.zero_le _⟩) (fun r_5 hr_5 => ?_)
      subst hr_5
      refine lv_if_ne (tgt := 44) hx hb dX4_buy_35 (by decide) (fun c_6 => ?_) (fun c_6 => ?_)
      · exact (h9.elim (fun q9 => c_3 (by rw [q9]; rfl)) (fun q9 => c_6 q9)).elim
      · refine lv_aload_n hx hb dX4_buy_38 rfl (lv_at hl 0 rfl) ?_
        refine lv_iconst (v := 2) hx hb dX4_buy_39 (by decide) ?_
        refine wr_i (runV1 (As := [.int 2]) (rest := []) ⟨hx, hb, hml, hown, hts⟩ (met_X4_fail l dC dI cI cW M 0 n d r Wd ch pd yr (WT d (r 0)) R 2 _) (cwV 1 hts gX4_buy_X4_fail rfl rfl rfl (by decide +kernel) ⟨Nat.le_of_ble_eq_true rfl, Nat.le_of_ble_eq_true rfl⟩) hKK hP hD 4 0 rfl rfl rfl hl.1 (Nat.le_of_ble_eq_true rfl) rfl dX4_buy_40 ⟨Nat.zero_le _, Nat.zero_le _⟩) hD hS hA (fun r_7 H locs hr_7 hP hD hS => ?_)
        subst hr_7
        have hP : va_P (dC, dI) vwCl (mw cI M 2 n d r Wd ch pd yr (WT d (r 0)) ++ R) H := hP
        have hD : va_D A (mw cI M 2 n d r Wd ch pd yr (WT d (r 0)) ++ R) := hD
        have hP9 : va_P (dC, dI) vwCl (mw cI M 2 n d r Wd ch pd yr (WT d (r 0)) ++ R) _ := hP
        have hD9 : va_D A (mw cI M 2 n d r Wd ch pd yr (WT d (r 0)) ++ R) := hD
        have hz : (0 : Int32) = 0 := rfl
        exact W.iret (v := 0) hx hb hr (fun t ht hW => ⟨⟨_, (), rfl, hz, by rw [ht]; exact hP9, by rw [hAe]; exact hD9⟩, by rw [hAe]; exact hS.F ht⟩) hS.2.2 dX4_buy_43
  · have bc_2 : ¬ ((50 ≤ (nI ka) ∧ (nI ka) ≤ 99) ∧ (1 ≤ x ∧ x ≤ 999) ∧ (0 ≤ (nI kb) ∧ (nI kb) ≤ 30)) := b0.mp c_2
    exact absurd ⟨age_in h1 h2, hx9, put_in h3⟩ bc_2
