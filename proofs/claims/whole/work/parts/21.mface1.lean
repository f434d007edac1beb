set_option maxHeartbeats 4000000 in
set_option maxRecDepth 100000 in
theorem met_X4_worth (l : Launch) (dC : Nat → ClassId) (dI : Nat → Nat → Nat) (cI cW : ClassId) (M : Nat → Nat) (th : Int32) (n : Nat) (d r : Nat → Int32) (Wd : Nat → Nat → Int32) (ch pd yr : Int32) (R : va_W) (ka kb : Nat) (h1 : 50 ≤ ka) (h2 : ka ≤ 99) (h3 : kb ≤ 30) (sz : Nat) : Met l yX4_worth wsX4_worth ({ frames := 2, cells := 0, slots := 0, locals := 42 }) (Pre1 dC dI cI cW [.ref (M 0), .int (nI ka), .int (nI kb)] (mw cI M th n d r Wd ch pd yr (WT d (r 0)) ++ R) sz) (Qi1 dC dI (fun z => z = wN d (r 0) (100 - ka) kb) (mw cI M th n d r Wd ch pd yr (WT d (r 0)) ++ R) (mw cI M 0 n d r Wd ch pd yr (WT d (r 0)) ++ R) sz) 0 0 (va_A (mw cI M th n d r Wd ch pd yr (WT d (r 0)) ++ R) sz) := by
  refine Met.ofW (cc := cX4_worth) (maxL := 3) (ret := (some .int)) (by decide) rfl ?_
  intro p e s m args below meth c s₁ B hml hv
  obtain ⟨rfl, hsz, hP, hD0, hKK⟩ := hv
  subst hsz
  have hx := B.exec
  have hb := B.bytes
  have hr := B.returns
  have hts := atoms_spec (ws := wsX4_worth) B.pre
  have hown : s.vm.findClass RX4 = some m.cls := findClass_of_methodNamed B.named
  have hlocks := B.notSynchronized
  have hD := hD0.self (sz := s.heap.size)
  generalize hAe : va_A (mw cI M th n d r Wd ch pd yr (WT d (r 0)) ++ R) s.heap.size = A at hD ⊢
  have hA : ∀ q : Nat, s.heap.size ≤ q → A q := fun q h => by rw [← hAe]; exact Or.inr h
  have hS : va_S A s.heap s.heap [] := va_S.rf
  have hl := lv_entry ([.ref (M 0), .int (nI ka), .int (nI kb)]) (n := 3) (Nat.le_of_ble_eq_true rfl)
  rw [lg_entry_eq]
  generalize (lg_sl ([.ref (M 0), .int (nI ka), .int (nI kb)]) ++ List.replicate (3 - (lg_sl ([.ref (M 0), .int (nI ka), .int (nI kb)])).length) Slot.unset).toArray = ls at hl ⊢
  have hl : lv_has ls 3 [(0, .ref (M 0)), (1, .int (nI ka)), (2, .int (nI kb))] := hl
  refine lv_aload_n hx hb dX4_worth_0 rfl (lv_at hl 0 rfl) ?_
  refine lv_iconst (v := 0) hx hb dX4_worth_1 (by decide) ?_
  refine va_put (D := (dC, dI)) (ci := 4) (v := .int 0) (ty := .int) (C := RX4) (T := TX4) (N := 7) hx hb hts (by decide +kernel) tyX4 tyX4_ok nmX4 hown hKK.1 hP hD hS 0 rfl rfl 0 (by decide) (hts (.fieldLink RX4 28 "WidowPenniesModel" "thrown" "I") (by decide +kernel)) (fun _ h9 => h9) rfl (by decide +kernel) rfl rfl (Nat.le_of_ble_eq_true rfl) dX4_worth_2 (fun H locs hP hD hS => ?_)
  have hP : va_P (dC, dI) vwCl (mw cI M 0 n d r Wd ch pd yr (WT d (r 0)) ++ R) H := hP
  have hD : va_D A (mw cI M 0 n d r Wd ch pd yr (WT d (r 0)) ++ R) := hD
  refine lv_iload_n hx hb dX4_worth_5 rfl (lv_at hl 1 rfl) ?_
  refine rd_i (runS0 (As := [.int (nI ka)]) (rest := []) ⟨hx, hb, hml, hown, hts⟩ (met_X4_isAge l dC dI cI cW (nI ka)) (va_cwS 1 hts gX4_worth_X4_isAge rfl rfl rfl (by decide +kernel) ⟨Nat.le_of_ble_eq_true rfl, Nat.le_of_ble_eq_true rfl⟩) hKK nilP rfl hl.1 (Nat.le_of_ble_eq_true rfl) rfl dX4_worth_6 ⟨Nat.zero_le _, Nat.zero_le _⟩) (fun r_1 hr_1 => ?_)
  subst hr_1
  refine lv_if_eq (tgt := 28) hx hb dX4_worth_9 (by decide) (fun c_2 => ?_) (fun c_2 => ?_)
  · have bc_2 : ¬ (50 ≤ (nI ka) ∧ (nI ka) ≤ 99) := b0.mp c_2
    exact absurd (age_in h1 h2) bc_2
  · have bc_2 : 50 ≤ (nI ka) ∧ (nI ka) ≤ 99 := b1.mp c_2
    refine lv_iload_n hx hb dX4_worth_12 rfl (lv_at hl 2 rfl) ?_
    refine rd_i (runS0 (As := [.int (nI kb)]) (rest := []) ⟨hx, hb, hml, hown, hts⟩ (met_X4_isLate l dC dI cI cW (nI kb)) (va_cwS 1 hts gX4_worth_X4_isLate rfl rfl rfl (by decide +kernel) ⟨Nat.le_of_ble_eq_true rfl, Nat.le_of_ble_eq_true rfl⟩) hKK nilP rfl hl.1 (Nat.le_of_ble_eq_true rfl) rfl dX4_worth_13 ⟨Nat.zero_le _, Nat.zero_le _⟩) (fun r_3 hr_3 => ?_)
    subst hr_3
    refine lv_if_eq (tgt := 28) hx hb dX4_worth_16 (by decide) (fun c_4 => ?_) (fun c_4 => ?_)
    · have bc_4 : ¬ (0 ≤ (nI kb) ∧ (nI kb) ≤ 30) := b0.mp c_4
      exact absurd (put_in h3) bc_4
    · have bc_4 : 0 ≤ (nI kb) ∧ (nI kb) ≤ 30 := b1.mp c_4
      refine lv_aload_n hx hb dX4_worth_19 rfl (lv_at hl 0 rfl) ?_
      refine lv_iload_n hx hb dX4_worth_20 rfl (lv_at hl 1 rfl) ?_
      refine lv_iload_n hx hb dX4_worth_21 rfl (lv_at hl 2 rfl) ?_
      refine rd_i (runV0 (As := [.int (nI ka), .int (nI kb)]) (rest := []) ⟨hx, hb, hml, hown, hts⟩ (met_X4_worthOf l dC dI cI cW M 0 n d r Wd ch pd yr ka kb h1 h2 h3) (cwV 2 hts gX4_worth_X4_worthOf rfl rfl rfl (by decide +kernel) ⟨Nat.le_of_ble_eq_true rfl, Nat.le_of_ble_eq_true rfl⟩) hKK (ws_left hP) 4 0 rfl rfl rfl hl.1 (Nat.le_of_ble_eq_true rfl) rfl dX4_worth_22 ⟨Nat.zero_le _, Nat.zero_le _⟩) (fun r_5 hr_5 => ?_)
      subst hr_5
      refine lv_goto (tgt := 33) hx hb dX4_worth_25 (by decide) ?_
      have hP9 : va_P (dC, dI) vwCl (mw cI M 0 n d r Wd ch pd yr (WT d (r 0)) ++ R) _ := hP
      have hD9 : va_D A (mw cI M 0 n d r Wd ch pd yr (WT d (r 0)) ++ R) := hD
      have hz : (wN d (r 0) (100 - ka) kb : Int32) = wN d (r 0) (100 - ka) kb := rfl
      exact W.iret (v := (wN d (r 0) (100 - ka) kb)) hx hb hr (fun t ht hW => ⟨⟨_, (), rfl, hz, by rw [ht]; exact hP9, by rw [hAe]; exact hD9⟩, by rw [hAe]; exact hS.F ht⟩) hS.2.2 dX4_worth_33
set_option maxHeartbeats 4000000 in
set_option maxRecDepth 100000 in
theorem met1_X4_worth (l : Launch) (dC : Nat → ClassId) (dI : Nat → Nat → Nat) (cI cW : ClassId) (M : Nat → Nat) (th : Int32) (n : Nat) (d r : Nat → Int32) (Wd : Nat → Nat → Int32) (ch pd yr : Int32) (R : va_W) (a p9 : Int32) (h9 : ¬ ((50 ≤ a ∧ a ≤ 99) ∧ (0 ≤ p9 ∧ p9 ≤ 30))) (sz : Nat) : Met l yX4_worth wsX4_worth ({ frames := 2, cells := 0, slots := 0, locals := 42 }) (Pre1 dC dI cI cW [.ref (M 0), .int a, .int p9] (mw cI M th n d r Wd ch pd yr (WT d (r 0)) ++ R) sz) (Qi1 dC dI (fun z => z = 0) (mw cI M th n d r Wd ch pd yr (WT d (r 0)) ++ R) (mw cI M 1 n d r Wd ch pd yr (WT d (r 0)) ++ R) sz) 0 0 (va_A (mw cI M th n d r Wd ch pd yr (WT d (r 0)) ++ R) sz) := by
  refine Met.ofW (cc := cX4_worth) (maxL := 3) (ret := (some .int)) (by decide) rfl ?_
  intro p e s m args below meth c s₁ B hml hv
  obtain ⟨rfl, hsz, hP, hD0, hKK⟩ := hv
  subst hsz
  have hx := B.exec
  have hb := B.bytes
  have hr := B.returns
  have hts := atoms_spec (ws := wsX4_worth) B.pre
  have hown : s.vm.findClass RX4 = some m.cls := findClass_of_methodNamed B.named
  have hlocks := B.notSynchronized
  have hD := hD0.self (sz := s.heap.size)
  generalize hAe : va_A (mw cI M th n d r Wd ch pd yr (WT d (r 0)) ++ R) s.heap.size = A at hD ⊢
  have hA : ∀ q : Nat, s.heap.size ≤ q → A q := fun q h => by rw [← hAe]; exact Or.inr h
  have hS : va_S A s.heap s.heap [] := va_S.rf
  have hl := lv_entry ([.ref (M 0), .int a, .int p9]) (n := 3) (Nat.le_of_ble_eq_true rfl)
  rw [lg_entry_eq]
  generalize (lg_sl ([.ref (M 0), .int a, .int p9]) ++ List.replicate (3 - (lg_sl ([.ref (M 0), .int a, .int p9])).length) Slot.unset).toArray = ls at hl ⊢
  have hl : lv_has ls 3 [(0, .ref (M 0)), (1, .int a), (2, .int p9)] := hl
  refine lv_aload_n hx hb dX4_worth_0 rfl (lv_at hl 0 rfl) ?_
  refine lv_iconst (v := 0) hx hb dX4_worth_1 (by decide) ?_
  refine va_put (D := (dC, dI)) (ci := 4) (v := .int 0) (ty := .int) (C := RX4) (T := TX4) (N := 7) hx hb hts (by decide +kernel) tyX4 tyX4_ok nmX4 hown hKK.1 hP hD hS 0 rfl rfl 0 (by decide) (hts (.fieldLink RX4 28 "WidowPenniesModel" "thrown" "I") (by decide +kernel)) (fun _ h9 => h9) rfl (by decide +kernel) rfl rfl (Nat.le_of_ble_eq_true rfl) dX4_worth_2 (fun H locs hP hD hS => ?_)
  have hP : va_P (dC, dI) vwCl (mw cI M 0 n d r Wd ch pd yr (WT d (r 0)) ++ R) H := hP
  have hD : va_D A (mw cI M 0 n d r Wd ch pd yr (WT d (r 0)) ++ R) := hD
  refine lv_iload_n hx hb dX4_worth_5 rfl (lv_at hl 1 rfl) ?_
  refine rd_i (runS0 (As := [.int a]) (rest := []) ⟨hx, hb, hml, hown, hts⟩ (met_X4_isAge l dC dI cI cW a) (va_cwS 1 hts gX4_worth_X4_isAge rfl rfl rfl (by decide +kernel) ⟨Nat.le_of_ble_eq_true rfl, Nat.le_of_ble_eq_true rfl⟩) hKK nilP rfl hl.1 (Nat.le_of_ble_eq_true rfl) rfl dX4_worth_6 ⟨Nat.zero_le _, Nat.zero_le _⟩) (fun r_1 hr_1 => ?_)
  subst hr_1
  refine lv_if_eq (tgt := 28) hx hb dX4_worth_9 (by decide) (fun c_2 => ?_) (fun c_2 => ?_)
  · have bc_2 : ¬ (50 ≤ a ∧ a ≤ 99) := b0.mp c_2
    refine lv_aload_n hx hb dX4_worth_28 rfl (lv_at hl 0 rfl) ?_
    refine lv_iconst (v := 1) hx hb dX4_worth_29 (by decide) ?_
    refine wr_i (runV1 (As := [.int 1]) (rest := []) ⟨hx, hb, hml, hown, hts⟩ (met_X4_fail l dC dI cI cW M 0 n d r Wd ch pd yr (WT d (r 0)) R 1 _) (cwV 1 hts gX4_worth_X4_fail rfl rfl rfl (by decide +kernel) ⟨Nat.le_of_ble_eq_true rfl, Nat.le_of_ble_eq_true rfl⟩) hKK hP hD 4 0 rfl rfl rfl hl.1 (Nat.le_of_ble_eq_true rfl) rfl dX4_worth_30 ⟨Nat.zero_le _, Nat.zero_le _⟩) hD hS hA (fun r_3 H locs hr_3 hP hD hS => ?_)
    subst hr_3
    have hP : va_P (dC, dI) vwCl (mw cI M 1 n d r Wd ch pd yr (WT d (r 0)) ++ R) H := hP
    have hD : va_D A (mw cI M 1 n d r Wd ch pd yr (WT d (r 0)) ++ R) := hD
    have hP9 : va_P (dC, dI) vwCl (mw cI M 1 n d r Wd ch pd yr (WT d (r 0)) ++ R) _ := hP
    have hD9 : va_D A (mw cI M 1 n d r Wd ch pd yr (WT d (r 0)) ++ R) := hD
    have hz : (0 : Int32) = 0 := rfl
    exact W.iret (v := 0) hx hb hr (fun t ht hW => ⟨⟨_, (), rfl, hz, by rw [ht]; exact hP9, by rw [hAe]; exact hD9⟩, by rw [hAe]; exact hS.F ht⟩) hS.2.2 dX4_worth_33
  · have bc_2 : 50 ≤ a ∧ a ≤ 99 := b1.mp c_2
    refine lv_iload_n hx hb dX4_worth_12 rfl (lv_at hl 2 rfl) ?_
    refine rd_i (runS0 (As := [.int p9]) (rest := []) ⟨hx, hb, hml, hown, hts⟩ (met_X4_isLate l dC dI cI cW p9) (va_cwS 1 hts gX4_worth_X4_isLate rfl rfl rfl (by decide +kernel) ⟨Nat.le_of_ble_eq_true rfl, Nat.le_of_ble_eq_true rfl⟩) hKK nilP rfl hl.1 (Nat.le_of_ble_eq_true rfl) rfl dX4_worth_13 ⟨Nat.zero_le _, Nat.zero_le _⟩) (fun r_4 hr_4 => ?_)
    subst hr_4
    refine lv_if_eq (tgt := 28) hx hb dX4_worth_16 (by decide) (fun c_5 => ?_) (fun c_5 => ?_)
    · have bc_5 : ¬ (0 ≤ p9 ∧ p9 ≤ 30) := b0.mp c_5
      refine lv_aload_n hx hb dX4_worth_28 rfl (lv_at hl 0 rfl) ?_
      refine lv_iconst (v := 1) hx hb dX4_worth_29 (by decide) ?_
      refine wr_i (runV1 (As := [.int 1]) (rest := []) ⟨hx, hb, hml, hown, hts⟩ (met_X4_fail l dC dI cI cW M 0 n d r Wd ch pd yr (WT d (r 0)) R 1 _) (cwV 1 hts gX4_worth_X4_fail rfl rfl rfl (by decide +kernel) ⟨Nat.le_of_ble_eq_true rfl, Nat.le_of_ble_eq_true rfl⟩) hKK hP hD 4 0 rfl rfl rfl hl.1 (Nat.le_of_ble_eq_true rfl) rfl dX4_worth_30 ⟨Nat.zero_le _, Nat.zero_le _⟩) hD hS hA (fun r_6 H locs hr_6 hP hD hS => ?_)
      subst hr_6
      have hP : va_P (dC, dI) vwCl (mw cI M 1 n d r Wd ch pd yr (WT d (r 0)) ++ R) H := hP
      have hD : va_D A (mw cI M 1 n d r Wd ch pd yr (WT d (r 0)) ++ R) := hD
      have hP9 : va_P (dC, dI) vwCl (mw cI M 1 n d r Wd ch pd yr (WT d (r 0)) ++ R) _ := hP
      have hD9 : va_D A (mw cI M 1 n d r Wd ch pd yr (WT d (r 0)) ++ R) := hD
      have hz : (0 : Int32) = 0 := rfl
      exact W.iret (v := 0) hx hb hr (fun t ht hW => ⟨⟨_, (), rfl, hz, by rw [ht]; exact hP9, by rw [hAe]; exact hD9⟩, by rw [hAe]; exact hS.F ht⟩) hS.2.2 dX4_worth_33
    · have bc_5 : 0 ≤ p9 ∧ p9 ≤ 30 := b1.mp c_5
      exact (h9 ⟨bc_2, bc_5⟩).elim
set_option maxHeartbeats 4000000 in
set_option maxRecDepth 100000 in
theorem met_X4_price (l : Launch) (dC : Nat → ClassId) (dI : Nat → Nat → Nat) (cI cW : ClassId) (M : Nat → Nat) (th : Int32) (n : Nat) (d r : Nat → Int32) (Wd : Nat → Nat → Int32) (ch pd yr : Int32) (R : va_W) (ka : Nat) (x : Int32) (kb : Nat) (h1 : 50 ≤ ka) (h2 : ka ≤ 99) (hx9 : 1 ≤ x ∧ x ≤ 999) (h3 : kb ≤ 30) (sz : Nat) : Met l yX4_price wsX4_price ({ frames := 3, cells := 0, slots := 0, locals := 64 }) (Pre1 dC dI cI cW [.ref (M 0), .int (nI ka), .int x, .int (nI kb)] (mw cI M th n d r Wd ch pd yr (WT d (r 0)) ++ R) sz) (Qi1 dC dI (fun z => z = priceS (r 1) x (wN d (r 0) (100 - ka) kb)) (mw cI M th n d r Wd ch pd yr (WT d (r 0)) ++ R) (mw cI M 0 n d r Wd ch pd yr (WT d (r 0)) ++ R) sz) 0 0 (va_A (mw cI M th n d r Wd ch pd yr (WT d (r 0)) ++ R) sz) := by
  refine Met.ofW (cc := cX4_price) (maxL := 4) (ret := (some .int)) (by decide) rfl ?_
  intro p e s m args below meth c s₁ B hml hv
  obtain ⟨rfl, hsz, hP, hD0, hKK⟩ := hv
  subst hsz
  have hx := B.exec
  have hb := B.bytes
  have hr := B.returns
  have hts := atoms_spec (ws := wsX4_price) B.pre
  have hown : s.vm.findClass RX4 = some m.cls := findClass_of_methodNamed B.named
  have hlocks := B.notSynchronized
  have hD := hD0.self (sz := s.heap.size)
  generalize hAe : va_A (mw cI M th n d r Wd ch pd yr (WT d (r 0)) ++ R) s.heap.size = A at hD ⊢
  have hA : ∀ q : Nat, s.heap.size ≤ q → A q := fun q h => by rw [← hAe]; exact Or.inr h
  have hS : va_S A s.heap s.heap [] := va_S.rf
  have hl := lv_entry ([.ref (M 0), .int (nI ka), .int x, .int (nI kb)]) (n := 4) (Nat.le_of_ble_eq_true rfl)
  rw [lg_entry_eq]
  generalize (lg_sl ([.ref (M 0), .int (nI ka), .int x, .int (nI kb)]) ++ List.replicate (4 - (lg_sl ([.ref (M 0), .int (nI ka), .int x, .int (nI kb)])).length) Slot.unset).toArray = ls at hl ⊢
  have hl : lv_has ls 4 [(0, .ref (M 0)), (1, .int (nI ka)), (2, .int x), (3, .int (nI kb))] := hl
  refine lv_aload_n hx hb dX4_price_0 rfl (lv_at hl 0 rfl) ?_
  refine lv_iconst (v := 0) hx hb dX4_price_1 (by decide) ?_
  refine va_put (D := (dC, dI)) (ci := 4) (v := .int 0) (ty := .int) (C := RX4) (T := TX4) (N := 7) hx hb hts (by decide +kernel) tyX4 tyX4_ok nmX4 hown hKK.1 hP hD hS 0 rfl rfl 0 (by decide) (hts (.fieldLink RX4 28 "WidowPenniesModel" "thrown" "I") (by decide +kernel)) (fun _ h9 => h9) rfl (by decide +kernel) rfl rfl (Nat.le_of_ble_eq_true rfl) dX4_price_2 (fun H locs hP hD hS => ?_)
  have hP : va_P (dC, dI) vwCl (mw cI M 0 n d r Wd ch pd yr (WT d (r 0)) ++ R) H := hP
  have hD : va_D A (mw cI M 0 n d r Wd ch pd yr (WT d (r 0)) ++ R) := hD
  refine lv_iload_n hx hb dX4_price_5 rfl (lv_at hl 1 rfl) ?_
  refine lv_iload_n hx hb dX4_price_6 rfl (lv_at hl 2 rfl) ?_
  refine lv_iload_n hx hb dX4_price_7 rfl (lv_at hl 3 rfl) ?_
  refine rd_i (runS0 (As := [.int (nI ka), .int x, .int (nI kb)]) (rest := []) ⟨hx, hb, hml, hown, hts⟩ (met_X4_isBought l dC dI cI cW (nI ka) x (nI kb)) (va_cwS 3 hts gX4_price_X4_isBought rfl rfl rfl (by decide +kernel) ⟨Nat.le_of_ble_eq_true rfl, Nat.le_of_ble_eq_true rfl⟩) hKK nilP rfl hl.1 (Nat.le_of_ble_eq_true rfl) rfl dX4_price_8 ⟨Nat.zero_le _, Nat.zero_le _⟩) (fun r_1 hr_1 => ?_)
  subst hr_1
  refine lv_if_eq (tgt := 24) hx hb dX4_price_11 (by decide) (fun c_2 => ?_) (fun c_2 => ?_)
  · have bc_2 : ¬ ((50 ≤ (nI ka) ∧ (nI ka) ≤ 99) ∧ (1 ≤ x ∧ x ≤ 999) ∧ (0 ≤ (nI kb) ∧ (nI kb) ≤ 30)) := b0.mp c_2
    exact absurd ⟨age_in h1 h2, hx9, put_in h3⟩ bc_2
  · have bc_2 : (50 ≤ (nI ka) ∧ (nI ka) ≤ 99) ∧ (1 ≤ x ∧ x ≤ 999) ∧ (0 ≤ (nI kb) ∧ (nI kb) ≤ 30) := b1.mp c_2
    refine lv_aload_n hx hb dX4_price_14 rfl (lv_at hl 0 rfl) ?_
    refine lv_iload_n hx hb dX4_price_15 rfl (lv_at hl 1 rfl) ?_
    refine lv_iload_n hx hb dX4_price_16 rfl (lv_at hl 2 rfl) ?_
    refine lv_iload_n hx hb dX4_price_17 rfl (lv_at hl 3 rfl) ?_
    refine rd_i (runV0 (As := [.int (nI ka), .int x, .int (nI kb)]) (rest := []) ⟨hx, hb, hml, hown, hts⟩ (met_X4_priceOf l dC dI cI cW M 0 n d r Wd ch pd yr ka x kb h1 h2 h3) (cwV 3 hts gX4_price_X4_priceOf rfl rfl rfl (by decide +kernel) ⟨Nat.le_of_ble_eq_true rfl, Nat.le_of_ble_eq_true rfl⟩) hKK (ws_left hP) 4 0 rfl rfl rfl hl.1 (Nat.le_of_ble_eq_true rfl) rfl dX4_price_18 ⟨Nat.zero_le _, Nat.zero_le _⟩) (fun r_3 hr_3 => ?_)
    subst hr_3
    refine lv_goto (tgt := 29) hx hb dX4_price_21 (by decide) ?_
    have hP9 : va_P (dC, dI) vwCl (mw cI M 0 n d r Wd ch pd yr (WT d (r 0)) ++ R) _ := hP
    have hD9 : va_D A (mw cI M 0 n d r Wd ch pd yr (WT d (r 0)) ++ R) := hD
    have hz : (priceS (r 1) x (wN d (r 0) (100 - ka) kb) : Int32) = priceS (r 1) x (wN d (r 0) (100 - ka) kb) := rfl
    exact W.iret (v := (priceS (r 1) x (wN d (r 0) (100 - ka) kb))) hx hb hr (fun t ht hW => ⟨⟨_, (), rfl, hz, by rw [ht]; exact hP9, by rw [hAe]; exact hD9⟩, by rw [hAe]; exact hS.F ht⟩) hS.2.2 dX4_price_29
set_option maxHeartbeats 4000000 in
set_option maxRecDepth 100000 in
theorem met1_X4_price (l : Launch) (dC : Nat → ClassId) (dI : Nat → Nat → Nat) (cI cW : ClassId) (M : Nat → Nat) (th : Int32) (n : Nat) (d r : Nat → Int32) (Wd : Nat → Nat → Int32) (ch pd yr : Int32) (R : va_W) (a x p9 : Int32) (h9 : ¬ ((50 ≤ a ∧ a ≤ 99) ∧ (1 ≤ x ∧ x ≤ 999) ∧ (0 ≤ p9 ∧ p9 ≤ 30))) (sz : Nat) : Met l yX4_price wsX4_price ({ frames := 3, cells := 0, slots := 0, locals := 64 }) (Pre1 dC dI cI cW [.ref (M 0), .int a, .int x, .int p9] (mw cI M th n d r Wd ch pd yr (WT d (r 0)) ++ R) sz) (Qi1 dC dI (fun z => z = 0) (mw cI M th n d r Wd ch pd yr (WT d (r 0)) ++ R) (mw cI M 1 n d r Wd ch pd yr (WT d (r 0)) ++ R) sz) 0 0 (va_A (mw cI M th n d r Wd ch pd yr (WT d (r 0)) ++ R) sz) := by
  refine Met.ofW (cc := cX4_price) (maxL := 4) (ret := (some .int)) (by decide) rfl ?_
  intro p e s m args below meth c s₁ B hml hv
  obtain ⟨rfl, hsz, hP, hD0, hKK⟩ := hv
  subst hsz
  have hx := B.exec
  have hb := B.bytes
  have hr := B.returns
  have hts := atoms_spec (ws := wsX4_price) B.pre
  have hown : s.vm.findClass RX4 = some m.cls := findClass_of_methodNamed B.named
  have hlocks := B.notSynchronized
  have hD := hD0.self (sz := s.heap.size)
  generalize hAe : va_A (mw cI M th n d r Wd ch pd yr (WT d (r 0)) ++ R) s.heap.size = A at hD ⊢
  have hA : ∀ q : Nat, s.heap.size ≤ q → A q := fun q h => by rw [← hAe]; exact Or.inr h
  have hS : va_S A s.heap s.heap [] := va_S.rf
  have hl := lv_entry ([.ref (M 0), .int a, .int x, .int p9]) (n := 4) (Nat.le_of_ble_eq_true rfl)
  rw [lg_entry_eq]
  generalize (lg_sl ([.ref (M 0), .int a, .int x, .int p9]) ++ List.replicate (4 - (lg_sl ([.ref (M 0), .int a, .int x, .int p9])).length) Slot.unset).toArray = ls at hl ⊢
  have hl : lv_has ls 4 [(0, .ref (M 0)), (1, .int a), (2, .int x), (3, .int p9)] := hl
  refine lv_aload_n hx hb dX4_price_0 rfl (lv_at hl 0 rfl) ?_
  refine lv_iconst (v := 0) hx hb dX4_price_1 (by decide) ?_
  refine va_put (D := (dC, dI)) (ci := 4) (v := .int 0) (ty := .int) (C := RX4) (T := TX4) (N := 7) hx hb hts (by decide +kernel) tyX4 tyX4_ok nmX4 hown hKK.1 hP hD hS 0 rfl rfl 0 (by decide) (hts (.fieldLink RX4 28 "WidowPenniesModel" "thrown" "I") (by decide +kernel)) (fun _ h9 => h9) rfl (by decide +kernel) rfl rfl (Nat.le_of_ble_eq_true rfl) dX4_price_2 (fun H locs hP hD hS => ?_)
  have hP : va_P (dC, dI) vwCl (mw cI M 0 n d r Wd ch pd yr (WT d (r 0)) ++ R) H := hP
  have hD : va_D A (mw cI M 0 n d r Wd ch pd yr (WT d (r 0)) ++ R) := hD
  refine lv_iload_n hx hb dX4_price_5 rfl (lv_at hl 1 rfl) ?_
  refine lv_iload_n hx hb dX4_price_6 rfl (lv_at hl 2 rfl) ?_
  refine lv_iload_n hx hb dX4_price_7 rfl (lv_at hl 3 rfl) ?_
  refine rd_i (runS0 (As := [.int a, .int x, .int p9]) (rest := []) ⟨hx, hb, hml, hown, hts⟩ (met_X4_isBought l dC dI cI cW a x p9) (va_cwS 3 hts gX4_price_X4_isBought rfl rfl rfl (by decide +kernel) ⟨Nat.le_of_ble_eq_true rfl, Nat.le_of_ble_eq_true rfl⟩) hKK nilP rfl hl.1 (Nat.le_of_ble_eq_true rfl) rfl dX4_price_8 ⟨Nat.zero_le _, Nat.zero_le _⟩) (fun r_1 hr_1 => ?_)
  subst hr_1
  refine lv_if_eq (tgt := 24) hx hb dX4_price_11 (by decide) (fun c_2 => ?_) (fun c_2 => ?_)
  · have bc_2 : ¬ ((50 ≤ a ∧ a ≤ 99) ∧ (1 ≤ x ∧ x ≤ 999) ∧ (0 ≤ p9 ∧ p9 ≤ 30)) := b0.mp c_2
    refine lv_aload_n hx hb dX4_price_24 rfl (lv_at hl 0 rfl) ?_
    refine lv_iconst (v := 1) hx hb dX4_price_25 (by decide) ?_
    refine wr_i (runV1 (As := [.int 1]) (rest := []) ⟨hx, hb, hml, hown, hts⟩ (met_X4_fail l dC dI cI cW M 0 n d r Wd ch pd yr (WT d (r 0)) R 1 _) (cwV 1 hts gX4_price_X4_fail rfl rfl rfl (by decide +kernel) ⟨Nat.le_of_ble_eq_true rfl, Nat.le_of_ble_eq_true rfl⟩) hKK hP hD 4 0 rfl rfl rfl hl.1 (Nat.le_of_ble_eq_true rfl) rfl dX4_price_26 ⟨Nat.zero_le _, Nat.zero_le _⟩) hD hS hA (fun r_3 H locs hr_3 hP hD hS => ?_)
    subst hr_3
    have hP : va_P (dC, dI) vwCl (mw cI M 1 n d r Wd ch pd yr (WT d (r 0)) ++ R) H := hP
    have hD : va_D A (mw cI M 1 n d r Wd ch pd yr (WT d (r 0)) ++ R) := hD
    have hP9 : va_P (dC, dI) vwCl (mw cI M 1 n d r Wd ch pd yr (WT d (r 0)) ++ R) _ := hP
    have hD9 : va_D A (mw cI M 1 n d r Wd ch pd yr (WT d (r 0)) ++ R) := hD
    have hz : (0 : Int32) = 0 := rfl
    exact W.iret (v := 0) hx hb hr (fun t ht hW => ⟨⟨_, (), rfl, hz, by rw [ht]; exact hP9, by rw [hAe]; exact hD9⟩, by rw [hAe]; exact hS.F ht⟩) hS.2.2 dX4_price_29
  · have bc_2 : (50 ≤ a ∧ a ≤ 99) ∧ (1 ≤ x ∧ x ≤ 999) ∧ (0 ≤ p9 ∧ p9 ≤ 30) := b1.mp c_2
    exact (h9 bc_2).elim
set_option maxHeartbeats 4000000 in
set_option maxRecDepth 100000 in
theorem met_X4_told (l : Launch) (dC : Nat → ClassId) (dI : Nat → Nat → Nat) (cI cW : ClassId) (M : Nat → Nat) (th : Int32) (n : Nat) (d r : Nat → Int32) (Wd : Nat → Nat → Int32) (ch pd yr : Int32) (R : va_W) (hn : n ≤ 10) (hok : ∀ k, k < n → okW (Wd k)) (k f : Nat) (hk : k < n) (hf : f < 9) (sz : Nat) : Met l yX4_told wsX4_told ({ frames := 5, cells := 0, slots := 0, locals := 107 }) (Pre1 dC dI cI cW [.ref (M 0), .int (nI k), .int (nI f)] (mw cI M th n d r Wd ch pd yr (WT d (r 0)) ++ R) sz) (Qi1 dC dI (fun z => z = tellS d r (Wd k) f) (mw cI M th n d r Wd ch pd yr (WT d (r 0)) ++ R) (mw cI M 0 n d r Wd ch pd yr (WT d (r 0)) ++ R) sz) 0 0 (va_A (mw cI M th n d r Wd ch pd yr (WT d (r 0)) ++ R) sz) := by
  refine Met.ofW (cc := cX4_told) (maxL := 3) (ret := (some .int)) (by decide) rfl ?_
  intro p e s m args below meth c s₁ B hml hv
  obtain ⟨rfl, hsz, hP, hD0, hKK⟩ := hv
  subst hsz
  have hx := B.exec
  have hb := B.bytes
  have hr := B.returns
  have hts := atoms_spec (ws := wsX4_told) B.pre
  have hown : s.vm.findClass RX4 = some m.cls := findClass_of_methodNamed B.named
  have hlocks := B.notSynchronized
  have hD := hD0.self (sz := s.heap.size)
  generalize hAe : va_A (mw cI M th n d r Wd ch pd yr (WT d (r 0)) ++ R) s.heap.size = A at hD ⊢
  have hA : ∀ q : Nat, s.heap.size ≤ q → A q := fun q h => by rw [← hAe]; exact Or.inr h
  have hS : va_S A s.heap s.heap [] := va_S.rf
  have hl := lv_entry ([.ref (M 0), .int (nI k), .int (nI f)]) (n := 3) (Nat.le_of_ble_eq_true rfl)
  rw [lg_entry_eq]
  generalize (lg_sl ([.ref (M 0), .int (nI k), .int (nI f)]) ++ List.replicate (3 - (lg_sl ([.ref (M 0), .int (nI k), .int (nI f)])).length) Slot.unset).toArray = ls at hl ⊢
  have hl : lv_has ls 3 [(0, .ref (M 0)), (1, .int (nI k)), (2, .int (nI f))] := hl
  refine lv_aload_n hx hb dX4_told_0 rfl (lv_at hl 0 rfl) ?_
  refine lv_iconst (v := 0) hx hb dX4_told_1 (by decide) ?_
  refine va_put (D := (dC, dI)) (ci := 4) (v := .int 0) (ty := .int) (C := RX4) (T := TX4) (N := 7) hx hb hts (by decide +kernel) tyX4 tyX4_ok nmX4 hown hKK.1 hP hD hS 0 rfl rfl 0 (by decide) (hts (.fieldLink RX4 28 "WidowPenniesModel" "thrown" "I") (by decide +kernel)) (fun _ h9 => h9) rfl (by decide +kernel) rfl rfl (Nat.le_of_ble_eq_true rfl) dX4_told_2 (fun H locs hP hD hS => ?_)
  have hP : va_P (dC, dI) vwCl (mw cI M 0 n d r Wd ch pd yr (WT d (r 0)) ++ R) H := hP
  have hD : va_D A (mw cI M 0 n d r Wd ch pd yr (WT d (r 0)) ++ R) := hD
  refine lv_aload_n hx hb dX4_told_5 rfl (lv_at hl 0 rfl) ?_
  refine lv_iload_n hx hb dX4_told_6 rfl (lv_at hl 1 rfl) ?_
  refine rd_i (runV0 (As := [.int (nI k)]) (rest := []) ⟨hx, hb, hml, hown, hts⟩ (met_X4_isWidow l dC dI cI cW M 0 n d r Wd ch pd yr (WT d (r 0)) (nI k)) (cwV 1 hts gX4_told_X4_isWidow rfl rfl rfl (by decide +kernel) ⟨Nat.le_of_ble_eq_true rfl, Nat.le_of_ble_eq_true rfl⟩) hKK (ws_left hP) 4 0 rfl rfl rfl hl.1 (Nat.le_of_ble_eq_true rfl) rfl dX4_told_7 ⟨Nat.zero_le _, Nat.zero_le _⟩) (fun r_1 hr_1 => ?_)
  subst hr_1
  refine lv_if_eq (tgt := 32) hx hb dX4_told_10 (by decide) (fun c_2 => ?_) (fun c_2 => ?_)
  · have bc_2 : ¬ (0 ≤ (nI k) ∧ (nI k) ≤ nI n - 1) := b0.mp c_2
    exact absurd (wid_in2 hk hn) bc_2
  · have bc_2 : 0 ≤ (nI k) ∧ (nI k) ≤ nI n - 1 := b1.mp c_2
    refine lv_iload_n hx hb dX4_told_13 rfl (lv_at hl 2 rfl) ?_
    refine lv_iconst (v := 0) hx hb dX4_told_14 (by decide) ?_
    refine lv_bipush (v := 8) hx hb dX4_told_15 (by decide) ?_
    refine rd_i (runS0 (As := [.int (nI f), .int 0, .int 8]) (rest := []) ⟨hx, hb, hml, hown, hts⟩ (met_X4_isIn l dC dI cI cW (nI f) 0 8) (va_cwS 3 hts gX4_told_X4_isIn rfl rfl rfl (by decide +kernel) ⟨Nat.le_of_ble_eq_true rfl, Nat.le_of_ble_eq_true rfl⟩) hKK nilP rfl hl.1 (Nat.le_of_ble_eq_true rfl) rfl dX4_told_17 ⟨Nat.zero_le _, Nat.zero_le _⟩) (fun r_3 hr_3 => ?_)
    subst hr_3
    refine lv_if_eq (tgt := 32) hx hb dX4_told_20 (by decide) (fun c_4 => ?_) (fun c_4 => ?_)
    · have bc_4 : ¬ (0 ≤ (nI f) ∧ (nI f) ≤ 8) := b0.mp c_4
      exact absurd (int_in (lo := 0) (hi := 8) (Nat.zero_le _) (by omega) (by omega)) bc_4
    · have bc_4 : 0 ≤ (nI f) ∧ (nI f) ≤ 8 := b1.mp c_4
      refine lv_aload_n hx hb dX4_told_23 rfl (lv_at hl 0 rfl) ?_
      refine lv_iload_n hx hb dX4_told_24 rfl (lv_at hl 1 rfl) ?_
      refine lv_iload_n hx hb dX4_told_25 rfl (lv_at hl 2 rfl) ?_
      refine rd_i (runV0 (As := [.int (nI k), .int (nI f)]) (rest := []) ⟨hx, hb, hml, hown, hts⟩ (met_X4_widowTold l dC dI cI cW M 0 n d r Wd ch pd yr k (by omega) (hok k hk) f hf) (cwV 2 hts gX4_told_X4_widowTold rfl rfl rfl (by decide +kernel) ⟨Nat.le_of_ble_eq_true rfl, Nat.le_of_ble_eq_true rfl⟩) hKK (ws_left hP) 4 0 rfl rfl rfl hl.1 (Nat.le_of_ble_eq_true rfl) rfl dX4_told_26 ⟨Nat.zero_le _, Nat.zero_le _⟩) (fun r_5 hr_5 => ?_)
      subst hr_5
      refine lv_goto (tgt := 37) hx hb dX4_told_29 (by decide) ?_
      have hP9 : va_P (dC, dI) vwCl (mw cI M 0 n d r Wd ch pd yr (WT d (r 0)) ++ R) _ := hP
      have hD9 : va_D A (mw cI M 0 n d r Wd ch pd yr (WT d (r 0)) ++ R) := hD
      have hz : (tellS d r (Wd k) f : Int32) = tellS d r (Wd k) f := rfl
      exact W.iret (v := (tellS d r (Wd k) f)) hx hb hr (fun t ht hW => ⟨⟨_, (), rfl, hz, by rw [ht]; exact hP9, by rw [hAe]; exact hD9⟩, by rw [hAe]; exact hS.F ht⟩) hS.2.2 dX4_told_37
set_option maxHeartbeats 4000000 in
set_option maxRecDepth 100000 in
theorem met1_X4_told (l : Launch) (dC : Nat → ClassId) (dI : Nat → Nat → Nat) (cI cW : ClassId) (M : Nat → Nat) (th : Int32) (n : Nat) (d r : Nat → Int32) (Wd : Nat → Nat → Int32) (ch pd yr : Int32) (R : va_W) (hn : n ≤ 10) (a f : Int32) (h9 : ¬ ((0 ≤ a ∧ a < nI n) ∧ (0 ≤ f ∧ f ≤ 8))) (sz : Nat) : Met l yX4_told wsX4_told ({ frames := 5, cells := 0, slots := 0, locals := 107 }) (Pre1 dC dI cI cW [.ref (M 0), .int a, .int f] (mw cI M th n d r Wd ch pd yr (WT d (r 0)) ++ R) sz) (Qi1 dC dI (fun z => z = 0) (mw cI M th n d r Wd ch pd yr (WT d (r 0)) ++ R) (mw cI M 1 n d r Wd ch pd yr (WT d (r 0)) ++ R) sz) 0 0 (va_A (mw cI M th n d r Wd ch pd yr (WT d (r 0)) ++ R) sz) := by
  refine Met.ofW (cc := cX4_told) (maxL := 3) (ret := (some .int)) (by decide) rfl ?_
  intro p e s m args below meth c s₁ B hml hv
  obtain ⟨rfl, hsz, hP, hD0, hKK⟩ := hv
  subst hsz
  have hx := B.exec
  have hb := B.bytes
  have hr := B.returns
  have hts := atoms_spec (ws := wsX4_told) B.pre
  have hown : s.vm.findClass RX4 = some m.cls := findClass_of_methodNamed B.named
  have hlocks := B.notSynchronized
  have hD := hD0.self (sz := s.heap.size)
  generalize hAe : va_A (mw cI M th n d r Wd ch pd yr (WT d (r 0)) ++ R) s.heap.size = A at hD ⊢
  have hA : ∀ q : Nat, s.heap.size ≤ q → A q := fun q h => by rw [← hAe]; exact Or.inr h
  have hS : va_S A s.heap s.heap [] := va_S.rf
  have hl := lv_entry ([.ref (M 0), .int a, .int f]) (n := 3) (Nat.le_of_ble_eq_true rfl)
  rw [lg_entry_eq]
  generalize (lg_sl ([.ref (M 0), .int a, .int f]) ++ List.replicate (3 - (lg_sl ([.ref (M 0), .int a, .int f])).length) Slot.unset).toArray = ls at hl ⊢
  have hl : lv_has ls 3 [(0, .ref (M 0)), (1, .int a), (2, .int f)] := hl
  refine lv_aload_n hx hb dX4_told_0 rfl (lv_at hl 0 rfl) ?_
  refine lv_iconst (v := 0) hx hb dX4_told_1 (by decide) ?_
  refine va_put (D := (dC, dI)) (ci := 4) (v := .int 0) (ty := .int) (C := RX4) (T := TX4) (N := 7) hx hb hts (by decide +kernel) tyX4 tyX4_ok nmX4 hown hKK.1 hP hD hS 0 rfl rfl 0 (by decide) (hts (.fieldLink RX4 28 "WidowPenniesModel" "thrown" "I") (by decide +kernel)) (fun _ h9 => h9) rfl (by decide +kernel) rfl rfl (Nat.le_of_ble_eq_true rfl) dX4_told_2 (fun H locs hP hD hS => ?_)
  have hP : va_P (dC, dI) vwCl (mw cI M 0 n d r Wd ch pd yr (WT d (r 0)) ++ R) H := hP
  have hD : va_D A (mw cI M 0 n d r Wd ch pd yr (WT d (r 0)) ++ R) := hD
  refine lv_aload_n hx hb dX4_told_5 rfl (lv_at hl 0 rfl) ?_
  refine lv_iload_n hx hb dX4_told_6 rfl (lv_at hl 1 rfl) ?_
  refine rd_i (runV0 (As := [.int a]) (rest := []) ⟨hx, hb, hml, hown, hts⟩ (met_X4_isWidow l dC dI cI cW M 0 n d r Wd ch pd yr (WT d (r 0)) a) (cwV 1 hts gX4_told_X4_isWidow rfl rfl rfl (by decide +kernel) ⟨Nat.le_of_ble_eq_true rfl, Nat.le_of_ble_eq_true rfl⟩) hKK (ws_left hP) 4 0 rfl rfl rfl hl.1 (Nat.le_of_ble_eq_true rfl) rfl dX4_told_7 ⟨Nat.zero_le _, Nat.zero_le _⟩) (fun r_1 hr_1 => ?_)
  subst hr_1
  refine lv_if_eq (tgt := 32) hx hb dX4_told_10 (by decide) (fun c_2 => ?_) (fun c_2 => ?_)
  · have bc_2 : ¬ (0 ≤ a ∧ a ≤ nI n - 1) := b0.mp c_2
    refine lv_aload_n hx hb dX4_told_32 rfl (lv_at hl 0 rfl) ?_
    refine lv_iconst (v := 1) hx hb dX4_told_33 (by decide) ?_
    refine wr_i (runV1 (As := [.int 1]) (rest := []) ⟨hx, hb, hml, hown, hts⟩ (met_X4_fail l dC dI cI cW M 0 n d r Wd ch pd yr (WT d (r 0)) R 1 _) (cwV 1 hts gX4_told_X4_fail rfl rfl rfl (by decide +kernel) ⟨Nat.le_of_ble_eq_true rfl, Nat.le_of_ble_eq_true rfl⟩) hKK hP hD 4 0 rfl rfl rfl hl.1 (Nat.le_of_ble_eq_true rfl) rfl dX4_told_34 ⟨Nat.zero_le _, Nat.zero_le _⟩) hD hS hA (fun r_3 H locs hr_3 hP hD hS => ?_)
    subst hr_3
    have hP : va_P (dC, dI) vwCl (mw cI M 1 n d r Wd ch pd yr (WT d (r 0)) ++ R) H := hP
    have hD : va_D A (mw cI M 1 n d r Wd ch pd yr (WT d (r 0)) ++ R) := hD
    have hP9 : va_P (dC, dI) vwCl (mw cI M 1 n d r Wd ch pd yr (WT d (r 0)) ++ R) _ := hP
    have hD9 : va_D A (mw cI M 1 n d r Wd ch pd yr (WT d (r 0)) ++ R) := hD
    have hz : (0 : Int32) = 0 := rfl
    exact W.iret (v := 0) hx hb hr (fun t ht hW => ⟨⟨_, (), rfl, hz, by rw [ht]; exact hP9, by rw [hAe]; exact hD9⟩, by rw [hAe]; exact hS.F ht⟩) hS.2.2 dX4_told_37
  · have bc_2 : 0 ≤ a ∧ a ≤ nI n - 1 := b1.mp c_2
    refine lv_iload_n hx hb dX4_told_13 rfl (lv_at hl 2 rfl) ?_
    refine lv_iconst (v := 0) hx hb dX4_told_14 (by decide) ?_
    refine lv_bipush (v := 8) hx hb dX4_told_15 (by decide) ?_
    refine rd_i (runS0 (As := [.int f, .int 0, .int 8]) (rest := []) ⟨hx, hb, hml, hown, hts⟩ (met_X4_isIn l dC dI cI cW f 0 8) (va_cwS 3 hts gX4_told_X4_isIn rfl rfl rfl (by decide +kernel) ⟨Nat.le_of_ble_eq_true rfl, Nat.le_of_ble_eq_true rfl⟩) hKK nilP rfl hl.1 (Nat.le_of_ble_eq_true rfl) rfl dX4_told_17 ⟨Nat.zero_le _, Nat.zero_le _⟩) (fun r_4 hr_4 => ?_)
    subst hr_4
    refine lv_if_eq (tgt := 32) hx hb dX4_told_20 (by decide) (fun c_5 => ?_) (fun c_5 => ?_)
    · have bc_5 : ¬ (0 ≤ f ∧ f ≤ 8) := b0.mp c_5
      refine lv_aload_n hx hb dX4_told_32 rfl (lv_at hl 0 rfl) ?_
      refine lv_iconst (v := 1) hx hb dX4_told_33 (by decide) ?_
      refine wr_i (runV1 (As := [.int 1]) (rest := []) ⟨hx, hb, hml, hown, hts⟩ (met_X4_fail l dC dI cI cW M 0 n d r Wd ch pd yr (WT d (r 0)) R 1 _) (cwV 1 hts gX4_told_X4_fail rfl rfl rfl (by decide +kernel) ⟨Nat.le_of_ble_eq_true rfl, Nat.le_of_ble_eq_true rfl⟩) hKK hP hD 4 0 rfl rfl rfl hl.1 (Nat.le_of_ble_eq_true rfl) rfl dX4_told_34 ⟨Nat.zero_le _, Nat.zero_le _⟩) hD hS hA (fun r_6 H locs hr_6 hP hD hS => ?_)
      subst hr_6
      have hP : va_P (dC, dI) vwCl (mw cI M 1 n d r Wd ch pd yr (WT d (r 0)) ++ R) H := hP
      have hD : va_D A (mw cI M 1 n d r Wd ch pd yr (WT d (r 0)) ++ R) := hD
      have hP9 : va_P (dC, dI) vwCl (mw cI M 1 n d r Wd ch pd yr (WT d (r 0)) ++ R) _ := hP
      have hD9 : va_D A (mw cI M 1 n d r Wd ch pd yr (WT d (r 0)) ++ R) := hD
      have hz : (0 : Int32) = 0 := rfl
      exact W.iret (v := 0) hx hb hr (fun t ht hW => ⟨⟨_, (), rfl, hz, by rw [ht]; exact hP9, by rw [hAe]; exact hD9⟩, by rw [hAe]; exact hS.F ht⟩) hS.2.2 dX4_told_37
    · have bc_5 : 0 ≤ f ∧ f ≤ 8 := b1.mp c_5
      exact (h9 ⟨wid_lt hn bc_2, bc_5⟩).elim
set_option maxHeartbeats 4000000 in
set_option maxRecDepth 100000 in
theorem met_X4_count (l : Launch) (dC : Nat → ClassId) (dI : Nat → Nat → Nat) (cI cW : ClassId) (M : Nat → Nat) (th : Int32) (n : Nat) (d r : Nat → Int32) (Wd : Nat → Nat → Int32) (ch pd yr : Int32) (R : va_W) (hn : n ≤ 10) (hok : ∀ k, k < n → okW (Wd k)) (k : Nat) (hk : k < 9) (sz : Nat) : Met l yX4_count wsX4_count ({ frames := 5, cells := 0, slots := 0, locals := 109 }) (Pre1 dC dI cI cW [.ref (M 0), .int (nI k)] (mw cI M th n d r Wd ch pd yr (WT d (r 0)) ++ R) sz) (Qi1 dC dI (fun z => z = countS d r n ch pd (sm (prcF Wd) n) yr Wd k) (mw cI M th n d r Wd ch pd yr (WT d (r 0)) ++ R) (mw cI M 0 n d r Wd ch pd yr (WT d (r 0)) ++ R) sz) 0 0 (va_A (mw cI M th n d r Wd ch pd yr (WT d (r 0)) ++ R) sz) := by
  refine Met.ofW (cc := cX4_count) (maxL := 2) (ret := (some .int)) (by decide) rfl ?_
  intro p e s m args below meth c s₁ B hml hv
  obtain ⟨rfl, hsz, hP, hD0, hKK⟩ := hv
  subst hsz
  have hx := B.exec
  have hb := B.bytes
  have hr := B.returns
  have hts := atoms_spec (ws := wsX4_count) B.pre
  have hown : s.vm.findClass RX4 = some m.cls := findClass_of_methodNamed B.named
  have hlocks := B.notSynchronized
  have hD := hD0.self (sz := s.heap.size)
  generalize hAe : va_A (mw cI M th n d r Wd ch pd yr (WT d (r 0)) ++ R) s.heap.size = A at hD ⊢
  have hA : ∀ q : Nat, s.heap.size ≤ q → A q := fun q h => by rw [← hAe]; exact Or.inr h
  have hS : va_S A s.heap s.heap [] := va_S.rf
  have hl := lv_entry ([.ref (M 0), .int (nI k)]) (n := 2) (Nat.le_of_ble_eq_true rfl)
  rw [lg_entry_eq]
  generalize (lg_sl ([.ref (M 0), .int (nI k)]) ++ List.replicate (2 - (lg_sl ([.ref (M 0), .int (nI k)])).length) Slot.unset).toArray = ls at hl ⊢
  have hl : lv_has ls 2 [(0, .ref (M 0)), (1, .int (nI k))] := hl
  refine lv_aload_n hx hb dX4_count_0 rfl (lv_at hl 0 rfl) ?_
  refine lv_iconst (v := 0) hx hb dX4_count_1 (by decide) ?_
  refine va_put (D := (dC, dI)) (ci := 4) (v := .int 0) (ty := .int) (C := RX4) (T := TX4) (N := 7) hx hb hts (by decide +kernel) tyX4 tyX4_ok nmX4 hown hKK.1 hP hD hS 0 rfl rfl 0 (by decide) (hts (.fieldLink RX4 28 "WidowPenniesModel" "thrown" "I") (by decide +kernel)) (fun _ h9 => h9) rfl (by decide +kernel) rfl rfl (Nat.le_of_ble_eq_true rfl) dX4_count_2 (fun H locs hP hD hS => ?_)
  have hP : va_P (dC, dI) vwCl (mw cI M 0 n d r Wd ch pd yr (WT d (r 0)) ++ R) H := hP
  have hD : va_D A (mw cI M 0 n d r Wd ch pd yr (WT d (r 0)) ++ R) := hD
  refine lv_iload_n hx hb dX4_count_5 rfl (lv_at hl 1 rfl) ?_
  refine lv_iconst (v := 0) hx hb dX4_count_6 (by decide) ?_
  refine lv_bipush (v := 8) hx hb dX4_count_7 (by decide) ?_
  refine rd_i (runS0 (As := [.int (nI k), .int 0, .int 8]) (rest := []) ⟨hx, hb, hml, hown, hts⟩ (met_X4_isIn l dC dI cI cW (nI k) 0 8) (va_cwS 3 hts gX4_count_X4_isIn rfl rfl rfl (by decide +kernel) ⟨Nat.le_of_ble_eq_true rfl, Nat.le_of_ble_eq_true rfl⟩) hKK nilP rfl hl.1 (Nat.le_of_ble_eq_true rfl) rfl dX4_count_9 ⟨Nat.zero_le _, Nat.zero_le _⟩) (fun r_1 hr_1 => ?_)
  subst hr_1
  refine lv_if_eq (tgt := 23) hx hb dX4_count_12 (by decide) (fun c_2 => ?_) (fun c_2 => ?_)
  · have bc_2 : ¬ (0 ≤ (nI k) ∧ (nI k) ≤ 8) := b0.mp c_2
    exact absurd (int_in (lo := 0) (hi := 8) (Nat.zero_le _) (by omega) (by omega)) bc_2
  · have bc_2 : 0 ≤ (nI k) ∧ (nI k) ≤ 8 := b1.mp c_2
    refine lv_aload_n hx hb dX4_count_15 rfl (lv_at hl 0 rfl) ?_
    refine lv_iload_n hx hb dX4_count_16 rfl (lv_at hl 1 rfl) ?_
    refine rd_i (runV0 (As := [.int (nI k)]) (rest := []) ⟨hx, hb, hml, hown, hts⟩ (met_X4_counted l dC dI cI cW M 0 n d r Wd ch pd yr hn hok k hk) (cwV 1 hts gX4_count_X4_counted rfl rfl rfl (by decide +kernel) ⟨Nat.le_of_ble_eq_true rfl, Nat.le_of_ble_eq_true rfl⟩) hKK (ws_left hP) 4 0 rfl rfl rfl hl.1 (Nat.le_of_ble_eq_true rfl) rfl dX4_count_17 ⟨Nat.zero_le _, Nat.zero_le _⟩) (fun r_3 hr_3 => ?_)
    subst hr_3
    refine lv_goto (tgt := 28) hx hb dX4_count_20 (by decide) ?_
    have hP9 : va_P (dC, dI) vwCl (mw cI M 0 n d r Wd ch pd yr (WT d (r 0)) ++ R) _ := hP
    have hD9 : va_D A (mw cI M 0 n d r Wd ch pd yr (WT d (r 0)) ++ R) := hD
    have hz : (countS d r n ch pd (sm (prcF Wd) n) yr Wd k : Int32) = countS d r n ch pd (sm (prcF Wd) n) yr Wd k := rfl
    exact W.iret (v := (countS d r n ch pd (sm (prcF Wd) n) yr Wd k)) hx hb hr (fun t ht hW => ⟨⟨_, (), rfl, hz, by rw [ht]; exact hP9, by rw [hAe]; exact hD9⟩, by rw [hAe]; exact hS.F ht⟩) hS.2.2 dX4_count_28
set_option maxHeartbeats 4000000 in
set_option maxRecDepth 100000 in
theorem met1_X4_count (l : Launch) (dC : Nat → ClassId) (dI : Nat → Nat → Nat) (cI cW : ClassId) (M : Nat → Nat) (th : Int32) (n : Nat) (d r : Nat → Int32) (Wd : Nat → Nat → Int32) (ch pd yr : Int32) (R : va_W) (f : Int32) (h9 : ¬ (0 ≤ f ∧ f ≤ 8)) (sz : Nat) : Met l yX4_count wsX4_count ({ frames := 5, cells := 0, slots := 0, locals := 109 }) (Pre1 dC dI cI cW [.ref (M 0), .int f] (mw cI M th n d r Wd ch pd yr (WT d (r 0)) ++ R) sz) (Qi1 dC dI (fun z => z = 0) (mw cI M th n d r Wd ch pd yr (WT d (r 0)) ++ R) (mw cI M 1 n d r Wd ch pd yr (WT d (r 0)) ++ R) sz) 0 0 (va_A (mw cI M th n d r Wd ch pd yr (WT d (r 0)) ++ R) sz) := by
  refine Met.ofW (cc := cX4_count) (maxL := 2) (ret := (some .int)) (by decide) rfl ?_
  intro p e s m args below meth c s₁ B hml hv
  obtain ⟨rfl, hsz, hP, hD0, hKK⟩ := hv
  subst hsz
  have hx := B.exec
  have hb := B.bytes
  have hr := B.returns
  have hts := atoms_spec (ws := wsX4_count) B.pre
  have hown : s.vm.findClass RX4 = some m.cls := findClass_of_methodNamed B.named
  have hlocks := B.notSynchronized
  have hD := hD0.self (sz := s.heap.size)
  generalize hAe : va_A (mw cI M th n d r Wd ch pd yr (WT d (r 0)) ++ R) s.heap.size = A at hD ⊢
  have hA : ∀ q : Nat, s.heap.size ≤ q → A q := fun q h => by rw [← hAe]; exact Or.inr h
  have hS : va_S A s.heap s.heap [] := va_S.rf
  have hl := lv_entry ([.ref (M 0), .int f]) (n := 2) (Nat.le_of_ble_eq_true rfl)
  rw [lg_entry_eq]
  generalize (lg_sl ([.ref (M 0), .int f]) ++ List.replicate (2 - (lg_sl ([.ref (M 0), .int f])).length) Slot.unset).toArray = ls at hl ⊢
  have hl : lv_has ls 2 [(0, .ref (M 0)), (1, .int f)] := hl
  refine lv_aload_n hx hb dX4_count_0 rfl (lv_at hl 0 rfl) ?_
  refine lv_iconst (v := 0) hx hb dX4_count_1 (by decide) ?_
  refine va_put (D := (dC, dI)) (ci := 4) (v := .int 0) (ty := .int) (C := RX4) (T := TX4) (N := 7) hx hb hts (by decide +kernel) tyX4 tyX4_ok nmX4 hown hKK.1 hP hD hS 0 rfl rfl 0 (by decide) (hts (.fieldLink RX4 28 "WidowPenniesModel" "thrown" "I") (by decide +kernel)) (fun _ h9 => h9) rfl (by decide +kernel) rfl rfl (Nat.le_of_ble_eq_true rfl) dX4_count_2 (fun H locs hP hD hS => ?_)
  have hP : va_P (dC, dI) vwCl (mw cI M 0 n d r Wd ch pd yr (WT d (r 0)) ++ R) H := hP
  have hD : va_D A (mw cI M 0 n d r Wd ch pd yr (WT d (r 0)) ++ R) := hD
  refine lv_iload_n hx hb dX4_count_5 rfl (lv_at hl 1 rfl) ?_
  refine lv_iconst (v := 0) hx hb dX4_count_6 (by decide) ?_
  refine lv_bipush (v := 8) hx hb dX4_count_7 (by decide) ?_
  refine rd_i (runS0 (As := [.int f, .int 0, .int 8]) (rest := []) ⟨hx, hb, hml, hown, hts⟩ (met_X4_isIn l dC dI cI cW f 0 8) (va_cwS 3 hts gX4_count_X4_isIn rfl rfl rfl (by decide +kernel) ⟨Nat.le_of_ble_eq_true rfl, Nat.le_of_ble_eq_true rfl⟩) hKK nilP rfl hl.1 (Nat.le_of_ble_eq_true rfl) rfl dX4_count_9 ⟨Nat.zero_le _, Nat.zero_le _⟩) (fun r_1 hr_1 => ?_)
  subst hr_1
  refine lv_if_eq (tgt := 23) hx hb dX4_count_12 (by decide) (fun c_2 => ?_) (fun c_2 => ?_)
  · have bc_2 : ¬ (0 ≤ f ∧ f ≤ 8) := b0.mp c_2
    refine lv_aload_n hx hb dX4_count_23 rfl (lv_at hl 0 rfl) ?_
    refine lv_iconst (v := 1) hx hb dX4_count_24 (by decide) ?_
    refine wr_i (runV1 (As := [.int 1]) (rest := []) ⟨hx, hb, hml, hown, hts⟩ (met_X4_fail l dC dI cI cW M 0 n d r Wd ch pd yr (WT d (r 0)) R 1 _) (cwV 1 hts gX4_count_X4_fail rfl rfl rfl (by decide +kernel) ⟨Nat.le_of_ble_eq_true rfl, Nat.le_of_ble_eq_true rfl⟩) hKK hP hD 4 0 rfl rfl rfl hl.1 (Nat.le_of_ble_eq_true rfl) rfl dX4_count_25 ⟨Nat.zero_le _, Nat.zero_le _⟩) hD hS hA (fun r_3 H locs hr_3 hP hD hS => ?_)
    subst hr_3
    have hP : va_P (dC, dI) vwCl (mw cI M 1 n d r Wd ch pd yr (WT d (r 0)) ++ R) H := hP
    have hD : va_D A (mw cI M 1 n d r Wd ch pd yr (WT d (r 0)) ++ R) := hD
    have hP9 : va_P (dC, dI) vwCl (mw cI M 1 n d r Wd ch pd yr (WT d (r 0)) ++ R) _ := hP
    have hD9 : va_D A (mw cI M 1 n d r Wd ch pd yr (WT d (r 0)) ++ R) := hD
    have hz : (0 : Int32) = 0 := rfl
    exact W.iret (v := 0) hx hb hr (fun t ht hW => ⟨⟨_, (), rfl, hz, by rw [ht]; exact hP9, by rw [hAe]; exact hD9⟩, by rw [hAe]; exact hS.F ht⟩) hS.2.2 dX4_count_28
  · have bc_2 : 0 ≤ f ∧ f ≤ 8 := b1.mp c_2
    exact (h9 bc_2).elim
set_option maxHeartbeats 4000000 in
set_option maxRecDepth 100000 in
theorem met_X4_alive (l : Launch) (dC : Nat → ClassId) (dI : Nat → Nat → Nat) (cI cW : ClassId) (M : Nat → Nat) (th : Int32) (n : Nat) (d r : Nat → Int32) (Wd : Nat → Nat → Int32) (ch pd yr : Int32) (R : va_W) (ka y : Nat) (h1 : 50 ≤ ka) (h2 : ka ≤ 99) (h3 : y ≤ 60) (sz : Nat) : Met l yX4_alive wsX4_alive ({ frames := 2, cells := 0, slots := 0, locals := 42 }) (Pre1 dC dI cI cW [.ref (M 0), .int (nI ka), .int (nI y)] (mw cI M th n d r Wd ch pd yr (WT d (r 0)) ++ R) sz) (Qi1 dC dI (fun z => z = (if 99 < ka + y then 0 else aliveS d (ka - 50) y)) (mw cI M th n d r Wd ch pd yr (WT d (r 0)) ++ R) (mw cI M 0 n d r Wd ch pd yr (WT d (r 0)) ++ R) sz) 0 0 (va_A (mw cI M th n d r Wd ch pd yr (WT d (r 0)) ++ R) sz) := by
  refine Met.ofW (cc := cX4_alive) (maxL := 5) (ret := (some .int)) (by decide) rfl ?_
  intro p e s m args below meth c s₁ B hml hv
  obtain ⟨rfl, hsz, hP, hD0, hKK⟩ := hv
  subst hsz
  have hx := B.exec
  have hb := B.bytes
  have hr := B.returns
  have hts := atoms_spec (ws := wsX4_alive) B.pre
  have hown : s.vm.findClass RX4 = some m.cls := findClass_of_methodNamed B.named
  have hlocks := B.notSynchronized
  have hD := hD0.self (sz := s.heap.size)
  generalize hAe : va_A (mw cI M th n d r Wd ch pd yr (WT d (r 0)) ++ R) s.heap.size = A at hD ⊢
  have hA : ∀ q : Nat, s.heap.size ≤ q → A q := fun q h => by rw [← hAe]; exact Or.inr h
  have hS : va_S A s.heap s.heap [] := va_S.rf
  have hl := lv_entry ([.ref (M 0), .int (nI ka), .int (nI y)]) (n := 5) (Nat.le_of_ble_eq_true rfl)
  rw [lg_entry_eq]
  generalize (lg_sl ([.ref (M 0), .int (nI ka), .int (nI y)]) ++ List.replicate (5 - (lg_sl ([.ref (M 0), .int (nI ka), .int (nI y)])).length) Slot.unset).toArray = ls at hl ⊢
  have hl : lv_has ls 5 [(0, .ref (M 0)), (1, .int (nI ka)), (2, .int (nI y))] := hl
  have key : ka + y ≤ 99 → ∀ (H : Heap) (locs : List Loc), va_P (dC, dI) vwCl (mw cI M 0 n d r Wd ch pd yr (WT d (r 0)) ++ R) H → va_D A (mw cI M 0 n d r Wd ch pd yr (WT d (r 0)) ++ R) → va_S A s.heap H locs → ∀ (m9 j : Nat), j + m9 = y → ∀ ls : Array Slot, lv_has ls 5 [(4, .int (nI j)), (3, .int (aliveS d (ka - 50) j)), (0, .ref (M 0)), (1, .int (nI ka)), (2, .int (nI y))] → W p l e (headSpec wsX4_alive ({ frames := 2, cells := 0, slots := 0, locals := 42 })).room s m (([.ref (M 0), .int (nI ka), .int (nI y)] : List Value).toArray) below meth c H locs 0 0 (MQ below (Qi1 dC dI (fun z => z = (if 99 < ka + y then 0 else aliveS d (ka - 50) y)) (mw cI M th n d r Wd ch pd yr (WT d (r 0)) ++ R) (mw cI M 0 n d r Wd ch pd yr (WT d (r 0)) ++ R) s.heap.size) ([.ref (M 0), .int (nI ka), .int (nI y)] : List Value).toArray s 0 0 A) (F0 m 45 ls []) := by
    intro hle H locs hP hD hS m9
    induction m9 with
    | zero =>
      intro j hj ls hl
      refine lv_iload hx hb dX4_alive_45 (lv_at hl 0 rfl) ?_
      refine lv_iload_n hx hb dX4_alive_47 rfl (lv_at hl 4 rfl) ?_
      refine lv_icmp_ge (tgt := 80) hx hb dX4_alive_48 (by decide) (fun c_1 => ?_) (fun c_1 => ?_)
      · refine lv_iload_n hx hb dX4_alive_80 rfl (lv_at hl 1 rfl) ?_
        have hP9 : va_P (dC, dI) vwCl (mw cI M 0 n d r Wd ch pd yr (WT d (r 0)) ++ R) _ := hP
        have hD9 : va_D A (mw cI M 0 n d r Wd ch pd yr (WT d (r 0)) ++ R) := hD
        have hz : aliveS d (ka - 50) j = (if 99 < ka + y then 0 else aliveS d (ka - 50) y) := by rw [if_neg (by omega), show j = y by omega]
        exact W.iret (v := (aliveS d (ka - 50) j)) hx hb hr (fun t ht hW => ⟨⟨_, (), rfl, hz, by rw [ht]; exact hP9, by rw [hAe]; exact hD9⟩, by rw [hAe]; exact hS.F ht⟩) hS.2.2 dX4_alive_81
      · exact absurd ((le_nI (by omega)).mpr (by omega)) c_1
    | succ m9 ih =>
      intro j hj ls hl
      refine lv_iload hx hb dX4_alive_45 (lv_at hl 0 rfl) ?_
      refine lv_iload_n hx hb dX4_alive_47 rfl (lv_at hl 4 rfl) ?_
      refine lv_icmp_ge (tgt := 80) hx hb dX4_alive_48 (by decide) (fun c_1 => ?_) (fun c_1 => ?_)
      · exact absurd c_1 (fun q9 => absurd ((le_nI (by omega)).mp q9) (by omega))
      · refine lv_iload_n hx hb dX4_alive_51 rfl (lv_at hl 1 rfl) ?_
        refine lv_sipush (v := 1000) hx hb dX4_alive_52 (by decide) ?_
        refine lv_aload_n hx hb dX4_alive_55 rfl (lv_at hl 2 rfl) ?_
        refine va_get (D := (dC, dI)) (ci := 4) (v := .ref (M 2)) (C := RX4) (T := TX4) (N := 7) hx hb hts (by decide +kernel) hown hKK.1 hP 0 rfl rfl 3 (by decide) (hts (.fieldLink RX4 13 "WidowPenniesModel" "deaths" "[I") (by decide +kernel)) (fun _ h9 => h9) rfl dX4_alive_56 ?_
        refine lv_iload_n hx hb dX4_alive_59 rfl (lv_at hl 3 rfl) ?_
        refine lv_bipush (v := 50) hx hb dX4_alive_60 (by decide) ?_
        refine lv_isub hx hb dX4_alive_62 ?_
        rw [show ((nI ka) - 50 : Int32) = nI (ka - 50) from n_sub (b := 50) h1]
        refine lv_iload hx hb dX4_alive_63 (lv_at hl 0 rfl) ?_
        refine lv_iadd hx hb dX4_alive_65 ?_
        rw [show ((nI (ka - 50)) + (nI j) : Int32) = nI (ka - 50 + j) from nI_add _ _]
        refine va_iald hx hb hKK.1 hP 2 0 rfl rfl (vp_in_nI (by omega) (by omega)) dX4_alive_66 ?_
        rw [show d (nI (ka - 50 + j)).toNatClampNeg = d (ka - 50 + j) from congrArg d (clamp_nI (by omega))]
        refine lv_isub hx hb dX4_alive_67 ?_
        refine lv_imul hx hb dX4_alive_68 ?_
        refine lv_sipush (v := 1000) hx hb dX4_alive_69 (by decide) ?_
        refine lv_idiv hx hb dX4_alive_72 (by decide) ?_
        rw [show (((aliveS d (ka - 50) j) * (1000 - (d (ka - 50 + j)))) / 1000 : Int32) = aliveS d (ka - 50) (j + 1) from rfl]
        refine lv_istore_n (lv' := [(3, .int (aliveS d (ka - 50) (j + 1))), (4, .int (nI j)), (0, .ref (M 0)), (1, .int (nI ka)), (2, .int (nI y))]) hx hb dX4_alive_73 rfl hl (by decide) rfl (fun ls hl => ?_)
        refine lv_iinc (v := (nI (j + 1))) (lv' := [(4, .int (nI (j + 1))), (3, .int (aliveS d (ka - 50) (j + 1))), (0, .ref (M 0)), (1, .int (nI ka)), (2, .int (nI y))]) hx hb dX4_alive_74 hl (k := 1) rfl (nI_1 j) (by decide) rfl (fun ls hl => ?_)
        refine lv_goto (tgt := 45) hx hb dX4_alive_77 (by decide) ?_
        exact ih (j + 1) (by omega) ls (lv_sub hl [0, 1, 2, 3, 4] rfl)
  refine lv_aload_n hx hb dX4_alive_0 rfl (lv_at hl 0 rfl) ?_
  refine lv_iconst (v := 0) hx hb dX4_alive_1 (by decide) ?_
  refine va_put (D := (dC, dI)) (ci := 4) (v := .int 0) (ty := .int) (C := RX4) (T := TX4) (N := 7) hx hb hts (by decide +kernel) tyX4 tyX4_ok nmX4 hown hKK.1 hP hD hS 0 rfl rfl 0 (by decide) (hts (.fieldLink RX4 28 "WidowPenniesModel" "thrown" "I") (by decide +kernel)) (fun _ h9 => h9) rfl (by decide +kernel) rfl rfl (Nat.le_of_ble_eq_true rfl) dX4_alive_2 (fun H locs hP hD hS => ?_)
  have hP : va_P (dC, dI) vwCl (mw cI M 0 n d r Wd ch pd yr (WT d (r 0)) ++ R) H := hP
  have hD : va_D A (mw cI M 0 n d r Wd ch pd yr (WT d (r 0)) ++ R) := hD
  refine lv_iload_n hx hb dX4_alive_5 rfl (lv_at hl 1 rfl) ?_
  refine rd_i (runS0 (As := [.int (nI ka)]) (rest := []) ⟨hx, hb, hml, hown, hts⟩ (met_X4_isAge l dC dI cI cW (nI ka)) (va_cwS 1 hts gX4_alive_X4_isAge rfl rfl rfl (by decide +kernel) ⟨Nat.le_of_ble_eq_true rfl, Nat.le_of_ble_eq_true rfl⟩) hKK nilP rfl hl.1 (Nat.le_of_ble_eq_true rfl) rfl dX4_alive_6 ⟨Nat.zero_le _, Nat.zero_le _⟩) (fun r_1 hr_1 => ?_)
  subst hr_1
  refine lv_if_eq (tgt := 22) hx hb dX4_alive_9 (by decide) (fun c_2 => ?_) (fun c_2 => ?_)
  · have bc_2 : ¬ (50 ≤ (nI ka) ∧ (nI ka) ≤ 99) := b0.mp c_2
    exact absurd (age_in h1 h2) bc_2
  · have bc_2 : 50 ≤ (nI ka) ∧ (nI ka) ≤ 99 := b1.mp c_2
    refine lv_iload_n hx hb dX4_alive_12 rfl (lv_at hl 2 rfl) ?_
    refine lv_iconst (v := 0) hx hb dX4_alive_13 (by decide) ?_
    refine lv_bipush (v := 60) hx hb dX4_alive_14 (by decide) ?_
    refine rd_i (runS0 (As := [.int (nI y), .int 0, .int 60]) (rest := []) ⟨hx, hb, hml, hown, hts⟩ (met_X4_isIn l dC dI cI cW (nI y) 0 60) (va_cwS 3 hts gX4_alive_X4_isIn rfl rfl rfl (by decide +kernel) ⟨Nat.le_of_ble_eq_true rfl, Nat.le_of_ble_eq_true rfl⟩) hKK nilP rfl hl.1 (Nat.le_of_ble_eq_true rfl) rfl dX4_alive_16 ⟨Nat.zero_le _, Nat.zero_le _⟩) (fun r_3 hr_3 => ?_)
    subst hr_3
    refine lv_if_ne (tgt := 28) hx hb dX4_alive_19 (by decide) (fun c_4 => ?_) (fun c_4 => ?_)
    · have bc_4 : 0 ≤ (nI y) ∧ (nI y) ≤ 60 := b1.mp c_4
      refine lv_iload_n hx hb dX4_alive_28 rfl (lv_at hl 1 rfl) ?_
      refine lv_iload_n hx hb dX4_alive_29 rfl (lv_at hl 2 rfl) ?_
      refine lv_iadd hx hb dX4_alive_30 ?_
      rw [show ((nI ka) + (nI y) : Int32) = nI (ka + y) from nI_add _ _]
      refine lv_bipush (v := 100) hx hb dX4_alive_31 (by decide) ?_
      refine lv_icmp_lt (tgt := 38) hx hb dX4_alive_33 (by decide) (fun c_6 => ?_) (fun c_6 => ?_)
      · have hle : ka + y ≤ 99 := by have := (lt_nI (b := 100) (by omega)).mp c_6; omega
        refine lv_sipush (v := 1000) hx hb dX4_alive_38 (by decide) ?_
        refine lv_istore_n (lv' := [(3, .int 1000), (0, .ref (M 0)), (1, .int (nI ka)), (2, .int (nI y))]) hx hb dX4_alive_41 rfl hl (by decide) rfl (fun ls hl => ?_)
        refine lv_iconst (v := 0) hx hb dX4_alive_42 (by decide) ?_
        refine lv_istore (lv' := [(4, .int 0), (3, .int 1000), (0, .ref (M 0)), (1, .int (nI ka)), (2, .int (nI y))]) hx hb dX4_alive_43 hl (by decide) rfl (fun ls hl => ?_)
        exact key hle _ _ hP hD hS y 0 (by omega) ls (lv_sub hl [0, 1, 2, 3, 4] rfl)
      · have hgt : ¬ ka + y < 100 := fun q9 => c_6 ((lt_nI (b := 100) (by omega)).mpr q9)
        refine lv_iconst (v := 0) hx hb dX4_alive_36 (by decide) ?_
        have hP9 : va_P (dC, dI) vwCl (mw cI M 0 n d r Wd ch pd yr (WT d (r 0)) ++ R) _ := hP
        have hD9 : va_D A (mw cI M 0 n d r Wd ch pd yr (WT d (r 0)) ++ R) := hD
        have hz : 0 = (if 99 < ka + y then 0 else aliveS d (ka - 50) y) := by rw [if_pos (by have := hgt; omega)]
        exact W.iret (v := 0) hx hb hr (fun t ht hW => ⟨⟨_, (), rfl, hz, by rw [ht]; exact hP9, by rw [hAe]; exact hD9⟩, by rw [hAe]; exact hS.F ht⟩) hS.2.2 dX4_alive_37
    · have bc_4 : ¬ (0 ≤ (nI y) ∧ (nI y) ≤ 60) := b0.mp c_4
      exact absurd (int_in (lo := 0) (hi := 60) (Nat.zero_le _) h3 (by omega)) bc_4
set_option maxHeartbeats 4000000 in
set_option maxRecDepth 100000 in
theorem met1_X4_alive (l : Launch) (dC : Nat → ClassId) (dI : Nat → Nat → Nat) (cI cW : ClassId) (M : Nat → Nat) (th : Int32) (n : Nat) (d r : Nat → Int32) (Wd : Nat → Nat → Int32) (ch pd yr : Int32) (R : va_W) (a y : Int32) (h9 : ¬ ((50 ≤ a ∧ a ≤ 99) ∧ (0 ≤ y ∧ y ≤ 60))) (sz : Nat) : Met l yX4_alive wsX4_alive ({ frames := 2, cells := 0, slots := 0, locals := 42 }) (Pre1 dC dI cI cW [.ref (M 0), .int a, .int y] (mw cI M th n d r Wd ch pd yr (WT d (r 0)) ++ R) sz) (Qi1 dC dI (fun z => z = 0) (mw cI M th n d r Wd ch pd yr (WT d (r 0)) ++ R) (mw cI M 1 n d r Wd ch pd yr (WT d (r 0)) ++ R) sz) 0 0 (va_A (mw cI M th n d r Wd ch pd yr (WT d (r 0)) ++ R) sz) := by
  refine Met.ofW (cc := cX4_alive) (maxL := 5) (ret := (some .int)) (by decide) rfl ?_
  intro p e s m args below meth c s₁ B hml hv
  obtain ⟨rfl, hsz, hP, hD0, hKK⟩ := hv
  subst hsz
  have hx := B.exec
  have hb := B.bytes
  have hr := B.returns
  have hts := atoms_spec (ws := wsX4_alive) B.pre
  have hown : s.vm.findClass RX4 = some m.cls := findClass_of_methodNamed B.named
  have hlocks := B.notSynchronized
  have hD := hD0.self (sz := s.heap.size)
  generalize hAe : va_A (mw cI M th n d r Wd ch pd yr (WT d (r 0)) ++ R) s.heap.size = A at hD ⊢
  have hA : ∀ q : Nat, s.heap.size ≤ q → A q := fun q h => by rw [← hAe]; exact Or.inr h
  have hS : va_S A s.heap s.heap [] := va_S.rf
  have hl := lv_entry ([.ref (M 0), .int a, .int y]) (n := 5) (Nat.le_of_ble_eq_true rfl)
  rw [lg_entry_eq]
  generalize (lg_sl ([.ref (M 0), .int a, .int y]) ++ List.replicate (5 - (lg_sl ([.ref (M 0), .int a, .int y])).length) Slot.unset).toArray = ls at hl ⊢
  have hl : lv_has ls 5 [(0, .ref (M 0)), (1, .int a), (2, .int y)] := hl
  refine lv_aload_n hx hb dX4_alive_0 rfl (lv_at hl 0 rfl) ?_
  refine lv_iconst (v := 0) hx hb dX4_alive_1 (by decide) ?_
  refine va_put (D := (dC, dI)) (ci := 4) (v := .int 0) (ty := .int) (C := RX4) (T := TX4) (N := 7) hx hb hts (by decide +kernel) tyX4 tyX4_ok nmX4 hown hKK.1 hP hD hS 0 rfl rfl 0 (by decide) (hts (.fieldLink RX4 28 "WidowPenniesModel" "thrown" "I") (by decide +kernel)) (fun _ h9 => h9) rfl (by decide +kernel) rfl rfl (Nat.le_of_ble_eq_true rfl) dX4_alive_2 (fun H locs hP hD hS => ?_)
  have hP : va_P (dC, dI) vwCl (mw cI M 0 n d r Wd ch pd yr (WT d (r 0)) ++ R) H := hP
  have hD : va_D A (mw cI M 0 n d r Wd ch pd yr (WT d (r 0)) ++ R) := hD
  refine lv_iload_n hx hb dX4_alive_5 rfl (lv_at hl 1 rfl) ?_
  refine rd_i (runS0 (As := [.int a]) (rest := []) ⟨hx, hb, hml, hown, hts⟩ (met_X4_isAge l dC dI cI cW a) (va_cwS 1 hts gX4_alive_X4_isAge rfl rfl rfl (by decide +kernel) ⟨Nat.le_of_ble_eq_true rfl, Nat.le_of_ble_eq_true rfl⟩) hKK nilP rfl hl.1 (Nat.le_of_ble_eq_true rfl) rfl dX4_alive_6 ⟨Nat.zero_le _, Nat.zero_le _⟩) (fun r_1 hr_1 => ?_)
  subst hr_1
  refine lv_if_eq (tgt := 22) hx hb dX4_alive_9 (by decide) (fun c_2 => ?_) (fun c_2 => ?_)
  · have bc_2 : ¬ (50 ≤ a ∧ a ≤ 99) := b0.mp c_2
    refine lv_aload_n hx hb dX4_alive_22 rfl (lv_at hl 0 rfl) ?_
    refine lv_iconst (v := 1) hx hb dX4_alive_23 (by decide) ?_
    refine wr_i (runV1 (As := [.int 1]) (rest := []) ⟨hx, hb, hml, hown, hts⟩ (met_X4_fail l dC dI cI cW M 0 n d r Wd ch pd yr (WT d (r 0)) R 1 _) (cwV 1 hts gX4_alive_X4_fail rfl rfl rfl (by decide +kernel) ⟨Nat.le_of_ble_eq_true rfl, Nat.le_of_ble_eq_true rfl⟩) hKK hP hD 4 0 rfl rfl rfl hl.1 (Nat.le_of_ble_eq_true rfl) rfl dX4_alive_24 ⟨Nat.zero_le _, Nat.zero_le _⟩) hD hS hA (fun r_3 H locs hr_3 hP hD hS => ?_)
    subst hr_3
    have hP : va_P (dC, dI) vwCl (mw cI M 1 n d r Wd ch pd yr (WT d (r 0)) ++ R) H := hP
    have hD : va_D A (mw cI M 1 n d r Wd ch pd yr (WT d (r 0)) ++ R) := hD
    have hP9 : va_P (dC, dI) vwCl (mw cI M 1 n d r Wd ch pd yr (WT d (r 0)) ++ R) _ := hP
    have hD9 : va_D A (mw cI M 1 n d r Wd ch pd yr (WT d (r 0)) ++ R) := hD
    have hz : (0 : Int32) = 0 := rfl
    exact W.iret (v := 0) hx hb hr (fun t ht hW => ⟨⟨_, (), rfl, hz, by rw [ht]; exact hP9, by rw [hAe]; exact hD9⟩, by rw [hAe]; exact hS.F ht⟩) hS.2.2 dX4_alive_27
  · have bc_2 : 50 ≤ a ∧ a ≤ 99 := b1.mp c_2
    refine lv_iload_n hx hb dX4_alive_12 rfl (lv_at hl 2 rfl) ?_
    refine lv_iconst (v := 0) hx hb dX4_alive_13 (by decide) ?_
    refine lv_bipush (v := 60) hx hb dX4_alive_14 (by decide) ?_
    refine rd_i (runS0 (As := [.int y, .int 0, .int 60]) (rest := []) ⟨hx, hb, hml, hown, hts⟩ (met_X4_isIn l dC dI cI cW y 0 60) (va_cwS 3 hts gX4_alive_X4_isIn rfl rfl rfl (by decide +kernel) ⟨Nat.le_of_ble_eq_true rfl, Nat.le_of_ble_eq_true rfl⟩) hKK nilP rfl hl.1 (Nat.le_of_ble_eq_true rfl) rfl dX4_alive_16 ⟨Nat.zero_le _, Nat.zero_le _⟩) (fun r_4 hr_4 => ?_)
    subst hr_4
    refine lv_if_ne (tgt := 28) hx hb dX4_alive_19 (by decide) (fun c_5 => ?_) (fun c_5 => ?_)
    · have bc_5 : 0 ≤ y ∧ y ≤ 60 := b1.mp c_5
      exact (h9 ⟨bc_2, bc_5⟩).elim
    · have bc_5 : ¬ (0 ≤ y ∧ y ≤ 60) := b0.mp c_5
      refine lv_aload_n hx hb dX4_alive_22 rfl (lv_at hl 0 rfl) ?_
      refine lv_iconst (v := 1) hx hb dX4_alive_23 (by decide) ?_
      refine wr_i (runV1 (As := [.int 1]) (rest := []) ⟨hx, hb, hml, hown, hts⟩ (met_X4_fail l dC dI cI cW M 0 n d r Wd ch pd yr (WT d (r 0)) R 1 _) (cwV 1 hts gX4_alive_X4_fail rfl rfl rfl (by decide +kernel) ⟨Nat.le_of_ble_eq_true rfl, Nat.le_of_ble_eq_true rfl⟩) hKK hP hD 4 0 rfl rfl rfl hl.1 (Nat.le_of_ble_eq_true rfl) rfl dX4_alive_24 ⟨Nat.zero_le _, Nat.zero_le _⟩) hD hS hA (fun r_6 H locs hr_6 hP hD hS => ?_)
      subst hr_6
      have hP : va_P (dC, dI) vwCl (mw cI M 1 n d r Wd ch pd yr (WT d (r 0)) ++ R) H := hP
      have hD : va_D A (mw cI M 1 n d r Wd ch pd yr (WT d (r 0)) ++ R) := hD
      have hP9 : va_P (dC, dI) vwCl (mw cI M 1 n d r Wd ch pd yr (WT d (r 0)) ++ R) _ := hP
      have hD9 : va_D A (mw cI M 1 n d r Wd ch pd yr (WT d (r 0)) ++ R) := hD
      have hz : (0 : Int32) = 0 := rfl
      exact W.iret (v := 0) hx hb hr (fun t ht hW => ⟨⟨_, (), rfl, hz, by rw [ht]; exact hP9, by rw [hAe]; exact hD9⟩, by rw [hAe]; exact hS.F ht⟩) hS.2.2 dX4_alive_27
set_option maxHeartbeats 4000000 in
set_option maxRecDepth 100000 in
theorem met_X4_affords (l : Launch) (dC : Nat → ClassId) (dI : Nat → Nat → Nat) (cI cW : ClassId) (M : Nat → Nat) (th : Int32) (n : Nat) (d r : Nat → Int32) (Wd : Nat → Nat → Int32) (ch pd yr : Int32) (R : va_W) (ka kb : Nat) (money : Int32) (h1 : 50 ≤ ka) (h2 : ka ≤ 99) (h3 : kb ≤ 30) (h4 : 1 ≤ money ∧ money ≤ 99999) (sz : Nat) : Met l yX4_affords wsX4_affords ({ frames := 2, cells := 0, slots := 0, locals := 46 }) (Pre1 dC dI cI cW [.ref (M 0), .int (nI ka), .int (nI kb), .int money] (mw cI M th n d r Wd ch pd yr (WT d (r 0)) ++ R) sz) (Qi1 dC dI (fun z => z = (if wN d (r 0) (100 - ka) kb = 0 then 0 else nI (gS (r 1) (wN d (r 0) (100 - ka) kb) money))) (mw cI M th n d r Wd ch pd yr (WT d (r 0)) ++ R) (mw cI M 0 n d r Wd ch pd yr (WT d (r 0)) ++ R) sz) 0 0 (va_A (mw cI M th n d r Wd ch pd yr (WT d (r 0)) ++ R) sz) := by
  refine Met.ofW (cc := cX4_affords) (maxL := 5) (ret := (some .int)) (by decide) rfl ?_
  intro p e s m args below meth c s₁ B hml hv
  obtain ⟨rfl, hsz, hP, hD0, hKK⟩ := hv
  subst hsz
  have hx := B.exec
  have hb := B.bytes
  have hr := B.returns
  have hts := atoms_spec (ws := wsX4_affords) B.pre
  have hown : s.vm.findClass RX4 = some m.cls := findClass_of_methodNamed B.named
  have hlocks := B.notSynchronized
  have hD := hD0.self (sz := s.heap.size)
  generalize hAe : va_A (mw cI M th n d r Wd ch pd yr (WT d (r 0)) ++ R) s.heap.size = A at hD ⊢
  have hA : ∀ q : Nat, s.heap.size ≤ q → A q := fun q h => by rw [← hAe]; exact Or.inr h
  have hS : va_S A s.heap s.heap [] := va_S.rf
  have hl := lv_entry ([.ref (M 0), .int (nI ka), .int (nI kb), .int money]) (n := 5) (Nat.le_of_ble_eq_true rfl)
  rw [lg_entry_eq]
  generalize (lg_sl ([.ref (M 0), .int (nI ka), .int (nI kb), .int money]) ++ List.replicate (5 - (lg_sl ([.ref (M 0), .int (nI ka), .int (nI kb), .int money])).length) Slot.unset).toArray = ls at hl ⊢
  have hl : lv_has ls 5 [(0, .ref (M 0)), (1, .int (nI ka)), (2, .int (nI kb)), (3, .int money)] := hl
  have key : ¬ wN d (r 0) (100 - ka) kb = 0 → ∀ (H : Heap) (locs : List Loc), va_P (dC, dI) vwCl (mw cI M 0 n d r Wd ch pd yr (WT d (r 0)) ++ R) H → va_D A (mw cI M 0 n d r Wd ch pd yr (WT d (r 0)) ++ R) → va_S A s.heap H locs → ∀ g : Nat, g ≤ 999 → dnS (fun k => decide (priceS (r 1) (nI k) (wN d (r 0) (100 - ka) kb) ≤ money)) g = gS (r 1) (wN d (r 0) (100 - ka) kb) money → ∀ ls : Array Slot, lv_has ls 5 [(4, .int (nI g)), (0, .ref (M 0)), (1, .int (nI ka)), (2, .int (nI kb)), (3, .int money)] → W p l e (headSpec wsX4_affords ({ frames := 2, cells := 0, slots := 0, locals := 46 })).room s m (([.ref (M 0), .int (nI ka), .int (nI kb), .int money] : List Value).toArray) below meth c H locs 0 0 (MQ below (Qi1 dC dI (fun z => z = (if wN d (r 0) (100 - ka) kb = 0 then 0 else nI (gS (r 1) (wN d (r 0) (100 - ka) kb) money))) (mw cI M th n d r Wd ch pd yr (WT d (r 0)) ++ R) (mw cI M 0 n d r Wd ch pd yr (WT d (r 0)) ++ R) s.heap.size) ([.ref (M 0), .int (nI ka), .int (nI kb), .int money] : List Value).toArray s 0 0 A) (F0 m 51 ls []) := by
    intro hw H locs hP hD hS g
    induction g with
    | zero =>
      intro hg hf ls hl
      refine lv_iload hx hb dX4_affords_51 (lv_at hl 0 rfl) ?_
      refine lv_if_le (tgt := 74) hx hb dX4_affords_53 (by decide) (fun c_1 => ?_) (fun c_1 => ?_)
      · refine lv_iload hx hb dX4_affords_74 (lv_at hl 0 rfl) ?_
        have hP9 : va_P (dC, dI) vwCl (mw cI M 0 n d r Wd ch pd yr (WT d (r 0)) ++ R) _ := hP
        have hD9 : va_D A (mw cI M 0 n d r Wd ch pd yr (WT d (r 0)) ++ R) := hD
        have hz : nI 0 = (if wN d (r 0) (100 - ka) kb = 0 then 0 else nI (gS (r 1) (wN d (r 0) (100 - ka) kb) money)) := by rw [if_neg hw, ← hf]; rfl
        exact W.iret (v := (nI 0)) hx hb hr (fun t ht hW => ⟨⟨_, (), rfl, hz, by rw [ht]; exact hP9, by rw [hAe]; exact hD9⟩, by rw [hAe]; exact hS.F ht⟩) hS.2.2 dX4_affords_76
      · exact absurd (by decide) c_1
    | succ g ih =>
      intro hg hf ls hl
      refine lv_iload hx hb dX4_affords_51 (lv_at hl 0 rfl) ?_
      refine lv_if_le (tgt := 74) hx hb dX4_affords_53 (by decide) (fun c_1 => ?_) (fun c_1 => ?_)
      · exact absurd c_1 (nI_nle (by omega) (by omega))
      · refine lv_aload_n hx hb dX4_affords_56 rfl (lv_at hl 1 rfl) ?_
        refine lv_iload_n hx hb dX4_affords_57 rfl (lv_at hl 2 rfl) ?_
        refine lv_iload hx hb dX4_affords_58 (lv_at hl 0 rfl) ?_
        refine lv_iload_n hx hb dX4_affords_60 rfl (lv_at hl 3 rfl) ?_
        refine rd_i (runV0 (As := [.int (nI ka), .int (nI (g + 1)), .int (nI kb)]) (rest := []) ⟨hx, hb, hml, hown, hts⟩ (met_X4_priceOf l dC dI cI cW M 0 n d r Wd ch pd yr ka (nI (g + 1)) kb h1 h2 h3) (cwV 3 hts gX4_affords_X4_priceOf rfl rfl rfl (by decide +kernel) ⟨Nat.le_of_ble_eq_true rfl, Nat.le_of_ble_eq_true rfl⟩) hKK (ws_left hP) 4 0 rfl rfl rfl hl.1 (Nat.le_of_ble_eq_true rfl) rfl dX4_affords_61 ⟨Nat.zero_le _, Nat.zero_le _⟩) (fun r_2 hr_2 => ?_)
        subst hr_2
        refine lv_iload_n hx hb dX4_affords_64 rfl (lv_at hl 4 rfl) ?_
        refine lv_icmp_le (tgt := 74) hx hb dX4_affords_65 (by decide) (fun c_3 => ?_) (fun c_3 => ?_)
        · have hf : g + 1 = gS (r 1) (wN d (r 0) (100 - ka) kb) money := by rw [← hf, dnS, if_pos (decide_eq_true c_3)]
          refine lv_iload hx hb dX4_affords_74 (lv_at hl 0 rfl) ?_
          have hP9 : va_P (dC, dI) vwCl (mw cI M 0 n d r Wd ch pd yr (WT d (r 0)) ++ R) _ := hP
          have hD9 : va_D A (mw cI M 0 n d r Wd ch pd yr (WT d (r 0)) ++ R) := hD
          have hz : nI (g + 1) = (if wN d (r 0) (100 - ka) kb = 0 then 0 else nI (gS (r 1) (wN d (r 0) (100 - ka) kb) money)) := by rw [if_neg hw, ← hf]
          exact W.iret (v := (nI (g + 1))) hx hb hr (fun t ht hW => ⟨⟨_, (), rfl, hz, by rw [ht]; exact hP9, by rw [hAe]; exact hD9⟩, by rw [hAe]; exact hS.F ht⟩) hS.2.2 dX4_affords_76
        · have hf : dnS (fun k => decide (priceS (r 1) (nI k) (wN d (r 0) (100 - ka) kb) ≤ money)) g = gS (r 1) (wN d (r 0) (100 - ka) kb) money := by rw [← hf, dnS, if_neg (fun q9 => c_3 (of_decide_eq_true q9))]
          refine lv_iinc (v := (nI g)) (lv' := [(4, .int (nI g)), (0, .ref (M 0)), (1, .int (nI ka)), (2, .int (nI kb)), (3, .int money)]) hx hb dX4_affords_68 hl (k := 0) rfl (pk_m1 g) (by decide) rfl (fun ls hl => ?_)
          refine lv_goto (tgt := 51) hx hb dX4_affords_71 (by decide) ?_
          exact ih (by omega) hf ls (lv_sub hl [0, 1, 2, 3, 4] rfl)
  refine lv_aload_n hx hb dX4_affords_0 rfl (lv_at hl 0 rfl) ?_
  refine lv_iconst (v := 0) hx hb dX4_affords_1 (by decide) ?_
  refine va_put (D := (dC, dI)) (ci := 4) (v := .int 0) (ty := .int) (C := RX4) (T := TX4) (N := 7) hx hb hts (by decide +kernel) tyX4 tyX4_ok nmX4 hown hKK.1 hP hD hS 0 rfl rfl 0 (by decide) (hts (.fieldLink RX4 28 "WidowPenniesModel" "thrown" "I") (by decide +kernel)) (fun _ h9 => h9) rfl (by decide +kernel) rfl rfl (Nat.le_of_ble_eq_true rfl) dX4_affords_2 (fun H locs hP hD hS => ?_)
  have hP : va_P (dC, dI) vwCl (mw cI M 0 n d r Wd ch pd yr (WT d (r 0)) ++ R) H := hP
  have hD : va_D A (mw cI M 0 n d r Wd ch pd yr (WT d (r 0)) ++ R) := hD
  refine lv_iload_n hx hb dX4_affords_5 rfl (lv_at hl 1 rfl) ?_
  refine rd_i (runS0 (As := [.int (nI ka)]) (rest := []) ⟨hx, hb, hml, hown, hts⟩ (met_X4_isAge l dC dI cI cW (nI ka)) (va_cwS 1 hts gX4_affords_X4_isAge rfl rfl rfl (by decide +kernel) ⟨Nat.le_of_ble_eq_true rfl, Nat.le_of_ble_eq_true rfl⟩) hKK nilP rfl hl.1 (Nat.le_of_ble_eq_true rfl) rfl dX4_affords_6 ⟨Nat.zero_le _, Nat.zero_le _⟩) (fun r_1 hr_1 => ?_)
  subst hr_1
  refine lv_if_eq (tgt := 29) hx hb dX4_affords_9 (by decide) (fun c_2 => ?_) (fun c_2 => ?_)
  · have bc_2 : ¬ (50 ≤ (nI ka) ∧ (nI ka) ≤ 99) := b0.mp c_2
    exact absurd (age_in h1 h2) bc_2
  · have bc_2 : 50 ≤ (nI ka) ∧ (nI ka) ≤ 99 := b1.mp c_2
    refine lv_iload_n hx hb dX4_affords_12 rfl (lv_at hl 2 rfl) ?_
    refine rd_i (runS0 (As := [.int (nI kb)]) (rest := []) ⟨hx, hb, hml, hown, hts⟩ (met_X4_isLate l dC dI cI cW (nI kb)) (va_cwS 1 hts gX4_affords_X4_isLate rfl rfl rfl (by decide +kernel) ⟨Nat.le_of_ble_eq_true rfl, Nat.le_of_ble_eq_true rfl⟩) hKK nilP rfl hl.1 (Nat.le_of_ble_eq_true rfl) rfl dX4_affords_13 ⟨Nat.zero_le _, Nat.zero_le _⟩) (fun r_3 hr_3 => ?_)
    subst hr_3
    refine lv_if_eq (tgt := 29) hx hb dX4_affords_16 (by decide) (fun c_4 => ?_) (fun c_4 => ?_)
    · have bc_4 : ¬ (0 ≤ (nI kb) ∧ (nI kb) ≤ 30) := b0.mp c_4
      exact absurd (put_in h3) bc_4
    · have bc_4 : 0 ≤ (nI kb) ∧ (nI kb) ≤ 30 := b1.mp c_4
      refine lv_iload_n hx hb dX4_affords_19 rfl (lv_at hl 3 rfl) ?_
      refine lv_iconst (v := 1) hx hb dX4_affords_20 (by decide) ?_
      refine lv_ldc (v := 99999) hx hb hown (hts (.constant RX4 112 99999) (by decide +kernel)) dX4_affords_21 ?_
      refine rd_i (runS0 (As := [.int money, .int 1, .int 99999]) (rest := []) ⟨hx, hb, hml, hown, hts⟩ (met_X4_isIn l dC dI cI cW money 1 99999) (va_cwS 3 hts gX4_affords_X4_isIn rfl rfl rfl (by decide +kernel) ⟨Nat.le_of_ble_eq_true rfl, Nat.le_of_ble_eq_true rfl⟩) hKK nilP rfl hl.1 (Nat.le_of_ble_eq_true rfl) rfl dX4_affords_23 ⟨Nat.zero_le _, Nat.zero_le _⟩) (fun r_5 hr_5 => ?_)
      subst hr_5
      refine lv_if_ne (tgt := 35) hx hb dX4_affords_26 (by decide) (fun c_6 => ?_) (fun c_6 => ?_)
      · have bc_6 : 1 ≤ money ∧ money ≤ 99999 := b1.mp c_6
        refine lv_aload_n hx hb dX4_affords_35 rfl (lv_at hl 0 rfl) ?_
        refine lv_iload_n hx hb dX4_affords_36 rfl (lv_at hl 1 rfl) ?_
        refine lv_iload_n hx hb dX4_affords_37 rfl (lv_at hl 2 rfl) ?_
        refine rd_i (runV0 (As := [.int (nI ka), .int (nI kb)]) (rest := []) ⟨hx, hb, hml, hown, hts⟩ (met_X4_worthOf l dC dI cI cW M 0 n d r Wd ch pd yr ka kb h1 h2 h3) (cwV 2 hts gX4_affords_X4_worthOf rfl rfl rfl (by decide +kernel) ⟨Nat.le_of_ble_eq_true rfl, Nat.le_of_ble_eq_true rfl⟩) hKK (ws_left hP) 4 0 rfl rfl rfl hl.1 (Nat.le_of_ble_eq_true rfl) rfl dX4_affords_38 ⟨Nat.zero_le _, Nat.zero_le _⟩) (fun r_7 hr_7 => ?_)
        subst hr_7
        refine lv_if_ne (tgt := 46) hx hb dX4_affords_41 (by decide) (fun c_8 => ?_) (fun c_8 => ?_)
        · have hw := c_8
          refine lv_sipush (v := 999) hx hb dX4_affords_46 (by decide) ?_
          refine lv_istore (lv' := [(4, .int 999), (0, .ref (M 0)), (1, .int (nI ka)), (2, .int (nI kb)), (3, .int money)]) hx hb dX4_affords_49 hl (by decide) rfl (fun ls hl => ?_)
          exact key hw _ _ hP hD hS 999 (Nat.le_refl _) rfl ls (lv_sub hl [0, 1, 2, 3, 4] rfl)
        · refine lv_iconst (v := 0) hx hb dX4_affords_44 (by decide) ?_
          have hP9 : va_P (dC, dI) vwCl (mw cI M 0 n d r Wd ch pd yr (WT d (r 0)) ++ R) _ := hP
          have hD9 : va_D A (mw cI M 0 n d r Wd ch pd yr (WT d (r 0)) ++ R) := hD
          have hz : 0 = (if wN d (r 0) (100 - ka) kb = 0 then 0 else nI (gS (r 1) (wN d (r 0) (100 - ka) kb) money)) := by rw [if_pos c_8]
          exact W.iret (v := 0) hx hb hr (fun t ht hW => ⟨⟨_, (), rfl, hz, by rw [ht]; exact hP9, by rw [hAe]; exact hD9⟩, by rw [hAe]; exact hS.F ht⟩) hS.2.2 dX4_affords_45
      · have bc_6 : ¬ (1 ≤ money ∧ money ≤ 99999) := b0.mp c_6
        exact absurd h4 bc_6
set_option maxHeartbeats 4000000 in
set_option maxRecDepth 100000 in
theorem met1_X4_affords (l : Launch) (dC : Nat → ClassId) (dI : Nat → Nat → Nat) (cI cW : ClassId) (M : Nat → Nat) (th : Int32) (n : Nat) (d r : Nat → Int32) (Wd : Nat → Nat → Int32) (ch pd yr : Int32) (R : va_W) (a p9 money : Int32) (h9 : ¬ ((50 ≤ a ∧ a ≤ 99) ∧ (0 ≤ p9 ∧ p9 ≤ 30) ∧ (1 ≤ money ∧ money ≤ 99999))) (sz : Nat) : Met l yX4_affords wsX4_affords ({ frames := 2, cells := 0, slots := 0, locals := 46 }) (Pre1 dC dI cI cW [.ref (M 0), .int a, .int p9, .int money] (mw cI M th n d r Wd ch pd yr (WT d (r 0)) ++ R) sz) (Qi1 dC dI (fun z => z = 0) (mw cI M th n d r Wd ch pd yr (WT d (r 0)) ++ R) (mw cI M 1 n d r Wd ch pd yr (WT d (r 0)) ++ R) sz) 0 0 (va_A (mw cI M th n d r Wd ch pd yr (WT d (r 0)) ++ R) sz) := by
  refine Met.ofW (cc := cX4_affords) (maxL := 5) (ret := (some .int)) (by decide) rfl ?_
  intro p e s m args below meth c s₁ B hml hv
  obtain ⟨rfl, hsz, hP, hD0, hKK⟩ := hv
  subst hsz
  have hx := B.exec
  have hb := B.bytes
  have hr := B.returns
  have hts := atoms_spec (ws := wsX4_affords) B.pre
  have hown : s.vm.findClass RX4 = some m.cls := findClass_of_methodNamed B.named
  have hlocks := B.notSynchronized
  have hD := hD0.self (sz := s.heap.size)
  generalize hAe : va_A (mw cI M th n d r Wd ch pd yr (WT d (r 0)) ++ R) s.heap.size = A at hD ⊢
  have hA : ∀ q : Nat, s.heap.size ≤ q → A q := fun q h => by rw [← hAe]; exact Or.inr h
  have hS : va_S A s.heap s.heap [] := va_S.rf
  have hl := lv_entry ([.ref (M 0), .int a, .int p9, .int money]) (n := 5) (Nat.le_of_ble_eq_true rfl)
  rw [lg_entry_eq]
  generalize (lg_sl ([.ref (M 0), .int a, .int p9, .int money]) ++ List.replicate (5 - (lg_sl ([.ref (M 0), .int a, .int p9, .int money])).length) Slot.unset).toArray = ls at hl ⊢
  have hl : lv_has ls 5 [(0, .ref (M 0)), (1, .int a), (2, .int p9), (3, .int money)] := hl
  refine lv_aload_n hx hb dX4_affords_0 rfl (lv_at hl 0 rfl) ?_
  refine lv_iconst (v := 0) hx hb dX4_affords_1 (by decide) ?_
  refine va_put (D := (dC, dI)) (ci := 4) (v := .int 0) (ty := .int) (C := RX4) (T := TX4) (N := 7) hx hb hts (by decide +kernel) tyX4 tyX4_ok nmX4 hown hKK.1 hP hD hS 0 rfl rfl 0 (by decide) (hts (.fieldLink RX4 28 "WidowPenniesModel" "thrown" "I") (by decide +kernel)) (fun _ h9 => h9) rfl (by decide +kernel) rfl rfl (Nat.le_of_ble_eq_true rfl) dX4_affords_2 (fun H locs hP hD hS => ?_)
  have hP : va_P (dC, dI) vwCl (mw cI M 0 n d r Wd ch pd yr (WT d (r 0)) ++ R) H := hP
  have hD : va_D A (mw cI M 0 n d r Wd ch pd yr (WT d (r 0)) ++ R) := hD
  refine lv_iload_n hx hb dX4_affords_5 rfl (lv_at hl 1 rfl) ?_
  refine rd_i (runS0 (As := [.int a]) (rest := []) ⟨hx, hb, hml, hown, hts⟩ (met_X4_isAge l dC dI cI cW a) (va_cwS 1 hts gX4_affords_X4_isAge rfl rfl rfl (by decide +kernel) ⟨Nat.le_of_ble_eq_true rfl, Nat.le_of_ble_eq_true rfl⟩) hKK nilP rfl hl.1 (Nat.le_of_ble_eq_true rfl) rfl dX4_affords_6 ⟨Nat.zero_le _, Nat.zero_le _⟩) (fun r_1 hr_1 => ?_)
  subst hr_1
  refine lv_if_eq (tgt := 29) hx hb dX4_affords_9 (by decide) (fun c_2 => ?_) (fun c_2 => ?_)
  · have bc_2 : ¬ (50 ≤ a ∧ a ≤ 99) := b0.mp c_2
    refine lv_aload_n hx hb dX4_affords_29 rfl (lv_at hl 0 rfl) ?_
    refine lv_iconst (v := 1) hx hb dX4_affords_30 (by decide) ?_
    refine wr_i (runV1 (As := [.int 1]) (rest := []) ⟨hx, hb, hml, hown, hts⟩ (met_X4_fail l dC dI cI cW M 0 n d r Wd ch pd yr (WT d (r 0)) R 1 _) (cwV 1 hts gX4_affords_X4_fail rfl rfl rfl (by decide +kernel) ⟨Nat.le_of_ble_eq_true rfl, Nat.le_of_ble_eq_true rfl⟩) hKK hP hD 4 0 rfl rfl rfl hl.1 (Nat.le_of_ble_eq_true rfl) rfl dX4_affords_31 ⟨Nat.zero_le _, Nat.zero_le _⟩) hD hS hA (fun r_3 H locs hr_3 hP hD hS => ?_)
    subst hr_3
    have hP : va_P (dC, dI) vwCl (mw cI M 1 n d r Wd ch pd yr (WT d (r 0)) ++ R) H := hP
    have hD : va_D A (mw cI M 1 n d r Wd ch pd yr (WT d (r 0)) ++ R) := hD
    have hP9 : va_P (dC, dI) vwCl (mw cI M 1 n d r Wd ch pd yr (WT d (r 0)) ++ R) _ := hP
    have hD9 : va_D A (mw cI M 1 n d r Wd ch pd yr (WT d (r 0)) ++ R) := hD
    have hz : (0 : Int32) = 0 := rfl
    exact W.iret (v := 0) hx hb hr (fun t ht hW => ⟨⟨_, (), rfl, hz, by rw [ht]; exact hP9, by rw [hAe]; exact hD9⟩, by rw [hAe]; exact hS.F ht⟩) hS.2.2 dX4_affords_34
  · have bc_2 : 50 ≤ a ∧ a ≤ 99 := b1.mp c_2
    refine lv_iload_n hx hb dX4_affords_12 rfl (lv_at hl 2 rfl) ?_
    refine rd_i (runS0 (As := [.int p9]) (rest := []) ⟨hx, hb, hml, hown, hts⟩ (met_X4_isLate l dC dI cI cW p9) (va_cwS 1 hts gX4_affords_X4_isLate rfl rfl rfl (by decide +kernel) ⟨Nat.le_of_ble_eq_true rfl, Nat.le_of_ble_eq_true rfl⟩) hKK nilP rfl hl.1 (Nat.le_of_ble_eq_true rfl) rfl dX4_affords_13 ⟨Nat.zero_le _, Nat.zero_le _⟩) (fun r_4 hr_4 => ?_)
    subst hr_4
    refine lv_if_eq (tgt := 29) hx hb dX4_affords_16 (by decide) (fun c_5 => ?_) (fun c_5 => ?_)
    · have bc_5 : ¬ (0 ≤ p9 ∧ p9 ≤ 30) := b0.mp c_5
      refine lv_aload_n hx hb dX4_affords_29 rfl (lv_at hl 0 rfl) ?_
      refine lv_iconst (v := 1) hx hb dX4_affords_30 (by decide) ?_
      refine wr_i (runV1 (As := [.int 1]) (rest := []) ⟨hx, hb, hml, hown, hts⟩ (met_X4_fail l dC dI cI cW M 0 n d r Wd ch pd yr (WT d (r 0)) R 1 _) (cwV 1 hts gX4_affords_X4_fail rfl rfl rfl (by decide +kernel) ⟨Nat.le_of_ble_eq_true rfl, Nat.le_of_ble_eq_true rfl⟩) hKK hP hD 4 0 rfl rfl rfl hl.1 (Nat.le_of_ble_eq_true rfl) rfl dX4_affords_31 ⟨Nat.zero_le _, Nat.zero_le _⟩) hD hS hA (fun r_6 H locs hr_6 hP hD hS => ?_)
      subst hr_6
      have hP : va_P (dC, dI) vwCl (mw cI M 1 n d r Wd ch pd yr (WT d (r 0)) ++ R) H := hP
      have hD : va_D A (mw cI M 1 n d r Wd ch pd yr (WT d (r 0)) ++ R) := hD
      have hP9 : va_P (dC, dI) vwCl (mw cI M 1 n d r Wd ch pd yr (WT d (r 0)) ++ R) _ := hP
      have hD9 : va_D A (mw cI M 1 n d r Wd ch pd yr (WT d (r 0)) ++ R) := hD
      have hz : (0 : Int32) = 0 := rfl
      exact W.iret (v := 0) hx hb hr (fun t ht hW => ⟨⟨_, (), rfl, hz, by rw [ht]; exact hP9, by rw [hAe]; exact hD9⟩, by rw [hAe]; exact hS.F ht⟩) hS.2.2 dX4_affords_34
    · have bc_5 : 0 ≤ p9 ∧ p9 ≤ 30 := b1.mp c_5
      refine lv_iload_n hx hb dX4_affords_19 rfl (lv_at hl 3 rfl) ?_
      refine lv_iconst (v := 1) hx hb dX4_affords_20 (by decide) ?_
      refine lv_ldc (v := 99999) hx hb hown (hts (.constant RX4 112 99999) (by decide +kernel)) dX4_affords_21 ?_
      refine rd_i (runS0 (As := [.int money, .int 1, .int 99999]) (rest := []) ⟨hx, hb, hml, hown, hts⟩ (met_X4_isIn l dC dI cI cW money 1 99999) (va_cwS 3 hts gX4_affords_X4_isIn rfl rfl rfl (by decide +kernel) ⟨Nat.le_of_ble_eq_true rfl, Nat.le_of_ble_eq_true rfl⟩) hKK nilP rfl hl.1 (Nat.le_of_ble_eq_true rfl) rfl dX4_affords_23 ⟨Nat.zero_le _, Nat.zero_le _⟩) (fun r_7 hr_7 => ?_)
      subst hr_7
      refine lv_if_ne (tgt := 35) hx hb dX4_affords_26 (by decide) (fun c_8 => ?_) (fun c_8 => ?_)
      · have bc_8 : 1 ≤ money ∧ money ≤ 99999 := b1.mp c_8
        exact (h9 ⟨bc_2, bc_5, bc_8⟩).elim
      · have bc_8 : ¬ (1 ≤ money ∧ money ≤ 99999) := b0.mp c_8
        refine lv_aload_n hx hb dX4_affords_29 rfl (lv_at hl 0 rfl) ?_
        refine lv_iconst (v := 1) hx hb dX4_affords_30 (by decide) ?_
        refine wr_i (runV1 (As := [.int 1]) (rest := []) ⟨hx, hb, hml, hown, hts⟩ (met_X4_fail l dC dI cI cW M 0 n d r Wd ch pd yr (WT d (r 0)) R 1 _) (cwV 1 hts gX4_affords_X4_fail rfl rfl rfl (by decide +kernel) ⟨Nat.le_of_ble_eq_true rfl, Nat.le_of_ble_eq_true rfl⟩) hKK hP hD 4 0 rfl rfl rfl hl.1 (Nat.le_of_ble_eq_true rfl) rfl dX4_affords_31 ⟨Nat.zero_le _, Nat.zero_le _⟩) hD hS hA (fun r_9 H locs hr_9 hP hD hS => ?_)
        subst hr_9
        have hP : va_P (dC, dI) vwCl (mw cI M 1 n d r Wd ch pd yr (WT d (r 0)) ++ R) H := hP
        have hD : va_D A (mw cI M 1 n d r Wd ch pd yr (WT d (r 0)) ++ R) := hD
        have hP9 : va_P (dC, dI) vwCl (mw cI M 1 n d r Wd ch pd yr (WT d (r 0)) ++ R) _ := hP
        have hD9 : va_D A (mw cI M 1 n d r Wd ch pd yr (WT d (r 0)) ++ R) := hD
        have hz : (0 : Int32) = 0 := rfl
        exact W.iret (v := 0) hx hb hr (fun t ht hW => ⟨⟨_, (), rfl, hz, by rw [ht]; exact hP9, by rw [hAe]; exact hD9⟩, by rw [hAe]; exact hS.F ht⟩) hS.2.2 dX4_affords_34
set_option maxHeartbeats 4000000 in
set_option maxRecDepth 100000 in
theorem met_X4_setDeaths (l : Launch) (dC : Nat → ClassId) (dI : Nat → Nat → Nat) (cI cW : ClassId) (M : Nat → Nat) (th : Int32) (n : Nat) (d r : Nat → Int32) (Wd : Nat → Nat → Int32) (ch pd yr : Int32) (R : va_W) (ka : Nat) (h1 : 50 ≤ ka) (h2 : ka ≤ 99) (x : Int32) (h4 : 0 ≤ x ∧ x ≤ 1000) (hi : ¬ (1000 : Int32) + r 0 = 0) (sz : Nat) : Met l yX4_setDeaths wsX4_setDeaths ({ frames := 2, cells := 0, slots := 0, locals := 42 }) (Pre1 dC dI cI cW [.ref (M 0), .int (nI ka), .int x] (mw cI M th n d r Wd ch pd yr (WT d (r 0)) ++ R) sz) (Qi1 dC dI (fun z => z = d (ka - 50)) (mw cI M th n d r Wd ch pd yr (WT d (r 0)) ++ R) (mw cI M 0 n (upd d (ka - 50) x) r Wd ch pd yr (WT (upd d (ka - 50) x) (r 0)) ++ R) sz) 0 0 (va_A (mw cI M th n d r Wd ch pd yr (WT d (r 0)) ++ R) sz) := by
  refine Met.ofW (cc := cX4_setDeaths) (maxL := 4) (ret := (some .int)) (by decide) rfl ?_
  intro p e s m args below meth c s₁ B hml hv
  obtain ⟨rfl, hsz, hP, hD0, hKK⟩ := hv
  subst hsz
  have hx := B.exec
  have hb := B.bytes
  have hr := B.returns
  have hts := atoms_spec (ws := wsX4_setDeaths) B.pre
  have hown : s.vm.findClass RX4 = some m.cls := findClass_of_methodNamed B.named
  have hlocks := B.notSynchronized
  have hD := hD0.self (sz := s.heap.size)
  generalize hAe : va_A (mw cI M th n d r Wd ch pd yr (WT d (r 0)) ++ R) s.heap.size = A at hD ⊢
  have hA : ∀ q : Nat, s.heap.size ≤ q → A q := fun q h => by rw [← hAe]; exact Or.inr h
  have hS : va_S A s.heap s.heap [] := va_S.rf
  have hl := lv_entry ([.ref (M 0), .int (nI ka), .int x]) (n := 4) (Nat.le_of_ble_eq_true rfl)
  rw [lg_entry_eq]
  generalize (lg_sl ([.ref (M 0), .int (nI ka), .int x]) ++ List.replicate (4 - (lg_sl ([.ref (M 0), .int (nI ka), .int x])).length) Slot.unset).toArray = ls at hl ⊢
  have hl : lv_has ls 4 [(0, .ref (M 0)), (1, .int (nI ka)), (2, .int x)] := hl
  refine lv_aload_n hx hb dX4_setDeaths_0 rfl (lv_at hl 0 rfl) ?_
  refine lv_iconst (v := 0) hx hb dX4_setDeaths_1 (by decide) ?_
  refine va_put (D := (dC, dI)) (ci := 4) (v := .int 0) (ty := .int) (C := RX4) (T := TX4) (N := 7) hx hb hts (by decide +kernel) tyX4 tyX4_ok nmX4 hown hKK.1 hP hD hS 0 rfl rfl 0 (by decide) (hts (.fieldLink RX4 28 "WidowPenniesModel" "thrown" "I") (by decide +kernel)) (fun _ h9 => h9) rfl (by decide +kernel) rfl rfl (Nat.le_of_ble_eq_true rfl) dX4_setDeaths_2 (fun H locs hP hD hS => ?_)
  have hP : va_P (dC, dI) vwCl (mw cI M 0 n d r Wd ch pd yr (WT d (r 0)) ++ R) H := hP
  have hD : va_D A (mw cI M 0 n d r Wd ch pd yr (WT d (r 0)) ++ R) := hD
  refine lv_iload_n hx hb dX4_setDeaths_5 rfl (lv_at hl 1 rfl) ?_
  refine rd_i (runS0 (As := [.int (nI ka)]) (rest := []) ⟨hx, hb, hml, hown, hts⟩ (met_X4_isAge l dC dI cI cW (nI ka)) (va_cwS 1 hts gX4_setDeaths_X4_isAge rfl rfl rfl (by decide +kernel) ⟨Nat.le_of_ble_eq_true rfl, Nat.le_of_ble_eq_true rfl⟩) hKK nilP rfl hl.1 (Nat.le_of_ble_eq_true rfl) rfl dX4_setDeaths_6 ⟨Nat.zero_le _, Nat.zero_le _⟩) (fun r_1 hr_1 => ?_)
  subst hr_1
  refine lv_if_ne (tgt := 18) hx hb dX4_setDeaths_9 (by decide) (fun c_2 => ?_) (fun c_2 => ?_)
  · have bc_2 : 50 ≤ (nI ka) ∧ (nI ka) ≤ 99 := b1.mp c_2
    refine lv_iload_n hx hb dX4_setDeaths_18 rfl (lv_at hl 2 rfl) ?_
    refine lv_iconst (v := 0) hx hb dX4_setDeaths_19 (by decide) ?_
    refine lv_sipush (v := 1000) hx hb dX4_setDeaths_20 (by decide) ?_
    refine rd_i (runS0 (As := [.int x, .int 0, .int 1000]) (rest := []) ⟨hx, hb, hml, hown, hts⟩ (met_X4_isIn l dC dI cI cW x 0 1000) (va_cwS 3 hts gX4_setDeaths_X4_isIn rfl rfl rfl (by decide +kernel) ⟨Nat.le_of_ble_eq_true rfl, Nat.le_of_ble_eq_true rfl⟩) hKK nilP rfl hl.1 (Nat.le_of_ble_eq_true rfl) rfl dX4_setDeaths_23 ⟨Nat.zero_le _, Nat.zero_le _⟩) (fun r_3 hr_3 => ?_)
    subst hr_3
    refine lv_if_ne (tgt := 35) hx hb dX4_setDeaths_26 (by decide) (fun c_4 => ?_) (fun c_4 => ?_)
    · have bc_4 : 0 ≤ x ∧ x ≤ 1000 := b1.mp c_4
      refine lv_aload_n hx hb dX4_setDeaths_35 rfl (lv_at hl 0 rfl) ?_
      refine va_get (D := (dC, dI)) (ci := 4) (v := .ref (M 2)) (C := RX4) (T := TX4) (N := 7) hx hb hts (by decide +kernel) hown hKK.1 hP 0 rfl rfl 3 (by decide) (hts (.fieldLink RX4 13 "WidowPenniesModel" "deaths" "[I") (by decide +kernel)) (fun _ h9 => h9) rfl dX4_setDeaths_36 ?_
      refine lv_iload_n hx hb dX4_setDeaths_39 rfl (lv_at hl 1 rfl) ?_
      refine lv_bipush (v := 50) hx hb dX4_setDeaths_40 (by decide) ?_
      refine lv_isub hx hb dX4_setDeaths_42 ?_
      rw [show ((nI ka) - 50 : Int32) = nI (ka - 50) from n_sub (b := 50) h1]
      refine va_iald hx hb hKK.1 hP 2 0 rfl rfl (vp_in_nI (by omega) (by omega)) dX4_setDeaths_43 ?_
      rw [show d (nI (ka - 50)).toNatClampNeg = d (ka - 50) from congrArg d (clamp_nI (by omega))]
      refine lv_istore_n (lv' := [(3, .int (d (ka - 50))), (0, .ref (M 0)), (1, .int (nI ka)), (2, .int x)]) hx hb dX4_setDeaths_44 rfl hl (by decide) rfl (fun ls hl => ?_)
      refine lv_aload_n hx hb dX4_setDeaths_45 rfl (lv_at hl 1 rfl) ?_
      refine va_get (D := (dC, dI)) (ci := 4) (v := .ref (M 2)) (C := RX4) (T := TX4) (N := 7) hx hb hts (by decide +kernel) hown hKK.1 hP 0 rfl rfl 3 (by decide) (hts (.fieldLink RX4 13 "WidowPenniesModel" "deaths" "[I") (by decide +kernel)) (fun _ h9 => h9) rfl dX4_setDeaths_46 ?_
      refine lv_iload_n hx hb dX4_setDeaths_49 rfl (lv_at hl 2 rfl) ?_
      refine lv_bipush (v := 50) hx hb dX4_setDeaths_50 (by decide) ?_
      refine lv_isub hx hb dX4_setDeaths_52 ?_
      rw [show ((nI ka) - 50 : Int32) = nI (ka - 50) from n_sub (b := 50) h1]
      refine lv_iload_n hx hb dX4_setDeaths_53 rfl (lv_at hl 3 rfl) ?_
      refine va_iast hx hb hKK.1 hP hD hS 2 0 rfl rfl (vp_in_nI (by omega) (by omega)) dX4_setDeaths_54 (fun H locs hP hD hS => ?_)
      rw [clamp_nI (show ka - 50 < 2147483648 by omega)] at hP hD
      have hP : va_P (dC, dI) vwCl (mw cI M 0 n (upd d (ka - 50) x) r Wd ch pd yr (WT d (r 0)) ++ R) H := hP
      have hD : va_D A (mw cI M 0 n (upd d (ka - 50) x) r Wd ch pd yr (WT d (r 0)) ++ R) := hD
      refine lv_aload_n hx hb dX4_setDeaths_55 rfl (lv_at hl 1 rfl) ?_
      refine wr_v (runV1 (As := []) (rest := []) ⟨hx, hb, hml, hown, hts⟩ (met_X4_reckon l dC dI cI cW M 0 n (upd d (ka - 50) x) r Wd ch pd yr (WT d (r 0)) R (WT_zero d (r 0)) hi _) (cwV 0 hts gX4_setDeaths_X4_reckon rfl rfl rfl (by decide +kernel) ⟨Nat.le_of_ble_eq_true rfl, Nat.le_of_ble_eq_true rfl⟩) hKK hP hD 4 0 rfl rfl rfl hl.1 (Nat.le_of_ble_eq_true rfl) rfl dX4_setDeaths_56 ⟨Nat.zero_le _, Nat.zero_le _⟩) hD hS hA (fun H locs hP hD hS => ?_)
      have hP : va_P (dC, dI) vwCl (mw cI M 0 n (upd d (ka - 50) x) r Wd ch pd yr (WT (upd d (ka - 50) x) (r 0)) ++ R) H := hP
      have hD : va_D A (mw cI M 0 n (upd d (ka - 50) x) r Wd ch pd yr (WT (upd d (ka - 50) x) (r 0)) ++ R) := hD
      refine lv_iload_n hx hb dX4_setDeaths_59 rfl (lv_at hl 0 rfl) ?_
      have hP9 : va_P (dC, dI) vwCl (mw cI M 0 n (upd d (ka - 50) x) r Wd ch pd yr (WT (upd d (ka - 50) x) (r 0)) ++ R) _ := hP
      have hD9 : va_D A (mw cI M 0 n (upd d (ka - 50) x) r Wd ch pd yr (WT (upd d (ka - 50) x) (r 0)) ++ R) := hD
      have hz : (d (ka - 50) : Int32) = d (ka - 50) := rfl
      exact W.iret (v := (d (ka - 50))) hx hb hr (fun t ht hW => ⟨⟨_, (), rfl, hz, by rw [ht]; exact hP9, by rw [hAe]; exact hD9⟩, by rw [hAe]; exact hS.F ht⟩) hS.2.2 dX4_setDeaths_60
    · have bc_4 : ¬ (0 ≤ x ∧ x ≤ 1000) := b0.mp c_4
      exact absurd h4 bc_4
  · have bc_2 : ¬ (50 ≤ (nI ka) ∧ (nI ka) ≤ 99) := b0.mp c_2
    exact absurd (age_in h1 h2) bc_2
set_option maxHeartbeats 4000000 in
set_option maxRecDepth 100000 in
theorem met1_X4_setDeaths (l : Launch) (dC : Nat → ClassId) (dI : Nat → Nat → Nat) (cI cW : ClassId) (M : Nat → Nat) (th : Int32) (n : Nat) (d r : Nat → Int32) (Wd : Nat → Nat → Int32) (ch pd yr : Int32) (R : va_W) (a x : Int32) (h9 : ¬ (50 ≤ a ∧ a ≤ 99)) (sz : Nat) : Met l yX4_setDeaths wsX4_setDeaths ({ frames := 2, cells := 0, slots := 0, locals := 42 }) (Pre1 dC dI cI cW [.ref (M 0), .int a, .int x] (mw cI M th n d r Wd ch pd yr (WT d (r 0)) ++ R) sz) (Qi1 dC dI (fun z => z = 0) (mw cI M th n d r Wd ch pd yr (WT d (r 0)) ++ R) (mw cI M 1 n d r Wd ch pd yr (WT d (r 0)) ++ R) sz) 0 0 (va_A (mw cI M th n d r Wd ch pd yr (WT d (r 0)) ++ R) sz) := by
  refine Met.ofW (cc := cX4_setDeaths) (maxL := 4) (ret := (some .int)) (by decide) rfl ?_
  intro p e s m args below meth c s₁ B hml hv
  obtain ⟨rfl, hsz, hP, hD0, hKK⟩ := hv
  subst hsz
  have hx := B.exec
  have hb := B.bytes
  have hr := B.returns
  have hts := atoms_spec (ws := wsX4_setDeaths) B.pre
  have hown : s.vm.findClass RX4 = some m.cls := findClass_of_methodNamed B.named
  have hlocks := B.notSynchronized
  have hD := hD0.self (sz := s.heap.size)
  generalize hAe : va_A (mw cI M th n d r Wd ch pd yr (WT d (r 0)) ++ R) s.heap.size = A at hD ⊢
  have hA : ∀ q : Nat, s.heap.size ≤ q → A q := fun q h => by rw [← hAe]; exact Or.inr h
  have hS : va_S A s.heap s.heap [] := va_S.rf
  have hl := lv_entry ([.ref (M 0), .int a, .int x]) (n := 4) (Nat.le_of_ble_eq_true rfl)
  rw [lg_entry_eq]
  generalize (lg_sl ([.ref (M 0), .int a, .int x]) ++ List.replicate (4 - (lg_sl ([.ref (M 0), .int a, .int x])).length) Slot.unset).toArray = ls at hl ⊢
  have hl : lv_has ls 4 [(0, .ref (M 0)), (1, .int a), (2, .int x)] := hl
  refine lv_aload_n hx hb dX4_setDeaths_0 rfl (lv_at hl 0 rfl) ?_
  refine lv_iconst (v := 0) hx hb dX4_setDeaths_1 (by decide) ?_
  refine va_put (D := (dC, dI)) (ci := 4) (v := .int 0) (ty := .int) (C := RX4) (T := TX4) (N := 7) hx hb hts (by decide +kernel) tyX4 tyX4_ok nmX4 hown hKK.1 hP hD hS 0 rfl rfl 0 (by decide) (hts (.fieldLink RX4 28 "WidowPenniesModel" "thrown" "I") (by decide +kernel)) (fun _ h9 => h9) rfl (by decide +kernel) rfl rfl (Nat.le_of_ble_eq_true rfl) dX4_setDeaths_2 (fun H locs hP hD hS => ?_)
  have hP : va_P (dC, dI) vwCl (mw cI M 0 n d r Wd ch pd yr (WT d (r 0)) ++ R) H := hP
  have hD : va_D A (mw cI M 0 n d r Wd ch pd yr (WT d (r 0)) ++ R) := hD
  refine lv_iload_n hx hb dX4_setDeaths_5 rfl (lv_at hl 1 rfl) ?_
  refine rd_i (runS0 (As := [.int a]) (rest := []) ⟨hx, hb, hml, hown, hts⟩ (met_X4_isAge l dC dI cI cW a) (va_cwS 1 hts gX4_setDeaths_X4_isAge rfl rfl rfl (by decide +kernel) ⟨Nat.le_of_ble_eq_true rfl, Nat.le_of_ble_eq_true rfl⟩) hKK nilP rfl hl.1 (Nat.le_of_ble_eq_true rfl) rfl dX4_setDeaths_6 ⟨Nat.zero_le _, Nat.zero_le _⟩) (fun r_1 hr_1 => ?_)
  subst hr_1
  refine lv_if_ne (tgt := 18) hx hb dX4_setDeaths_9 (by decide) (fun c_2 => ?_) (fun c_2 => ?_)
  · have bc_2 : 50 ≤ a ∧ a ≤ 99 := b1.mp c_2
    exact (h9 bc_2).elim
  · have bc_2 : ¬ (50 ≤ a ∧ a ≤ 99) := b0.mp c_2
    refine lv_aload_n hx hb dX4_setDeaths_12 rfl (lv_at hl 0 rfl) ?_
    refine lv_iconst (v := 1) hx hb dX4_setDeaths_13 (by decide) ?_
    refine wr_i (runV1 (As := [.int 1]) (rest := []) ⟨hx, hb, hml, hown, hts⟩ (met_X4_fail l dC dI cI cW M 0 n d r Wd ch pd yr (WT d (r 0)) R 1 _) (cwV 1 hts gX4_setDeaths_X4_fail rfl rfl rfl (by decide +kernel) ⟨Nat.le_of_ble_eq_true rfl, Nat.le_of_ble_eq_true rfl⟩) hKK hP hD 4 0 rfl rfl rfl hl.1 (Nat.le_of_ble_eq_true rfl) rfl dX4_setDeaths_14 ⟨Nat.zero_le _, Nat.zero_le _⟩) hD hS hA (fun r_3 H locs hr_3 hP hD hS => ?_)
    subst hr_3
    have hP : va_P (dC, dI) vwCl (mw cI M 1 n d r Wd ch pd yr (WT d (r 0)) ++ R) H := hP
    have hD : va_D A (mw cI M 1 n d r Wd ch pd yr (WT d (r 0)) ++ R) := hD
    have hP9 : va_P (dC, dI) vwCl (mw cI M 1 n d r Wd ch pd yr (WT d (r 0)) ++ R) _ := hP
    have hD9 : va_D A (mw cI M 1 n d r Wd ch pd yr (WT d (r 0)) ++ R) := hD
    have hz : (0 : Int32) = 0 := rfl
    exact W.iret (v := 0) hx hb hr (fun t ht hW => ⟨⟨_, (), rfl, hz, by rw [ht]; exact hP9, by rw [hAe]; exact hD9⟩, by rw [hAe]; exact hS.F ht⟩) hS.2.2 dX4_setDeaths_17
set_option maxHeartbeats 4000000 in
set_option maxRecDepth 100000 in
theorem met2_X4_setDeaths (l : Launch) (dC : Nat → ClassId) (dI : Nat → Nat → Nat) (cI cW : ClassId) (M : Nat → Nat) (th : Int32) (n : Nat) (d r : Nat → Int32) (Wd : Nat → Nat → Int32) (ch pd yr : Int32) (R : va_W) (a x : Int32) (h8 : 50 ≤ a ∧ a ≤ 99) (h9 : ¬ (0 ≤ x ∧ x ≤ 1000)) (sz : Nat) : Met l yX4_setDeaths wsX4_setDeaths ({ frames := 2, cells := 0, slots := 0, locals := 42 }) (Pre1 dC dI cI cW [.ref (M 0), .int a, .int x] (mw cI M th n d r Wd ch pd yr (WT d (r 0)) ++ R) sz) (Qi1 dC dI (fun z => z = 0) (mw cI M th n d r Wd ch pd yr (WT d (r 0)) ++ R) (mw cI M 2 n d r Wd ch pd yr (WT d (r 0)) ++ R) sz) 0 0 (va_A (mw cI M th n d r Wd ch pd yr (WT d (r 0)) ++ R) sz) := by
  refine Met.ofW (cc := cX4_setDeaths) (maxL := 4) (ret := (some .int)) (by decide) rfl ?_
  intro p e s m args below meth c s₁ B hml hv
  obtain ⟨rfl, hsz, hP, hD0, hKK⟩ := hv
  subst hsz
  have hx := B.exec
  have hb := B.bytes
  have hr := B.returns
  have hts := atoms_spec (ws := wsX4_setDeaths) B.pre
  have hown : s.vm.findClass RX4 = some m.cls := findClass_of_methodNamed B.named
  have hlocks := B.notSynchronized
  have hD := hD0.self (sz := s.heap.size)
  generalize hAe : va_A (mw cI M th n d r Wd ch pd yr (WT d (r 0)) ++ R) s.heap.size = A at hD ⊢
  have hA : ∀ q : Nat, s.heap.size ≤ q → A q := fun q h => by rw [← hAe]; exact Or.inr h
  have hS : va_S A s.heap s.heap [] := va_S.rf
  have hl := lv_entry ([.ref (M 0), .int a, .int x]) (n := 4) (Nat.le_of_ble_eq_true rfl)
  rw [lg_entry_eq]
  generalize (lg_sl ([.ref (M 0), .int a, .int x]) ++ List.replicate (4 - (lg_sl ([.ref (M 0), .int a, .int x])).length) Slot.unset).toArray = ls at hl ⊢
  have hl : lv_has ls 4 [(0, .ref (M 0)), (1, .int a), (2, .int x)] := hl
  refine lv_aload_n hx hb dX4_setDeaths_0 rfl (lv_at hl 0 rfl) ?_
  refine lv_iconst (v := 0) hx hb dX4_setDeaths_1 (by decide) ?_
  refine va_put (D := (dC, dI)) (ci := 4) (v := .int 0) (ty := .int) (C := RX4) (T := TX4) (N := 7) hx hb hts (by decide +kernel) tyX4 tyX4_ok nmX4 hown hKK.1 hP hD hS 0 rfl rfl 0 (by decide) (hts (.fieldLink RX4 28 "WidowPenniesModel" "thrown" "I") (by decide +kernel)) (fun _ h9 => h9) rfl (by decide +kernel) rfl rfl (Nat.le_of_ble_eq_true rfl) dX4_setDeaths_2 (fun H locs hP hD hS => ?_)
  have hP : va_P (dC, dI) vwCl (mw cI M 0 n d r Wd ch pd yr (WT d (r 0)) ++ R) H := hP
  have hD : va_D A (mw cI M 0 n d r Wd ch pd yr (WT d (r 0)) ++ R) := hD
  refine lv_iload_n hx hb dX4_setDeaths_5 rfl (lv_at hl 1 rfl) ?_
  refine rd_i (runS0 (As := [.int a]) (rest := []) ⟨hx, hb, hml, hown, hts⟩ (met_X4_isAge l dC dI cI cW a) (va_cwS 1 hts gX4_setDeaths_X4_isAge rfl rfl rfl (by decide +kernel) ⟨Nat.le_of_ble_eq_true rfl, Nat.le_of_ble_eq_true rfl⟩) hKK nilP rfl hl.1 (Nat.le_of_ble_eq_true rfl) rfl dX4_setDeaths_6 ⟨Nat.zero_le _, Nat.zero_le _⟩) (fun r_1 hr_1 => ?_)
  subst hr_1
  refine lv_if_ne (tgt := 18) hx hb dX4_setDeaths_9 (by decide) (fun c_2 => ?_) (fun c_2 => ?_)
  · have bc_2 : 50 ≤ a ∧ a ≤ 99 := b1.mp c_2
    refine lv_iload_n hx hb dX4_setDeaths_18 rfl (lv_at hl 2 rfl) ?_
    refine lv_iconst (v := 0) hx hb dX4_setDeaths_19 (by decide) ?_
    refine lv_sipush (v := 1000) hx hb dX4_setDeaths_20 (by decide) ?_
    refine rd_i (runS0 (As := [.int x, .int 0, .int 1000]) (rest := []) ⟨hx, hb, hml, hown, hts⟩ (met_X4_isIn l dC dI cI cW x 0 1000) (va_cwS 3 hts gX4_setDeaths_X4_isIn rfl rfl rfl (by decide +kernel) ⟨Nat.le_of_ble_eq_true rfl, Nat.le_of_ble_eq_true rfl⟩) hKK nilP rfl hl.1 (Nat.le_of_ble_eq_true rfl) rfl dX4_setDeaths_23 ⟨Nat.zero_le _, Nat.zero_le _⟩) (fun r_3 hr_3 => ?_)
    subst hr_3
    refine lv_if_ne (tgt := 35) hx hb dX4_setDeaths_26 (by decide) (fun c_4 => ?_) (fun c_4 => ?_)
    · have bc_4 : 0 ≤ x ∧ x ≤ 1000 := b1.mp c_4
      exact (h9 bc_4).elim
    · have bc_4 : ¬ (0 ≤ x ∧ x ≤ 1000) := b0.mp c_4
      refine lv_aload_n hx hb dX4_setDeaths_29 rfl (lv_at hl 0 rfl) ?_
      refine lv_iconst (v := 2) hx hb dX4_setDeaths_30 (by decide) ?_
      refine wr_i (runV1 (As := [.int 2]) (rest := []) ⟨hx, hb, hml, hown, hts⟩ (met_X4_fail l dC dI cI cW M 0 n d r Wd ch pd yr (WT d (r 0)) R 2 _) (cwV 1 hts gX4_setDeaths_X4_fail rfl rfl rfl (by decide +kernel) ⟨Nat.le_of_ble_eq_true rfl, Nat.le_of_ble_eq_true rfl⟩) hKK hP hD 4 0 rfl rfl rfl hl.1 (Nat.le_of_ble_eq_true rfl) rfl dX4_setDeaths_31 ⟨Nat.zero_le _, Nat.zero_le _⟩) hD hS hA (fun r_5 H locs hr_5 hP hD hS => ?_)
      subst hr_5
      have hP : va_P (dC, dI) vwCl (mw cI M 2 n d r Wd ch pd yr (WT d (r 0)) ++ R) H := hP
      have hD : va_D A (mw cI M 2 n d r Wd ch pd yr (WT d (r 0)) ++ R) := hD
      have hP9 : va_P (dC, dI) vwCl (mw cI M 2 n d r Wd ch pd yr (WT d (r 0)) ++ R) _ := hP
      have hD9 : va_D A (mw cI M 2 n d r Wd ch pd yr (WT d (r 0)) ++ R) := hD
      have hz : (0 : Int32) = 0 := rfl
      exact W.iret (v := 0) hx hb hr (fun t ht hW => ⟨⟨_, (), rfl, hz, by rw [ht]; exact hP9, by rw [hAe]; exact hD9⟩, by rw [hAe]; exact hS.F ht⟩) hS.2.2 dX4_setDeaths_34
  · have bc_2 : ¬ (50 ≤ a ∧ a ≤ 99) := b0.mp c_2
    exact absurd h8 bc_2
set_option maxHeartbeats 4000000 in
set_option maxRecDepth 100000 in
theorem met_X4_die (l : Launch) (dC : Nat → ClassId) (dI : Nat → Nat → Nat) (cI cW : ClassId) (M : Nat → Nat) (th : Int32) (n : Nat) (d r : Nat → Int32) (Wd : Nat → Nat → Int32) (ch pd yr : Int32) (R : va_W) (hn : n ≤ 10) (hok : ∀ k, k < n → okW (Wd k)) (k : Nat) (hk : k < n) (hal : Wd k 4 = 0) (sz : Nat) : Met l yX4_die wsX4_die ({ frames := 3, cells := 0, slots := 0, locals := 64 }) (Pre1 dC dI cI cW [.ref (M 0), .int (nI k)] (mw cI M th n d r Wd ch pd yr (WT d (r 0)) ++ R) sz) (Qi1 dC dI (fun z => z = keptS d (r 0) (Wd k)) (mw cI M th n d r Wd ch pd yr (WT d (r 0)) ++ R) (mw cI M 0 n d r (upW Wd k (upd (Wd k) 4 1)) ch pd yr (WT d (r 0)) ++ R) sz) 0 0 (va_A (mw cI M th n d r Wd ch pd yr (WT d (r 0)) ++ R) sz) := by
  refine Met.ofW (cc := cX4_die) (maxL := 3) (ret := (some .int)) (by decide) rfl ?_
  intro p e s m args below meth c s₁ B hml hv
  obtain ⟨rfl, hsz, hP, hD0, hKK⟩ := hv
  subst hsz
  have hx := B.exec
  have hb := B.bytes
  have hr := B.returns
  have hts := atoms_spec (ws := wsX4_die) B.pre
  have hown : s.vm.findClass RX4 = some m.cls := findClass_of_methodNamed B.named
  have hlocks := B.notSynchronized
  have hD := hD0.self (sz := s.heap.size)
  generalize hAe : va_A (mw cI M th n d r Wd ch pd yr (WT d (r 0)) ++ R) s.heap.size = A at hD ⊢
  have hA : ∀ q : Nat, s.heap.size ≤ q → A q := fun q h => by rw [← hAe]; exact Or.inr h
  have hS : va_S A s.heap s.heap [] := va_S.rf
  have hl := lv_entry ([.ref (M 0), .int (nI k)]) (n := 3) (Nat.le_of_ble_eq_true rfl)
  rw [lg_entry_eq]
  generalize (lg_sl ([.ref (M 0), .int (nI k)]) ++ List.replicate (3 - (lg_sl ([.ref (M 0), .int (nI k)])).length) Slot.unset).toArray = ls at hl ⊢
  have hl : lv_has ls 3 [(0, .ref (M 0)), (1, .int (nI k))] := hl
  refine lv_aload_n hx hb dX4_die_0 rfl (lv_at hl 0 rfl) ?_
  refine lv_iconst (v := 0) hx hb dX4_die_1 (by decide) ?_
  refine va_put (D := (dC, dI)) (ci := 4) (v := .int 0) (ty := .int) (C := RX4) (T := TX4) (N := 7) hx hb hts (by decide +kernel) tyX4 tyX4_ok nmX4 hown hKK.1 hP hD hS 0 rfl rfl 0 (by decide) (hts (.fieldLink RX4 28 "WidowPenniesModel" "thrown" "I") (by decide +kernel)) (fun _ h9 => h9) rfl (by decide +kernel) rfl rfl (Nat.le_of_ble_eq_true rfl) dX4_die_2 (fun H locs hP hD hS => ?_)
  have hP : va_P (dC, dI) vwCl (mw cI M 0 n d r Wd ch pd yr (WT d (r 0)) ++ R) H := hP
  have hD : va_D A (mw cI M 0 n d r Wd ch pd yr (WT d (r 0)) ++ R) := hD
  refine lv_aload_n hx hb dX4_die_5 rfl (lv_at hl 0 rfl) ?_
  refine lv_iload_n hx hb dX4_die_6 rfl (lv_at hl 1 rfl) ?_
  refine rd_i (runV0 (As := [.int (nI k)]) (rest := []) ⟨hx, hb, hml, hown, hts⟩ (met_X4_isWidow l dC dI cI cW M 0 n d r Wd ch pd yr (WT d (r 0)) (nI k)) (cwV 1 hts gX4_die_X4_isWidow rfl rfl rfl (by decide +kernel) ⟨Nat.le_of_ble_eq_true rfl, Nat.le_of_ble_eq_true rfl⟩) hKK (ws_left hP) 4 0 rfl rfl rfl hl.1 (Nat.le_of_ble_eq_true rfl) rfl dX4_die_7 ⟨Nat.zero_le _, Nat.zero_le _⟩) (fun r_1 hr_1 => ?_)
  subst hr_1
  refine lv_if_ne (tgt := 19) hx hb dX4_die_10 (by decide) (fun c_2 => ?_) (fun c_2 => ?_)
  · have bc_2 : 0 ≤ (nI k) ∧ (nI k) ≤ nI n - 1 := b1.mp c_2
    refine lv_aload_n hx hb dX4_die_19 rfl (lv_at hl 0 rfl) ?_
    refine lv_iload_n hx hb dX4_die_20 rfl (lv_at hl 1 rfl) ?_
    refine rd_i (runV0 (As := [.int (nI k)]) (rest := []) ⟨hx, hb, hml, hown, hts⟩ (met_X4_isAlive l dC dI cI cW M 0 n d r Wd ch pd yr (WT d (r 0)) k (show k < 10 by omega)) (cwV 1 hts gX4_die_X4_isAlive rfl rfl rfl (by decide +kernel) ⟨Nat.le_of_ble_eq_true rfl, Nat.le_of_ble_eq_true rfl⟩) hKK (ws_left hP) 4 0 rfl rfl rfl hl.1 (Nat.le_of_ble_eq_true rfl) rfl dX4_die_21 ⟨Nat.zero_le _, Nat.zero_le _⟩) (fun r_3 hr_3 => ?_)
    subst hr_3
    refine lv_if_ne (tgt := 33) hx hb dX4_die_24 (by decide) (fun c_4 => ?_) (fun c_4 => ?_)
    · have bc_4 : Wd k 4 = 0 := b1.mp c_4
      refine lv_aload_n hx hb dX4_die_33 rfl (lv_at hl 0 rfl) ?_
      refine lv_iload_n hx hb dX4_die_34 rfl (lv_at hl 1 rfl) ?_
      refine rd_i (runV0 (As := [.int (nI k)]) (rest := []) ⟨hx, hb, hml, hown, hts⟩ (met_X4_kept l dC dI cI cW M 0 n d r Wd ch pd yr k (show k < 10 by omega) (hok k hk)) (cwV 1 hts gX4_die_X4_kept rfl rfl rfl (by decide +kernel) ⟨Nat.le_of_ble_eq_true rfl, Nat.le_of_ble_eq_true rfl⟩) hKK (ws_left hP) 4 0 rfl rfl rfl hl.1 (Nat.le_of_ble_eq_true rfl) rfl dX4_die_35 ⟨Nat.zero_le _, Nat.zero_le _⟩) (fun r_5 hr_5 => ?_)
      subst hr_5
      refine lv_istore_n (lv' := [(2, .int (keptS d (r 0) (Wd k))), (0, .ref (M 0)), (1, .int (nI k))]) hx hb dX4_die_38 rfl hl (by decide) rfl (fun ls hl => ?_)
      refine lv_aload_n hx hb dX4_die_39 rfl (lv_at hl 1 rfl) ?_
      refine lv_iload_n hx hb dX4_die_40 rfl (lv_at hl 2 rfl) ?_
      refine lv_iconst (v := 4) hx hb dX4_die_41 (by decide) ?_
      refine lv_iconst (v := 1) hx hb dX4_die_42 (by decide) ?_
      refine wr_v (runV1 (As := [.int (nI k), .int 4, .int 1]) (rest := []) ⟨hx, hb, hml, hown, hts⟩ (met_X4_let l dC dI cI cW M 0 n d r Wd ch pd yr (WT d (r 0)) R k (show k < 10 by omega) 4 (by omega) 1 _) (cwV 3 hts gX4_die_X4_let rfl rfl rfl (by decide +kernel) ⟨Nat.le_of_ble_eq_true rfl, Nat.le_of_ble_eq_true rfl⟩) hKK hP hD 4 0 rfl rfl rfl hl.1 (Nat.le_of_ble_eq_true rfl) rfl dX4_die_43 ⟨Nat.zero_le _, Nat.zero_le _⟩) hD hS hA (fun H locs hP hD hS => ?_)
      have hP : va_P (dC, dI) vwCl (mw cI M 0 n d r (upW Wd k (upd (Wd k) 4 1)) ch pd yr (WT d (r 0)) ++ R) H := hP
      have hD : va_D A (mw cI M 0 n d r (upW Wd k (upd (Wd k) 4 1)) ch pd yr (WT d (r 0)) ++ R) := hD
      refine lv_iload_n hx hb dX4_die_46 rfl (lv_at hl 0 rfl) ?_
      have hP9 : va_P (dC, dI) vwCl (mw cI M 0 n d r (upW Wd k (upd (Wd k) 4 1)) ch pd yr (WT d (r 0)) ++ R) _ := hP
      have hD9 : va_D A (mw cI M 0 n d r (upW Wd k (upd (Wd k) 4 1)) ch pd yr (WT d (r 0)) ++ R) := hD
      have hz : (keptS d (r 0) (Wd k) : Int32) = keptS d (r 0) (Wd k) := rfl
      exact W.iret (v := (keptS d (r 0) (Wd k))) hx hb hr (fun t ht hW => ⟨⟨_, (), rfl, hz, by rw [ht]; exact hP9, by rw [hAe]; exact hD9⟩, by rw [hAe]; exact hS.F ht⟩) hS.2.2 dX4_die_47
    · have bc_4 : ¬ (Wd k 4 = 0) := b0.mp c_4
      exact absurd hal bc_4
  · have bc_2 : ¬ (0 ≤ (nI k) ∧ (nI k) ≤ nI n - 1) := b0.mp c_2
    exact absurd (wid_in2 hk hn) bc_2
set_option maxHeartbeats 4000000 in
set_option maxRecDepth 100000 in
theorem met1_X4_die (l : Launch) (dC : Nat → ClassId) (dI : Nat → Nat → Nat) (cI cW : ClassId) (M : Nat → Nat) (th : Int32) (n : Nat) (d r : Nat → Int32) (Wd : Nat → Nat → Int32) (ch pd yr : Int32) (R : va_W) (hn : n ≤ 10) (a : Int32) (h9 : ¬ (0 ≤ a ∧ a < nI n)) (sz : Nat) : Met l yX4_die wsX4_die ({ frames := 3, cells := 0, slots := 0, locals := 64 }) (Pre1 dC dI cI cW [.ref (M 0), .int a] (mw cI M th n d r Wd ch pd yr (WT d (r 0)) ++ R) sz) (Qi1 dC dI (fun z => z = 0) (mw cI M th n d r Wd ch pd yr (WT d (r 0)) ++ R) (mw cI M 1 n d r Wd ch pd yr (WT d (r 0)) ++ R) sz) 0 0 (va_A (mw cI M th n d r Wd ch pd yr (WT d (r 0)) ++ R) sz) := by
  refine Met.ofW (cc := cX4_die) (maxL := 3) (ret := (some .int)) (by decide) rfl ?_
  intro p e s m args below meth c s₁ B hml hv
  obtain ⟨rfl, hsz, hP, hD0, hKK⟩ := hv
  subst hsz
  have hx := B.exec
  have hb := B.bytes
  have hr := B.returns
  have hts := atoms_spec (ws := wsX4_die) B.pre
  have hown : s.vm.findClass RX4 = some m.cls := findClass_of_methodNamed B.named
  have hlocks := B.notSynchronized
  have hD := hD0.self (sz := s.heap.size)
  generalize hAe : va_A (mw cI M th n d r Wd ch pd yr (WT d (r 0)) ++ R) s.heap.size = A at hD ⊢
  have hA : ∀ q : Nat, s.heap.size ≤ q → A q := fun q h => by rw [← hAe]; exact Or.inr h
  have hS : va_S A s.heap s.heap [] := va_S.rf
  have hl := lv_entry ([.ref (M 0), .int a]) (n := 3) (Nat.le_of_ble_eq_true rfl)
  rw [lg_entry_eq]
  generalize (lg_sl ([.ref (M 0), .int a]) ++ List.replicate (3 - (lg_sl ([.ref (M 0), .int a])).length) Slot.unset).toArray = ls at hl ⊢
  have hl : lv_has ls 3 [(0, .ref (M 0)), (1, .int a)] := hl
  refine lv_aload_n hx hb dX4_die_0 rfl (lv_at hl 0 rfl) ?_
  refine lv_iconst (v := 0) hx hb dX4_die_1 (by decide) ?_
  refine va_put (D := (dC, dI)) (ci := 4) (v := .int 0) (ty := .int) (C := RX4) (T := TX4) (N := 7) hx hb hts (by decide +kernel) tyX4 tyX4_ok nmX4 hown hKK.1 hP hD hS 0 rfl rfl 0 (by decide) (hts (.fieldLink RX4 28 "WidowPenniesModel" "thrown" "I") (by decide +kernel)) (fun _ h9 => h9) rfl (by decide +kernel) rfl rfl (Nat.le_of_ble_eq_true rfl) dX4_die_2 (fun H locs hP hD hS => ?_)
  have hP : va_P (dC, dI) vwCl (mw cI M 0 n d r Wd ch pd yr (WT d (r 0)) ++ R) H := hP
  have hD : va_D A (mw cI M 0 n d r Wd ch pd yr (WT d (r 0)) ++ R) := hD
  refine lv_aload_n hx hb dX4_die_5 rfl (lv_at hl 0 rfl) ?_
  refine lv_iload_n hx hb dX4_die_6 rfl (lv_at hl 1 rfl) ?_
  refine rd_i (runV0 (As := [.int a]) (rest := []) ⟨hx, hb, hml, hown, hts⟩ (met_X4_isWidow l dC dI cI cW M 0 n d r Wd ch pd yr (WT d (r 0)) a) (cwV 1 hts gX4_die_X4_isWidow rfl rfl rfl (by decide +kernel) ⟨Nat.le_of_ble_eq_true rfl, Nat.le_of_ble_eq_true rfl⟩) hKK (ws_left hP) 4 0 rfl rfl rfl hl.1 (Nat.le_of_ble_eq_true rfl) rfl dX4_die_7 ⟨Nat.zero_le _, Nat.zero_le _⟩) (fun r_1 hr_1 => ?_)
  subst hr_1
  refine lv_if_ne (tgt := 19) hx hb dX4_die_10 (by decide) (fun c_2 => ?_) (fun c_2 => ?_)
  · have bc_2 : 0 ≤ a ∧ a ≤ nI n - 1 := b1.mp c_2
    exact (h9 (wid_lt hn bc_2)).elim
  · have bc_2 : ¬ (0 ≤ a ∧ a ≤ nI n - 1) := b0.mp c_2
    refine lv_aload_n hx hb dX4_die_13 rfl (lv_at hl 0 rfl) ?_
    refine lv_iconst (v := 1) hx hb dX4_die_14 (by decide) ?_
    refine wr_i (runV1 (As := [.int 1]) (rest := []) ⟨hx, hb, hml, hown, hts⟩ (met_X4_fail l dC dI cI cW M 0 n d r Wd ch pd yr (WT d (r 0)) R 1 _) (cwV 1 hts gX4_die_X4_fail rfl rfl rfl (by decide +kernel) ⟨Nat.le_of_ble_eq_true rfl, Nat.le_of_ble_eq_true rfl⟩) hKK hP hD 4 0 rfl rfl rfl hl.1 (Nat.le_of_ble_eq_true rfl) rfl dX4_die_15 ⟨Nat.zero_le _, Nat.zero_le _⟩) hD hS hA (fun r_3 H locs hr_3 hP hD hS => ?_)
    subst hr_3
    have hP : va_P (dC, dI) vwCl (mw cI M 1 n d r Wd ch pd yr (WT d (r 0)) ++ R) H := hP
    have hD : va_D A (mw cI M 1 n d r Wd ch pd yr (WT d (r 0)) ++ R) := hD
    have hP9 : va_P (dC, dI) vwCl (mw cI M 1 n d r Wd ch pd yr (WT d (r 0)) ++ R) _ := hP
    have hD9 : va_D A (mw cI M 1 n d r Wd ch pd yr (WT d (r 0)) ++ R) := hD
    have hz : (0 : Int32) = 0 := rfl
    exact W.iret (v := 0) hx hb hr (fun t ht hW => ⟨⟨_, (), rfl, hz, by rw [ht]; exact hP9, by rw [hAe]; exact hD9⟩, by rw [hAe]; exact hS.F ht⟩) hS.2.2 dX4_die_18
set_option maxHeartbeats 4000000 in
set_option maxRecDepth 100000 in
theorem met2_X4_die (l : Launch) (dC : Nat → ClassId) (dI : Nat → Nat → Nat) (cI cW : ClassId) (M : Nat → Nat) (th : Int32) (n : Nat) (d r : Nat → Int32) (Wd : Nat → Nat → Int32) (ch pd yr : Int32) (R : va_W) (hn : n ≤ 10) (k : Nat) (hk : k < n) (h9 : ¬ Wd k 4 = 0) (sz : Nat) : Met l yX4_die wsX4_die ({ frames := 3, cells := 0, slots := 0, locals := 64 }) (Pre1 dC dI cI cW [.ref (M 0), .int (nI k)] (mw cI M th n d r Wd ch pd yr (WT d (r 0)) ++ R) sz) (Qi1 dC dI (fun z => z = 0) (mw cI M th n d r Wd ch pd yr (WT d (r 0)) ++ R) (mw cI M 2 n d r Wd ch pd yr (WT d (r 0)) ++ R) sz) 0 0 (va_A (mw cI M th n d r Wd ch pd yr (WT d (r 0)) ++ R) sz) := by
  refine Met.ofW (cc := cX4_die) (maxL := 3) (ret := (some .int)) (by decide) rfl ?_
  intro p e s m args below meth c s₁ B hml hv
  obtain ⟨rfl, hsz, hP, hD0, hKK⟩ := hv
  subst hsz
  have hx := B.exec
  have hb := B.bytes
  have hr := B.returns
  have hts := atoms_spec (ws := wsX4_die) B.pre
  have hown : s.vm.findClass RX4 = some m.cls := findClass_of_methodNamed B.named
  have hlocks := B.notSynchronized
  have hD := hD0.self (sz := s.heap.size)
  generalize hAe : va_A (mw cI M th n d r Wd ch pd yr (WT d (r 0)) ++ R) s.heap.size = A at hD ⊢
  have hA : ∀ q : Nat, s.heap.size ≤ q → A q := fun q h => by rw [← hAe]; exact Or.inr h
  have hS : va_S A s.heap s.heap [] := va_S.rf
  have hl := lv_entry ([.ref (M 0), .int (nI k)]) (n := 3) (Nat.le_of_ble_eq_true rfl)
  rw [lg_entry_eq]
  generalize (lg_sl ([.ref (M 0), .int (nI k)]) ++ List.replicate (3 - (lg_sl ([.ref (M 0), .int (nI k)])).length) Slot.unset).toArray = ls at hl ⊢
  have hl : lv_has ls 3 [(0, .ref (M 0)), (1, .int (nI k))] := hl
  refine lv_aload_n hx hb dX4_die_0 rfl (lv_at hl 0 rfl) ?_
  refine lv_iconst (v := 0) hx hb dX4_die_1 (by decide) ?_
  refine va_put (D := (dC, dI)) (ci := 4) (v := .int 0) (ty := .int) (C := RX4) (T := TX4) (N := 7) hx hb hts (by decide +kernel) tyX4 tyX4_ok nmX4 hown hKK.1 hP hD hS 0 rfl rfl 0 (by decide) (hts (.fieldLink RX4 28 "WidowPenniesModel" "thrown" "I") (by decide +kernel)) (fun _ h9 => h9) rfl (by decide +kernel) rfl rfl (Nat.le_of_ble_eq_true rfl) dX4_die_2 (fun H locs hP hD hS => ?_)
  have hP : va_P (dC, dI) vwCl (mw cI M 0 n d r Wd ch pd yr (WT d (r 0)) ++ R) H := hP
  have hD : va_D A (mw cI M 0 n d r Wd ch pd yr (WT d (r 0)) ++ R) := hD
  refine lv_aload_n hx hb dX4_die_5 rfl (lv_at hl 0 rfl) ?_
  refine lv_iload_n hx hb dX4_die_6 rfl (lv_at hl 1 rfl) ?_
  refine rd_i (runV0 (As := [.int (nI k)]) (rest := []) ⟨hx, hb, hml, hown, hts⟩ (met_X4_isWidow l dC dI cI cW M 0 n d r Wd ch pd yr (WT d (r 0)) (nI k)) (cwV 1 hts gX4_die_X4_isWidow rfl rfl rfl (by decide +kernel) ⟨Nat.le_of_ble_eq_true rfl, Nat.le_of_ble_eq_true rfl⟩) hKK (ws_left hP) 4 0 rfl rfl rfl hl.1 (Nat.le_of_ble_eq_true rfl) rfl dX4_die_7 ⟨Nat.zero_le _, Nat.zero_le _⟩) (fun r_1 hr_1 => ?_)
  subst hr_1
  refine lv_if_ne (tgt := 19) hx hb dX4_die_10 (by decide) (fun c_2 => ?_) (fun c_2 => ?_)
  · have bc_2 : 0 ≤ (nI k) ∧ (nI k) ≤ nI n - 1 := b1.mp c_2
    refine lv_aload_n hx hb dX4_die_19 rfl (lv_at hl 0 rfl) ?_
    refine lv_iload_n hx hb dX4_die_20 rfl (lv_at hl 1 rfl) ?_
    refine rd_i (runV0 (As := [.int (nI k)]) (rest := []) ⟨hx, hb, hml, hown, hts⟩ (met_X4_isAlive l dC dI cI cW M 0 n d r Wd ch pd yr (WT d (r 0)) k (show k < 10 by omega)) (cwV 1 hts gX4_die_X4_isAlive rfl rfl rfl (by decide +kernel) ⟨Nat.le_of_ble_eq_true rfl, Nat.le_of_ble_eq_true rfl⟩) hKK (ws_left hP) 4 0 rfl rfl rfl hl.1 (Nat.le_of_ble_eq_true rfl) rfl dX4_die_21 ⟨Nat.zero_le _, Nat.zero_le _⟩) (fun r_3 hr_3 => ?_)
    subst hr_3
    refine lv_if_ne (tgt := 33) hx hb dX4_die_24 (by decide) (fun c_4 => ?_) (fun c_4 => ?_)
    · have bc_4 : Wd k 4 = 0 := b1.mp c_4
      exact (h9 bc_4).elim
    · have bc_4 : ¬ (Wd k 4 = 0) := b0.mp c_4
      refine lv_aload_n hx hb dX4_die_27 rfl (lv_at hl 0 rfl) ?_
      refine lv_iconst (v := 2) hx hb dX4_die_28 (by decide) ?_
      refine wr_i (runV1 (As := [.int 2]) (rest := []) ⟨hx, hb, hml, hown, hts⟩ (met_X4_fail l dC dI cI cW M 0 n d r Wd ch pd yr (WT d (r 0)) R 2 _) (cwV 1 hts gX4_die_X4_fail rfl rfl rfl (by decide +kernel) ⟨Nat.le_of_ble_eq_true rfl, Nat.le_of_ble_eq_true rfl⟩) hKK hP hD 4 0 rfl rfl rfl hl.1 (Nat.le_of_ble_eq_true rfl) rfl dX4_die_29 ⟨Nat.zero_le _, Nat.zero_le _⟩) hD hS hA (fun r_5 H locs hr_5 hP hD hS => ?_)
      subst hr_5
      have hP : va_P (dC, dI) vwCl (mw cI M 2 n d r Wd ch pd yr (WT d (r 0)) ++ R) H := hP
      have hD : va_D A (mw cI M 2 n d r Wd ch pd yr (WT d (r 0)) ++ R) := hD
      have hP9 : va_P (dC, dI) vwCl (mw cI M 2 n d r Wd ch pd yr (WT d (r 0)) ++ R) _ := hP
      have hD9 : va_D A (mw cI M 2 n d r Wd ch pd yr (WT d (r 0)) ++ R) := hD
      have hz : (0 : Int32) = 0 := rfl
      exact W.iret (v := 0) hx hb hr (fun t ht hW => ⟨⟨_, (), rfl, hz, by rw [ht]; exact hP9, by rw [hAe]; exact hD9⟩, by rw [hAe]; exact hS.F ht⟩) hS.2.2 dX4_die_32
  · have bc_2 : ¬ (0 ≤ (nI k) ∧ (nI k) ≤ nI n - 1) := b0.mp c_2
    exact absurd (wid_in2 hk hn) bc_2
set_option maxHeartbeats 4000000 in
set_option maxRecDepth 100000 in
theorem met_X4_giveUp (l : Launch) (dC : Nat → ClassId) (dI : Nat → Nat → Nat) (cI cW : ClassId) (M : Nat → Nat) (th : Int32) (n : Nat) (d r : Nat → Int32) (Wd : Nat → Nat → Int32) (ch pd yr : Int32) (R : va_W) (hn : n ≤ 10) (hok : ∀ k, k < n → okW (Wd k)) (k : Nat) (hk : k < n) (hcan : Wd k 4 = 0 ∧ 2 ≤ Wd k 3) (sz : Nat) : Met l yX4_giveUp wsX4_giveUp ({ frames := 4, cells := 0, slots := 0, locals := 85 }) (Pre1 dC dI cI cW [.ref (M 0), .int (nI k)] (mw cI M th n d r Wd ch pd yr (WT d (r 0)) ++ R) sz) (Qi1 dC dI (fun z => z = backS d r (Wd k)) (mw cI M th n d r Wd ch pd yr (WT d (r 0)) ++ R) (mw cI M 0 n d r (upW Wd k (upd (upd (Wd k) 4 2) 5 (Wd k 5 + backS d r (Wd k)))) (ch - backS d r (Wd k)) (pd + backS d r (Wd k)) yr (WT d (r 0)) ++ R) sz) 0 0 (va_A (mw cI M th n d r Wd ch pd yr (WT d (r 0)) ++ R) sz) := by
  refine Met.ofW (cc := cX4_giveUp) (maxL := 3) (ret := (some .int)) (by decide) rfl ?_
  intro p e s m args below meth c s₁ B hml hv
  obtain ⟨rfl, hsz, hP, hD0, hKK⟩ := hv
  subst hsz
  have hx := B.exec
  have hb := B.bytes
  have hr := B.returns
  have hts := atoms_spec (ws := wsX4_giveUp) B.pre
  have hown : s.vm.findClass RX4 = some m.cls := findClass_of_methodNamed B.named
  have hlocks := B.notSynchronized
  have hD := hD0.self (sz := s.heap.size)
  generalize hAe : va_A (mw cI M th n d r Wd ch pd yr (WT d (r 0)) ++ R) s.heap.size = A at hD ⊢
  have hA : ∀ q : Nat, s.heap.size ≤ q → A q := fun q h => by rw [← hAe]; exact Or.inr h
  have hS : va_S A s.heap s.heap [] := va_S.rf
  have hl := lv_entry ([.ref (M 0), .int (nI k)]) (n := 3) (Nat.le_of_ble_eq_true rfl)
  rw [lg_entry_eq]
  generalize (lg_sl ([.ref (M 0), .int (nI k)]) ++ List.replicate (3 - (lg_sl ([.ref (M 0), .int (nI k)])).length) Slot.unset).toArray = ls at hl ⊢
  have hl : lv_has ls 3 [(0, .ref (M 0)), (1, .int (nI k))] := hl
  refine lv_aload_n hx hb dX4_giveUp_0 rfl (lv_at hl 0 rfl) ?_
  refine lv_iconst (v := 0) hx hb dX4_giveUp_1 (by decide) ?_
  refine va_put (D := (dC, dI)) (ci := 4) (v := .int 0) (ty := .int) (C := RX4) (T := TX4) (N := 7) hx hb hts (by decide +kernel) tyX4 tyX4_ok nmX4 hown hKK.1 hP hD hS 0 rfl rfl 0 (by decide) (hts (.fieldLink RX4 28 "WidowPenniesModel" "thrown" "I") (by decide +kernel)) (fun _ h9 => h9) rfl (by decide +kernel) rfl rfl (Nat.le_of_ble_eq_true rfl) dX4_giveUp_2 (fun H locs hP hD hS => ?_)
  have hP : va_P (dC, dI) vwCl (mw cI M 0 n d r Wd ch pd yr (WT d (r 0)) ++ R) H := hP
  have hD : va_D A (mw cI M 0 n d r Wd ch pd yr (WT d (r 0)) ++ R) := hD
  refine lv_aload_n hx hb dX4_giveUp_5 rfl (lv_at hl 0 rfl) ?_
  refine lv_iload_n hx hb dX4_giveUp_6 rfl (lv_at hl 1 rfl) ?_
  refine rd_i (runV0 (As := [.int (nI k)]) (rest := []) ⟨hx, hb, hml, hown, hts⟩ (met_X4_isWidow l dC dI cI cW M 0 n d r Wd ch pd yr (WT d (r 0)) (nI k)) (cwV 1 hts gX4_giveUp_X4_isWidow rfl rfl rfl (by decide +kernel) ⟨Nat.le_of_ble_eq_true rfl, Nat.le_of_ble_eq_true rfl⟩) hKK (ws_left hP) 4 0 rfl rfl rfl hl.1 (Nat.le_of_ble_eq_true rfl) rfl dX4_giveUp_7 ⟨Nat.zero_le _, Nat.zero_le _⟩) (fun r_1 hr_1 => ?_)
  subst hr_1
  refine lv_if_ne (tgt := 19) hx hb dX4_giveUp_10 (by decide) (fun c_2 => ?_) (fun c_2 => ?_)
  · have bc_2 : 0 ≤ (nI k) ∧ (nI k) ≤ nI n - 1 := b1.mp c_2
    refine lv_aload_n hx hb dX4_giveUp_19 rfl (lv_at hl 0 rfl) ?_
    refine lv_iload_n hx hb dX4_giveUp_20 rfl (lv_at hl 1 rfl) ?_
    refine rd_i (runV0 (As := [.int (nI k)]) (rest := []) ⟨hx, hb, hml, hown, hts⟩ (met_X4_isAlive l dC dI cI cW M 0 n d r Wd ch pd yr (WT d (r 0)) k (show k < 10 by omega)) (cwV 1 hts gX4_giveUp_X4_isAlive rfl rfl rfl (by decide +kernel) ⟨Nat.le_of_ble_eq_true rfl, Nat.le_of_ble_eq_true rfl⟩) hKK (ws_left hP) 4 0 rfl rfl rfl hl.1 (Nat.le_of_ble_eq_true rfl) rfl dX4_giveUp_21 ⟨Nat.zero_le _, Nat.zero_le _⟩) (fun r_3 hr_3 => ?_)
    subst hr_3
    refine lv_if_eq (tgt := 37) hx hb dX4_giveUp_24 (by decide) (fun c_4 => ?_) (fun c_4 => ?_)
    · have bc_4 : ¬ (Wd k 4 = 0) := b0.mp c_4
      exact absurd hcan.1 bc_4
    · have bc_4 : Wd k 4 = 0 := b1.mp c_4
      refine lv_aload_n hx hb dX4_giveUp_27 rfl (lv_at hl 0 rfl) ?_
      refine lv_iload_n hx hb dX4_giveUp_28 rfl (lv_at hl 1 rfl) ?_
      refine lv_iconst (v := 3) hx hb dX4_giveUp_29 (by decide) ?_
      refine rd_i (runV0 (As := [.int (nI k), .int 3]) (rest := []) ⟨hx, hb, hml, hown, hts⟩ (met_X4_wi l dC dI cI cW M 0 n d r Wd ch pd yr (WT d (r 0)) k (show k < 10 by omega) 3 (by omega)) (cwV 2 hts gX4_giveUp_X4_wi rfl rfl rfl (by decide +kernel) ⟨Nat.le_of_ble_eq_true rfl, Nat.le_of_ble_eq_true rfl⟩) hKK (ws_left hP) 4 0 rfl rfl rfl hl.1 (Nat.le_of_ble_eq_true rfl) rfl dX4_giveUp_30 ⟨Nat.zero_le _, Nat.zero_le _⟩) (fun r_5 hr_5 => ?_)
      subst hr_5
      refine lv_iconst (v := 2) hx hb dX4_giveUp_33 (by decide) ?_
      refine lv_icmp_ge (tgt := 43) hx hb dX4_giveUp_34 (by decide) (fun c_6 => ?_) (fun c_6 => ?_)
      · refine lv_aload_n hx hb dX4_giveUp_43 rfl (lv_at hl 0 rfl) ?_
        refine lv_iload_n hx hb dX4_giveUp_44 rfl (lv_at hl 1 rfl) ?_
        refine rd_i (runV0 (As := [.int (nI k)]) (rest := []) ⟨hx, hb, hml, hown, hts⟩ (met_X4_back l dC dI cI cW M 0 n d r Wd ch pd yr k (show k < 10 by omega) (hok k hk)) (cwV 1 hts gX4_giveUp_X4_back rfl rfl rfl (by decide +kernel) ⟨Nat.le_of_ble_eq_true rfl, Nat.le_of_ble_eq_true rfl⟩) hKK (ws_left hP) 4 0 rfl rfl rfl hl.1 (Nat.le_of_ble_eq_true rfl) rfl dX4_giveUp_45 ⟨Nat.zero_le _, Nat.zero_le _⟩) (fun r_7 hr_7 => ?_)
        subst hr_7
        refine lv_istore_n (lv' := [(2, .int (backS d r (Wd k))), (0, .ref (M 0)), (1, .int (nI k))]) hx hb dX4_giveUp_48 rfl hl (by decide) rfl (fun ls hl => ?_)
        refine lv_aload_n hx hb dX4_giveUp_49 rfl (lv_at hl 1 rfl) ?_
        refine lv_iload_n hx hb dX4_giveUp_50 rfl (lv_at hl 2 rfl) ?_
        refine lv_iload_n hx hb dX4_giveUp_51 rfl (lv_at hl 0 rfl) ?_
        refine wr_v (runV1 (As := [.int (nI k), .int (backS d r (Wd k))]) (rest := []) ⟨hx, hb, hml, hown, hts⟩ (met_X4_payOut l dC dI cI cW M 0 n d r Wd ch pd yr (WT d (r 0)) R k (show k < 10 by omega) (backS d r (Wd k)) _) (cwV 2 hts gX4_giveUp_X4_payOut rfl rfl rfl (by decide +kernel) ⟨Nat.le_of_ble_eq_true rfl, Nat.le_of_ble_eq_true rfl⟩) hKK hP hD 4 0 rfl rfl rfl hl.1 (Nat.le_of_ble_eq_true rfl) rfl dX4_giveUp_52 ⟨Nat.zero_le _, Nat.zero_le _⟩) hD hS hA (fun H locs hP hD hS => ?_)
        have hP : va_P (dC, dI) vwCl (mw cI M 0 n d r (upW Wd k (upd (Wd k) 5 (Wd k 5 + (backS d r (Wd k))))) (ch - (backS d r (Wd k))) (pd + (backS d r (Wd k))) yr (WT d (r 0)) ++ R) H := hP
        have hD : va_D A (mw cI M 0 n d r (upW Wd k (upd (Wd k) 5 (Wd k 5 + (backS d r (Wd k))))) (ch - (backS d r (Wd k))) (pd + (backS d r (Wd k))) yr (WT d (r 0)) ++ R) := hD
        refine lv_aload_n hx hb dX4_giveUp_55 rfl (lv_at hl 1 rfl) ?_
        refine lv_iload_n hx hb dX4_giveUp_56 rfl (lv_at hl 2 rfl) ?_
        refine lv_iconst (v := 4) hx hb dX4_giveUp_57 (by decide) ?_
        refine lv_iconst (v := 2) hx hb dX4_giveUp_58 (by decide) ?_
        refine wr_v (runV1 (As := [.int (nI k), .int 4, .int 2]) (rest := []) ⟨hx, hb, hml, hown, hts⟩ (met_X4_let l dC dI cI cW M 0 n d r (upW Wd k (upd (Wd k) 5 (Wd k 5 + (backS d r (Wd k))))) (ch - (backS d r (Wd k))) (pd + (backS d r (Wd k))) yr (WT d (r 0)) R k (show k < 10 by omega) 4 (by omega) 2 _) (cwV 3 hts gX4_giveUp_X4_let rfl rfl rfl (by decide +kernel) ⟨Nat.le_of_ble_eq_true rfl, Nat.le_of_ble_eq_true rfl⟩) hKK hP hD 4 0 rfl rfl rfl hl.1 (Nat.le_of_ble_eq_true rfl) rfl dX4_giveUp_59 ⟨Nat.zero_le _, Nat.zero_le _⟩) hD hS hA (fun H locs hP hD hS => ?_)
        have hP : va_P (dC, dI) vwCl (mw cI M 0 n d r (upW (upW Wd k (upd (Wd k) 5 (Wd k 5 + (backS d r (Wd k))))) k (upd ((upW Wd k (upd (Wd k) 5 (Wd k 5 + (backS d r (Wd k))))) k) 4 2)) (ch - (backS d r (Wd k))) (pd + (backS d r (Wd k))) yr (WT d (r 0)) ++ R) H := hP
        have hD : va_D A (mw cI M 0 n d r (upW (upW Wd k (upd (Wd k) 5 (Wd k 5 + (backS d r (Wd k))))) k (upd ((upW Wd k (upd (Wd k) 5 (Wd k 5 + (backS d r (Wd k))))) k) 4 2)) (ch - (backS d r (Wd k))) (pd + (backS d r (Wd k))) yr (WT d (r 0)) ++ R) := hD
        refine lv_iload_n hx hb dX4_giveUp_62 rfl (lv_at hl 0 rfl) ?_
        have hP9 : va_P (dC, dI) vwCl (mw cI M 0 n d r (upW (upW Wd k (upd (Wd k) 5 (Wd k 5 + (backS d r (Wd k))))) k (upd ((upW Wd k (upd (Wd k) 5 (Wd k 5 + (backS d r (Wd k))))) k) 4 2)) (ch - (backS d r (Wd k))) (pd + (backS d r (Wd k))) yr (WT d (r 0)) ++ R) _ := hP
        have hD9 : va_D A (mw cI M 0 n d r (upW (upW Wd k (upd (Wd k) 5 (Wd k 5 + (backS d r (Wd k))))) k (upd ((upW Wd k (upd (Wd k) 5 (Wd k 5 + (backS d r (Wd k))))) k) 4 2)) (ch - (backS d r (Wd k))) (pd + (backS d r (Wd k))) yr (WT d (r 0)) ++ R) := hD
        rw [upW_upW, upW_at, upd_comm (Wd k) (show 5 ≠ 4 by decide)] at hP9 hD9
        have hz : (backS d r (Wd k) : Int32) = backS d r (Wd k) := rfl
        exact W.iret (v := (backS d r (Wd k))) hx hb hr (fun t ht hW => ⟨⟨_, (), rfl, hz, by rw [ht]; exact hP9, by rw [hAe]; exact hD9⟩, by rw [hAe]; exact hS.F ht⟩) hS.2.2 dX4_giveUp_63
      · exact absurd hcan.2 c_6
  · have bc_2 : ¬ (0 ≤ (nI k) ∧ (nI k) ≤ nI n - 1) := b0.mp c_2
    exact absurd (wid_in2 hk hn) bc_2
set_option maxHeartbeats 4000000 in
set_option maxRecDepth 100000 in
theorem met1_X4_giveUp (l : Launch) (dC : Nat → ClassId) (dI : Nat → Nat → Nat) (cI cW : ClassId) (M : Nat → Nat) (th : Int32) (n : Nat) (d r : Nat → Int32) (Wd : Nat → Nat → Int32) (ch pd yr : Int32) (R : va_W) (hn : n ≤ 10) (a : Int32) (h9 : ¬ (0 ≤ a ∧ a < nI n)) (sz : Nat) : Met l yX4_giveUp wsX4_giveUp ({ frames := 4, cells := 0, slots := 0, locals := 85 }) (Pre1 dC dI cI cW [.ref (M 0), .int a] (mw cI M th n d r Wd ch pd yr (WT d (r 0)) ++ R) sz) (Qi1 dC dI (fun z => z = 0) (mw cI M th n d r Wd ch pd yr (WT d (r 0)) ++ R) (mw cI M 1 n d r Wd ch pd yr (WT d (r 0)) ++ R) sz) 0 0 (va_A (mw cI M th n d r Wd ch pd yr (WT d (r 0)) ++ R) sz) := by
  refine Met.ofW (cc := cX4_giveUp) (maxL := 3) (ret := (some .int)) (by decide) rfl ?_
  intro p e s m args below meth c s₁ B hml hv
  obtain ⟨rfl, hsz, hP, hD0, hKK⟩ := hv
  subst hsz
  have hx := B.exec
  have hb := B.bytes
  have hr := B.returns
  have hts := atoms_spec (ws := wsX4_giveUp) B.pre
  have hown : s.vm.findClass RX4 = some m.cls := findClass_of_methodNamed B.named
  have hlocks := B.notSynchronized
  have hD := hD0.self (sz := s.heap.size)
  generalize hAe : va_A (mw cI M th n d r Wd ch pd yr (WT d (r 0)) ++ R) s.heap.size = A at hD ⊢
  have hA : ∀ q : Nat, s.heap.size ≤ q → A q := fun q h => by rw [← hAe]; exact Or.inr h
  have hS : va_S A s.heap s.heap [] := va_S.rf
  have hl := lv_entry ([.ref (M 0), .int a]) (n := 3) (Nat.le_of_ble_eq_true rfl)
  rw [lg_entry_eq]
  generalize (lg_sl ([.ref (M 0), .int a]) ++ List.replicate (3 - (lg_sl ([.ref (M 0), .int a])).length) Slot.unset).toArray = ls at hl ⊢
  have hl : lv_has ls 3 [(0, .ref (M 0)), (1, .int a)] := hl
  refine lv_aload_n hx hb dX4_giveUp_0 rfl (lv_at hl 0 rfl) ?_
  refine lv_iconst (v := 0) hx hb dX4_giveUp_1 (by decide) ?_
  refine va_put (D := (dC, dI)) (ci := 4) (v := .int 0) (ty := .int) (C := RX4) (T := TX4) (N := 7) hx hb hts (by decide +kernel) tyX4 tyX4_ok nmX4 hown hKK.1 hP hD hS 0 rfl rfl 0 (by decide) (hts (.fieldLink RX4 28 "WidowPenniesModel" "thrown" "I") (by decide +kernel)) (fun _ h9 => h9) rfl (by decide +kernel) rfl rfl (Nat.le_of_ble_eq_true rfl) dX4_giveUp_2 (fun H locs hP hD hS => ?_)
  have hP : va_P (dC, dI) vwCl (mw cI M 0 n d r Wd ch pd yr (WT d (r 0)) ++ R) H := hP
  have hD : va_D A (mw cI M 0 n d r Wd ch pd yr (WT d (r 0)) ++ R) := hD
  refine lv_aload_n hx hb dX4_giveUp_5 rfl (lv_at hl 0 rfl) ?_
  refine lv_iload_n hx hb dX4_giveUp_6 rfl (lv_at hl 1 rfl) ?_
  refine rd_i (runV0 (As := [.int a]) (rest := []) ⟨hx, hb, hml, hown, hts⟩ (met_X4_isWidow l dC dI cI cW M 0 n d r Wd ch pd yr (WT d (r 0)) a) (cwV 1 hts gX4_giveUp_X4_isWidow rfl rfl rfl (by decide +kernel) ⟨Nat.le_of_ble_eq_true rfl, Nat.le_of_ble_eq_true rfl⟩) hKK (ws_left hP) 4 0 rfl rfl rfl hl.1 (Nat.le_of_ble_eq_true rfl) rfl dX4_giveUp_7 ⟨Nat.zero_le _, Nat.zero_le _⟩) (fun r_1 hr_1 => ?_)
  subst hr_1
  refine lv_if_ne (tgt := 19) hx hb dX4_giveUp_10 (by decide) (fun c_2 => ?_) (fun c_2 => ?_)
  · have bc_2 : 0 ≤ a ∧ a ≤ nI n - 1 := b1.mp c_2
    exact (h9 (wid_lt hn bc_2)).elim
  · have bc_2 : ¬ (0 ≤ a ∧ a ≤ nI n - 1) := b0.mp c_2
    refine lv_aload_n hx hb dX4_giveUp_13 rfl (lv_at hl 0 rfl) ?_
    refine lv_iconst (v := 1) hx hb dX4_giveUp_14 (by decide) ?_
    refine wr_i (runV1 (As := [.int 1]) (rest := []) ⟨hx, hb, hml, hown, hts⟩ (met_X4_fail l dC dI cI cW M 0 n d r Wd ch pd yr (WT d (r 0)) R 1 _) (cwV 1 hts gX4_giveUp_X4_fail rfl rfl rfl (by decide +kernel) ⟨Nat.le_of_ble_eq_true rfl, Nat.le_of_ble_eq_true rfl⟩) hKK hP hD 4 0 rfl rfl rfl hl.1 (Nat.le_of_ble_eq_true rfl) rfl dX4_giveUp_15 ⟨Nat.zero_le _, Nat.zero_le _⟩) hD hS hA (fun r_3 H locs hr_3 hP hD hS => ?_)
    subst hr_3
    have hP : va_P (dC, dI) vwCl (mw cI M 1 n d r Wd ch pd yr (WT d (r 0)) ++ R) H := hP
    have hD : va_D A (mw cI M 1 n d r Wd ch pd yr (WT d (r 0)) ++ R) := hD
    have hP9 : va_P (dC, dI) vwCl (mw cI M 1 n d r Wd ch pd yr (WT d (r 0)) ++ R) _ := hP
    have hD9 : va_D A (mw cI M 1 n d r Wd ch pd yr (WT d (r 0)) ++ R) := hD
    have hz : (0 : Int32) = 0 := rfl
    exact W.iret (v := 0) hx hb hr (fun t ht hW => ⟨⟨_, (), rfl, hz, by rw [ht]; exact hP9, by rw [hAe]; exact hD9⟩, by rw [hAe]; exact hS.F ht⟩) hS.2.2 dX4_giveUp_18
set_option maxHeartbeats 4000000 in
set_option maxRecDepth 100000 in
theorem met2_X4_giveUp (l : Launch) (dC : Nat → ClassId) (dI : Nat → Nat → Nat) (cI cW : ClassId) (M : Nat → Nat) (th : Int32) (n : Nat) (d r : Nat → Int32) (Wd : Nat → Nat → Int32) (ch pd yr : Int32) (R : va_W) (hn : n ≤ 10) (k : Nat) (hk : k < n) (h9 : ¬ (Wd k 4 = 0 ∧ 2 ≤ Wd k 3)) (sz : Nat) : Met l yX4_giveUp wsX4_giveUp ({ frames := 4, cells := 0, slots := 0, locals := 85 }) (Pre1 dC dI cI cW [.ref (M 0), .int (nI k)] (mw cI M th n d r Wd ch pd yr (WT d (r 0)) ++ R) sz) (Qi1 dC dI (fun z => z = 0) (mw cI M th n d r Wd ch pd yr (WT d (r 0)) ++ R) (mw cI M 2 n d r Wd ch pd yr (WT d (r 0)) ++ R) sz) 0 0 (va_A (mw cI M th n d r Wd ch pd yr (WT d (r 0)) ++ R) sz) := by
  refine Met.ofW (cc := cX4_giveUp) (maxL := 3) (ret := (some .int)) (by decide) rfl ?_
  intro p e s m args below meth c s₁ B hml hv
  obtain ⟨rfl, hsz, hP, hD0, hKK⟩ := hv
  subst hsz
  have hx := B.exec
  have hb := B.bytes
  have hr := B.returns
  have hts := atoms_spec (ws := wsX4_giveUp) B.pre
  have hown : s.vm.findClass RX4 = some m.cls := findClass_of_methodNamed B.named
  have hlocks := B.notSynchronized
  have hD := hD0.self (sz := s.heap.size)
  generalize hAe : va_A (mw cI M th n d r Wd ch pd yr (WT d (r 0)) ++ R) s.heap.size = A at hD ⊢
  have hA : ∀ q : Nat, s.heap.size ≤ q → A q := fun q h => by rw [← hAe]; exact Or.inr h
  have hS : va_S A s.heap s.heap [] := va_S.rf
  have hl := lv_entry ([.ref (M 0), .int (nI k)]) (n := 3) (Nat.le_of_ble_eq_true rfl)
  rw [lg_entry_eq]
  generalize (lg_sl ([.ref (M 0), .int (nI k)]) ++ List.replicate (3 - (lg_sl ([.ref (M 0), .int (nI k)])).length) Slot.unset).toArray = ls at hl ⊢
  have hl : lv_has ls 3 [(0, .ref (M 0)), (1, .int (nI k))] := hl
  refine lv_aload_n hx hb dX4_giveUp_0 rfl (lv_at hl 0 rfl) ?_
  refine lv_iconst (v := 0) hx hb dX4_giveUp_1 (by decide) ?_
  refine va_put (D := (dC, dI)) (ci := 4) (v := .int 0) (ty := .int) (C := RX4) (T := TX4) (N := 7) hx hb hts (by decide +kernel) tyX4 tyX4_ok nmX4 hown hKK.1 hP hD hS 0 rfl rfl 0 (by decide) (hts (.fieldLink RX4 28 "WidowPenniesModel" "thrown" "I") (by decide +kernel)) (fun _ h9 => h9) rfl (by decide +kernel) rfl rfl (Nat.le_of_ble_eq_true rfl) dX4_giveUp_2 (fun H locs hP hD hS => ?_)
  have hP : va_P (dC, dI) vwCl (mw cI M 0 n d r Wd ch pd yr (WT d (r 0)) ++ R) H := hP
  have hD : va_D A (mw cI M 0 n d r Wd ch pd yr (WT d (r 0)) ++ R) := hD
  refine lv_aload_n hx hb dX4_giveUp_5 rfl (lv_at hl 0 rfl) ?_
  refine lv_iload_n hx hb dX4_giveUp_6 rfl (lv_at hl 1 rfl) ?_
  refine rd_i (runV0 (As := [.int (nI k)]) (rest := []) ⟨hx, hb, hml, hown, hts⟩ (met_X4_isWidow l dC dI cI cW M 0 n d r Wd ch pd yr (WT d (r 0)) (nI k)) (cwV 1 hts gX4_giveUp_X4_isWidow rfl rfl rfl (by decide +kernel) ⟨Nat.le_of_ble_eq_true rfl, Nat.le_of_ble_eq_true rfl⟩) hKK (ws_left hP) 4 0 rfl rfl rfl hl.1 (Nat.le_of_ble_eq_true rfl) rfl dX4_giveUp_7 ⟨Nat.zero_le _, Nat.zero_le _⟩) (fun r_1 hr_1 => ?_)
  subst hr_1
  refine lv_if_ne (tgt := 19) hx hb dX4_giveUp_10 (by decide) (fun c_2 => ?_) (fun c_2 => ?_)
  · have bc_2 : 0 ≤ (nI k) ∧ (nI k) ≤ nI n - 1 := b1.mp c_2
    refine lv_aload_n hx hb dX4_giveUp_19 rfl (lv_at hl 0 rfl) ?_
    refine lv_iload_n hx hb dX4_giveUp_20 rfl (lv_at hl 1 rfl) ?_
    refine rd_i (runV0 (As := [.int (nI k)]) (rest := []) ⟨hx, hb, hml, hown, hts⟩ (met_X4_isAlive l dC dI cI cW M 0 n d r Wd ch pd yr (WT d (r 0)) k (show k < 10 by omega)) (cwV 1 hts gX4_giveUp_X4_isAlive rfl rfl rfl (by decide +kernel) ⟨Nat.le_of_ble_eq_true rfl, Nat.le_of_ble_eq_true rfl⟩) hKK (ws_left hP) 4 0 rfl rfl rfl hl.1 (Nat.le_of_ble_eq_true rfl) rfl dX4_giveUp_21 ⟨Nat.zero_le _, Nat.zero_le _⟩) (fun r_3 hr_3 => ?_)
    subst hr_3
    refine lv_if_eq (tgt := 37) hx hb dX4_giveUp_24 (by decide) (fun c_4 => ?_) (fun c_4 => ?_)
    · have bc_4 : ¬ (Wd k 4 = 0) := b0.mp c_4
      refine lv_aload_n hx hb dX4_giveUp_37 rfl (lv_at hl 0 rfl) ?_
      refine lv_iconst (v := 2) hx hb dX4_giveUp_38 (by decide) ?_
      refine wr_i (runV1 (As := [.int 2]) (rest := []) ⟨hx, hb, hml, hown, hts⟩ (met_X4_fail l dC dI cI cW M 0 n d r Wd ch pd yr (WT d (r 0)) R 2 _) (cwV 1 hts gX4_giveUp_X4_fail rfl rfl rfl (by decide +kernel) ⟨Nat.le_of_ble_eq_true rfl, Nat.le_of_ble_eq_true rfl⟩) hKK hP hD 4 0 rfl rfl rfl hl.1 (Nat.le_of_ble_eq_true rfl) rfl dX4_giveUp_39 ⟨Nat.zero_le _, Nat.zero_le _⟩) hD hS hA (fun r_5 H locs hr_5 hP hD hS => ?_)
      subst hr_5
      have hP : va_P (dC, dI) vwCl (mw cI M 2 n d r Wd ch pd yr (WT d (r 0)) ++ R) H := hP
      have hD : va_D A (mw cI M 2 n d r Wd ch pd yr (WT d (r 0)) ++ R) := hD
      have hP9 : va_P (dC, dI) vwCl (mw cI M 2 n d r Wd ch pd yr (WT d (r 0)) ++ R) _ := hP
      have hD9 : va_D A (mw cI M 2 n d r Wd ch pd yr (WT d (r 0)) ++ R) := hD
      have hz : (0 : Int32) = 0 := rfl
      exact W.iret (v := 0) hx hb hr (fun t ht hW => ⟨⟨_, (), rfl, hz, by rw [ht]; exact hP9, by rw [hAe]; exact hD9⟩, by rw [hAe]; exact hS.F ht⟩) hS.2.2 dX4_giveUp_42
    · have bc_4 : Wd k 4 = 0 := b1.mp c_4
      refine lv_aload_n hx hb dX4_giveUp_27 rfl (lv_at hl 0 rfl) ?_
      refine lv_iload_n hx hb dX4_giveUp_28 rfl (lv_at hl 1 rfl) ?_
      refine lv_iconst (v := 3) hx hb dX4_giveUp_29 (by decide) ?_
      refine rd_i (runV0 (As := [.int (nI k), .int 3]) (rest := []) ⟨hx, hb, hml, hown, hts⟩ (met_X4_wi l dC dI cI cW M 0 n d r Wd ch pd yr (WT d (r 0)) k (show k < 10 by omega) 3 (by omega)) (cwV 2 hts gX4_giveUp_X4_wi rfl rfl rfl (by decide +kernel) ⟨Nat.le_of_ble_eq_true rfl, Nat.le_of_ble_eq_true rfl⟩) hKK (ws_left hP) 4 0 rfl rfl rfl hl.1 (Nat.le_of_ble_eq_true rfl) rfl dX4_giveUp_30 ⟨Nat.zero_le _, Nat.zero_le _⟩) (fun r_6 hr_6 => ?_)
      subst hr_6
      refine lv_iconst (v := 2) hx hb dX4_giveUp_33 (by decide) ?_
      refine lv_icmp_ge (tgt := 43) hx hb dX4_giveUp_34 (by decide) (fun c_7 => ?_) (fun c_7 => ?_)
      · exact (h9 ⟨bc_4, c_7⟩).elim
      · refine lv_aload_n hx hb dX4_giveUp_37 rfl (lv_at hl 0 rfl) ?_
        refine lv_iconst (v := 2) hx hb dX4_giveUp_38 (by decide) ?_
        refine wr_i (runV1 (As := [.int 2]) (rest := []) ⟨hx, hb, hml, hown, hts⟩ (met_X4_fail l dC dI cI cW M 0 n d r Wd ch pd yr (WT d (r 0)) R 2 _) (cwV 1 hts gX4_giveUp_X4_fail rfl rfl rfl (by decide +kernel) ⟨Nat.le_of_ble_eq_true rfl, Nat.le_of_ble_eq_true rfl⟩) hKK hP hD 4 0 rfl rfl rfl hl.1 (Nat.le_of_ble_eq_true rfl) rfl dX4_giveUp_39 ⟨Nat.zero_le _, Nat.zero_le _⟩) hD hS hA (fun r_8 H locs hr_8 hP hD hS => ?_)
        subst hr_8
        have hP : va_P (dC, dI) vwCl (mw cI M 2 n d r Wd ch pd yr (WT d (r 0)) ++ R) H := hP
        have hD : va_D A (mw cI M 2 n d r Wd ch pd yr (WT d (r 0)) ++ R) := hD
        have hP9 : va_P (dC, dI) vwCl (mw cI M 2 n d r Wd ch pd yr (WT d (r 0)) ++ R) _ := hP
        have hD9 : va_D A (mw cI M 2 n d r Wd ch pd yr (WT d (r 0)) ++ R) := hD
        have hz : (0 : Int32) = 0 := rfl
        exact W.iret (v := 0) hx hb hr (fun t ht hW => ⟨⟨_, (), rfl, hz, by rw [ht]; exact hP9, by rw [hAe]; exact hD9⟩, by rw [hAe]; exact hS.F ht⟩) hS.2.2 dX4_giveUp_42
  · have bc_2 : ¬ (0 ≤ (nI k) ∧ (nI k) ≤ nI n - 1) := b0.mp c_2
    exact absurd (wid_in2 hk hn) bc_2
set_option maxHeartbeats 4000000 in
set_option maxRecDepth 100000 in
theorem met_X4_put (l : Launch) (dC : Nat → ClassId) (dI : Nat → Nat → Nat) (cI cW : ClassId) (M : Nat → Nat) (th : Int32) (n : Nat) (d r : Nat → Int32) (Wd : Nat → Nat → Int32) (ch pd yr : Int32) (R : va_W) (x : Int32) (h4 : -99999 ≤ x ∧ x ≤ 99999) (sz : Nat) : Met l yX4_put wsX4_put ({ frames := 2, cells := 0, slots := 0, locals := 42 }) (Pre1 dC dI cI cW [.ref (M 0), .int x] (mw cI M th n d r Wd ch pd yr (WT d (r 0)) ++ R) sz) (Qi1 dC dI (fun z => z = comeS ch x.toInt64) (mw cI M th n d r Wd ch pd yr (WT d (r 0)) ++ R) (mw cI M 0 n d r Wd (comeS ch x.toInt64) pd yr (WT d (r 0)) ++ R) sz) 0 0 (va_A (mw cI M th n d r Wd ch pd yr (WT d (r 0)) ++ R) sz) := by
  refine Met.ofW (cc := cX4_put) (maxL := 2) (ret := (some .int)) (by decide) rfl ?_
  intro p e s m args below meth c s₁ B hml hv
  obtain ⟨rfl, hsz, hP, hD0, hKK⟩ := hv
  subst hsz
  have hx := B.exec
  have hb := B.bytes
  have hr := B.returns
  have hts := atoms_spec (ws := wsX4_put) B.pre
  have hown : s.vm.findClass RX4 = some m.cls := findClass_of_methodNamed B.named
  have hlocks := B.notSynchronized
  have hD := hD0.self (sz := s.heap.size)
  generalize hAe : va_A (mw cI M th n d r Wd ch pd yr (WT d (r 0)) ++ R) s.heap.size = A at hD ⊢
  have hA : ∀ q : Nat, s.heap.size ≤ q → A q := fun q h => by rw [← hAe]; exact Or.inr h
  have hS : va_S A s.heap s.heap [] := va_S.rf
  have hl := lv_entry ([.ref (M 0), .int x]) (n := 2) (Nat.le_of_ble_eq_true rfl)
  rw [lg_entry_eq]
  generalize (lg_sl ([.ref (M 0), .int x]) ++ List.replicate (2 - (lg_sl ([.ref (M 0), .int x])).length) Slot.unset).toArray = ls at hl ⊢
  have hl : lv_has ls 2 [(0, .ref (M 0)), (1, .int x)] := hl
  refine lv_aload_n hx hb dX4_put_0 rfl (lv_at hl 0 rfl) ?_
  refine lv_iconst (v := 0) hx hb dX4_put_1 (by decide) ?_
  refine va_put (D := (dC, dI)) (ci := 4) (v := .int 0) (ty := .int) (C := RX4) (T := TX4) (N := 7) hx hb hts (by decide +kernel) tyX4 tyX4_ok nmX4 hown hKK.1 hP hD hS 0 rfl rfl 0 (by decide) (hts (.fieldLink RX4 28 "WidowPenniesModel" "thrown" "I") (by decide +kernel)) (fun _ h9 => h9) rfl (by decide +kernel) rfl rfl (Nat.le_of_ble_eq_true rfl) dX4_put_2 (fun H locs hP hD hS => ?_)
  have hP : va_P (dC, dI) vwCl (mw cI M 0 n d r Wd ch pd yr (WT d (r 0)) ++ R) H := hP
  have hD : va_D A (mw cI M 0 n d r Wd ch pd yr (WT d (r 0)) ++ R) := hD
  refine lv_iload_n hx hb dX4_put_5 rfl (lv_at hl 1 rfl) ?_
  refine lv_ldc (v := (-99999)) hx hb hown (hts (.constant RX4 111 (-99999)) (by decide +kernel)) dX4_put_6 ?_
  refine lv_ldc (v := 99999) hx hb hown (hts (.constant RX4 112 99999) (by decide +kernel)) dX4_put_8 ?_
  refine rd_i (runS0 (As := [.int x, .int (-99999), .int 99999]) (rest := []) ⟨hx, hb, hml, hown, hts⟩ (met_X4_isIn l dC dI cI cW x (-99999) 99999) (va_cwS 3 hts gX4_put_X4_isIn rfl rfl rfl (by decide +kernel) ⟨Nat.le_of_ble_eq_true rfl, Nat.le_of_ble_eq_true rfl⟩) hKK nilP rfl hl.1 (Nat.le_of_ble_eq_true rfl) rfl dX4_put_10 ⟨Nat.zero_le _, Nat.zero_le _⟩) (fun r_1 hr_1 => ?_)
  subst hr_1
  refine lv_if_ne (tgt := 22) hx hb dX4_put_13 (by decide) (fun c_2 => ?_) (fun c_2 => ?_)
  · have bc_2 : (-99999) ≤ x ∧ x ≤ 99999 := b1.mp c_2
    refine lv_aload_n hx hb dX4_put_22 rfl (lv_at hl 0 rfl) ?_
    refine lv_iload_n hx hb dX4_put_23 rfl (lv_at hl 1 rfl) ?_
    refine lv_i2l hx hb dX4_put_24 rfl ?_
    refine wr_v (runV1 (As := [.long x.toInt64]) (rest := []) ⟨hx, hb, hml, hown, hts⟩ (met_X4_comeIn l dC dI cI cW M 0 n d r Wd ch pd yr (WT d (r 0)) R x.toInt64 _) (cwV 1 hts gX4_put_X4_comeIn rfl rfl rfl (by decide +kernel) ⟨Nat.le_of_ble_eq_true rfl, Nat.le_of_ble_eq_true rfl⟩) hKK hP hD 4 0 rfl rfl rfl hl.1 (Nat.le_of_ble_eq_true rfl) rfl dX4_put_25 ⟨Nat.zero_le _, Nat.zero_le _⟩) hD hS hA (fun H locs hP hD hS => ?_)
    have hP : va_P (dC, dI) vwCl (mw cI M 0 n d r Wd (comeS ch x.toInt64) pd yr (WT d (r 0)) ++ R) H := hP
    have hD : va_D A (mw cI M 0 n d r Wd (comeS ch x.toInt64) pd yr (WT d (r 0)) ++ R) := hD
    refine lv_aload_n hx hb dX4_put_28 rfl (lv_at hl 0 rfl) ?_
    refine va_get (D := (dC, dI)) (ci := 4) (v := .ref (M 4)) (C := RX4) (T := TX4) (N := 7) hx hb hts (by decide +kernel) hown hKK.1 hP 0 rfl rfl 5 (by decide) (hts (.fieldLink RX4 19 "WidowPenniesModel" "numbers" "[I") (by decide +kernel)) (fun _ h9 => h9) rfl dX4_put_29 ?_
    refine lv_iconst (v := 1) hx hb dX4_put_32 (by decide) ?_
    refine va_iald hx hb hKK.1 hP 4 0 rfl rfl (vp_in_nI (n := 1) (by omega) (by omega)) dX4_put_33 ?_
    rw [show (numF yr (comeS ch x.toInt64) pd) (1 : Int32).toNatClampNeg = (numF yr (comeS ch x.toInt64) pd) 1 from rfl]
    rw [show ((numF yr (comeS ch x.toInt64) pd) 1 : Int32) = comeS ch x.toInt64 from rfl]
    have hP9 : va_P (dC, dI) vwCl (mw cI M 0 n d r Wd (comeS ch x.toInt64) pd yr (WT d (r 0)) ++ R) _ := hP
    have hD9 : va_D A (mw cI M 0 n d r Wd (comeS ch x.toInt64) pd yr (WT d (r 0)) ++ R) := hD
    have hz : (comeS ch x.toInt64 : Int32) = comeS ch x.toInt64 := rfl
    exact W.iret (v := (comeS ch x.toInt64)) hx hb hr (fun t ht hW => ⟨⟨_, (), rfl, hz, by rw [ht]; exact hP9, by rw [hAe]; exact hD9⟩, by rw [hAe]; exact hS.F ht⟩) hS.2.2 dX4_put_34
  · have bc_2 : ¬ ((-99999) ≤ x ∧ x ≤ 99999) := b0.mp c_2
    exact absurd h4 bc_2
set_option maxHeartbeats 4000000 in
set_option maxRecDepth 100000 in
theorem met1_X4_put (l : Launch) (dC : Nat → ClassId) (dI : Nat → Nat → Nat) (cI cW : ClassId) (M : Nat → Nat) (th : Int32) (n : Nat) (d r : Nat → Int32) (Wd : Nat → Nat → Int32) (ch pd yr : Int32) (R : va_W) (x : Int32) (h9 : ¬ (-99999 ≤ x ∧ x ≤ 99999)) (sz : Nat) : Met l yX4_put wsX4_put ({ frames := 2, cells := 0, slots := 0, locals := 42 }) (Pre1 dC dI cI cW [.ref (M 0), .int x] (mw cI M th n d r Wd ch pd yr (WT d (r 0)) ++ R) sz) (Qi1 dC dI (fun z => z = 0) (mw cI M th n d r Wd ch pd yr (WT d (r 0)) ++ R) (mw cI M 1 n d r Wd ch pd yr (WT d (r 0)) ++ R) sz) 0 0 (va_A (mw cI M th n d r Wd ch pd yr (WT d (r 0)) ++ R) sz) := by
  refine Met.ofW (cc := cX4_put) (maxL := 2) (ret := (some .int)) (by decide) rfl ?_
  intro p e s m args below meth c s₁ B hml hv
  obtain ⟨rfl, hsz, hP, hD0, hKK⟩ := hv
  subst hsz
  have hx := B.exec
  have hb := B.bytes
  have hr := B.returns
  have hts := atoms_spec (ws := wsX4_put) B.pre
  have hown : s.vm.findClass RX4 = some m.cls := findClass_of_methodNamed B.named
  have hlocks := B.notSynchronized
  have hD := hD0.self (sz := s.heap.size)
  generalize hAe : va_A (mw cI M th n d r Wd ch pd yr (WT d (r 0)) ++ R) s.heap.size = A at hD ⊢
  have hA : ∀ q : Nat, s.heap.size ≤ q → A q := fun q h => by rw [← hAe]; exact Or.inr h
  have hS : va_S A s.heap s.heap [] := va_S.rf
  have hl := lv_entry ([.ref (M 0), .int x]) (n := 2) (Nat.le_of_ble_eq_true rfl)
  rw [lg_entry_eq]
  generalize (lg_sl ([.ref (M 0), .int x]) ++ List.replicate (2 - (lg_sl ([.ref (M 0), .int x])).length) Slot.unset).toArray = ls at hl ⊢
  have hl : lv_has ls 2 [(0, .ref (M 0)), (1, .int x)] := hl
  refine lv_aload_n hx hb dX4_put_0 rfl (lv_at hl 0 rfl) ?_
  refine lv_iconst (v := 0) hx hb dX4_put_1 (by decide) ?_
  refine va_put (D := (dC, dI)) (ci := 4) (v := .int 0) (ty := .int) (C := RX4) (T := TX4) (N := 7) hx hb hts (by decide +kernel) tyX4 tyX4_ok nmX4 hown hKK.1 hP hD hS 0 rfl rfl 0 (by decide) (hts (.fieldLink RX4 28 "WidowPenniesModel" "thrown" "I") (by decide +kernel)) (fun _ h9 => h9) rfl (by decide +kernel) rfl rfl (Nat.le_of_ble_eq_true rfl) dX4_put_2 (fun H locs hP hD hS => ?_)
  have hP : va_P (dC, dI) vwCl (mw cI M 0 n d r Wd ch pd yr (WT d (r 0)) ++ R) H := hP
  have hD : va_D A (mw cI M 0 n d r Wd ch pd yr (WT d (r 0)) ++ R) := hD
  refine lv_iload_n hx hb dX4_put_5 rfl (lv_at hl 1 rfl) ?_
  refine lv_ldc (v := (-99999)) hx hb hown (hts (.constant RX4 111 (-99999)) (by decide +kernel)) dX4_put_6 ?_
  refine lv_ldc (v := 99999) hx hb hown (hts (.constant RX4 112 99999) (by decide +kernel)) dX4_put_8 ?_
  refine rd_i (runS0 (As := [.int x, .int (-99999), .int 99999]) (rest := []) ⟨hx, hb, hml, hown, hts⟩ (met_X4_isIn l dC dI cI cW x (-99999) 99999) (va_cwS 3 hts gX4_put_X4_isIn rfl rfl rfl (by decide +kernel) ⟨Nat.le_of_ble_eq_true rfl, Nat.le_of_ble_eq_true rfl⟩) hKK nilP rfl hl.1 (Nat.le_of_ble_eq_true rfl) rfl dX4_put_10 ⟨Nat.zero_le _, Nat.zero_le _⟩) (fun r_1 hr_1 => ?_)
  subst hr_1
  refine lv_if_ne (tgt := 22) hx hb dX4_put_13 (by decide) (fun c_2 => ?_) (fun c_2 => ?_)
  · have bc_2 : (-99999) ≤ x ∧ x ≤ 99999 := b1.mp c_2
    exact (h9 bc_2).elim
  · have bc_2 : ¬ ((-99999) ≤ x ∧ x ≤ 99999) := b0.mp c_2
    refine lv_aload_n hx hb dX4_put_16 rfl (lv_at hl 0 rfl) ?_
    refine lv_iconst (v := 1) hx hb dX4_put_17 (by decide) ?_
    refine wr_i (runV1 (As := [.int 1]) (rest := []) ⟨hx, hb, hml, hown, hts⟩ (met_X4_fail l dC dI cI cW M 0 n d r Wd ch pd yr (WT d (r 0)) R 1 _) (cwV 1 hts gX4_put_X4_fail rfl rfl rfl (by decide +kernel) ⟨Nat.le_of_ble_eq_true rfl, Nat.le_of_ble_eq_true rfl⟩) hKK hP hD 4 0 rfl rfl rfl hl.1 (Nat.le_of_ble_eq_true rfl) rfl dX4_put_18 ⟨Nat.zero_le _, Nat.zero_le _⟩) hD hS hA (fun r_3 H locs hr_3 hP hD hS => ?_)
    subst hr_3
    have hP : va_P (dC, dI) vwCl (mw cI M 1 n d r Wd ch pd yr (WT d (r 0)) ++ R) H := hP
    have hD : va_D A (mw cI M 1 n d r Wd ch pd yr (WT d (r 0)) ++ R) := hD
    have hP9 : va_P (dC, dI) vwCl (mw cI M 1 n d r Wd ch pd yr (WT d (r 0)) ++ R) _ := hP
    have hD9 : va_D A (mw cI M 1 n d r Wd ch pd yr (WT d (r 0)) ++ R) := hD
    have hz : (0 : Int32) = 0 := rfl
    exact W.iret (v := 0) hx hb hr (fun t ht hW => ⟨⟨_, (), rfl, hz, by rw [ht]; exact hP9, by rw [hAe]; exact hD9⟩, by rw [hAe]; exact hS.F ht⟩) hS.2.2 dX4_put_21
set_option maxHeartbeats 4000000 in
set_option maxRecDepth 100000 in
theorem met_X4_pass (l : Launch) (dC : Nat → ClassId) (dI : Nat → Nat → Nat) (cI cW : ClassId) (M : Nat → Nat) (th : Int32) (n : Nat) (d r : Nat → Int32) (Wd : Nat → Nat → Int32) (ch pd yr : Int32) (R : va_W) (hn : n ≤ 10) (hok : ∀ k, k < n → okW (Wd k)) (y : Nat) (h1 : 1 ≤ y) (h2 : y ≤ 50) (hI : ∀ j, j < y → intS (r 0) (yIter (r 0) n j (ch, pd, yr, Wd)).1 = (if 0 < (yIter (r 0) n j (ch, pd, yr, Wd)).1 then comeS (yIter (r 0) n j (ch, pd, yr, Wd)).1 ((yIter (r 0) n j (ch, pd, yr, Wd)).1.toInt64 * (r 0).toInt64 / 1000) else (yIter (r 0) n j (ch, pd, yr, Wd)).1)) (sz : Nat) : Met l yX4_pass wsX4_pass ({ frames := 4, cells := 0, slots := 0, locals := 88 }) (Pre1 dC dI cI cW [.ref (M 0), .int (nI y)] (mw cI M th n d r Wd ch pd yr (WT d (r 0)) ++ R) sz) (Qi1 dC dI (fun z => z = (yIter (r 0) n y (ch, pd, yr, Wd)).2.1 - pd) (mw cI M th n d r Wd ch pd yr (WT d (r 0)) ++ R) (mw cI M 0 n d r ((yIter (r 0) n y (ch, pd, yr, Wd)).2.2.2) ((yIter (r 0) n y (ch, pd, yr, Wd)).1) ((yIter (r 0) n y (ch, pd, yr, Wd)).2.1) ((yIter (r 0) n y (ch, pd, yr, Wd)).2.2.1) (WT d (r 0)) ++ R) sz) 0 0 (va_A (mw cI M th n d r Wd ch pd yr (WT d (r 0)) ++ R) sz) := by
  refine Met.ofW (cc := cX4_pass) (maxL := 3) (ret := (some .int)) (by decide) rfl ?_
  intro p e s m args below meth c s₁ B hml hv
  obtain ⟨rfl, hsz, hP, hD0, hKK⟩ := hv
  subst hsz
  have hx := B.exec
  have hb := B.bytes
  have hr := B.returns
  have hts := atoms_spec (ws := wsX4_pass) B.pre
  have hown : s.vm.findClass RX4 = some m.cls := findClass_of_methodNamed B.named
  have hlocks := B.notSynchronized
  have hD := hD0.self (sz := s.heap.size)
  generalize hAe : va_A (mw cI M th n d r Wd ch pd yr (WT d (r 0)) ++ R) s.heap.size = A at hD ⊢
  have hA : ∀ q : Nat, s.heap.size ≤ q → A q := fun q h => by rw [← hAe]; exact Or.inr h
  have hS : va_S A s.heap s.heap [] := va_S.rf
  have hl := lv_entry ([.ref (M 0), .int (nI y)]) (n := 3) (Nat.le_of_ble_eq_true rfl)
  rw [lg_entry_eq]
  generalize (lg_sl ([.ref (M 0), .int (nI y)]) ++ List.replicate (3 - (lg_sl ([.ref (M 0), .int (nI y)])).length) Slot.unset).toArray = ls at hl ⊢
  have hl : lv_has ls 3 [(0, .ref (M 0)), (1, .int (nI y))] := hl
  refine lv_aload_n hx hb dX4_pass_0 rfl (lv_at hl 0 rfl) ?_
  refine lv_iconst (v := 0) hx hb dX4_pass_1 (by decide) ?_
  refine va_put (D := (dC, dI)) (ci := 4) (v := .int 0) (ty := .int) (C := RX4) (T := TX4) (N := 7) hx hb hts (by decide +kernel) tyX4 tyX4_ok nmX4 hown hKK.1 hP hD hS 0 rfl rfl 0 (by decide) (hts (.fieldLink RX4 28 "WidowPenniesModel" "thrown" "I") (by decide +kernel)) (fun _ h9 => h9) rfl (by decide +kernel) rfl rfl (Nat.le_of_ble_eq_true rfl) dX4_pass_2 (fun H locs hP hD hS => ?_)
  have hP : va_P (dC, dI) vwCl (mw cI M 0 n d r Wd ch pd yr (WT d (r 0)) ++ R) H := hP
  have hD : va_D A (mw cI M 0 n d r Wd ch pd yr (WT d (r 0)) ++ R) := hD
  refine lv_iload_n hx hb dX4_pass_5 rfl (lv_at hl 1 rfl) ?_
  refine lv_iconst (v := 1) hx hb dX4_pass_6 (by decide) ?_
  refine lv_bipush (v := 50) hx hb dX4_pass_7 (by decide) ?_
  refine rd_i (runS0 (As := [.int (nI y), .int 1, .int 50]) (rest := []) ⟨hx, hb, hml, hown, hts⟩ (met_X4_isIn l dC dI cI cW (nI y) 1 50) (va_cwS 3 hts gX4_pass_X4_isIn rfl rfl rfl (by decide +kernel) ⟨Nat.le_of_ble_eq_true rfl, Nat.le_of_ble_eq_true rfl⟩) hKK nilP rfl hl.1 (Nat.le_of_ble_eq_true rfl) rfl dX4_pass_9 ⟨Nat.zero_le _, Nat.zero_le _⟩) (fun r_1 hr_1 => ?_)
  subst hr_1
  refine lv_if_ne (tgt := 21) hx hb dX4_pass_12 (by decide) (fun c_2 => ?_) (fun c_2 => ?_)
  · have bc_2 : 1 ≤ (nI y) ∧ (nI y) ≤ 50 := b1.mp c_2
    refine lv_aload_n hx hb dX4_pass_21 rfl (lv_at hl 0 rfl) ?_
    refine va_get (D := (dC, dI)) (ci := 4) (v := .ref (M 4)) (C := RX4) (T := TX4) (N := 7) hx hb hts (by decide +kernel) hown hKK.1 hP 0 rfl rfl 5 (by decide) (hts (.fieldLink RX4 19 "WidowPenniesModel" "numbers" "[I") (by decide +kernel)) (fun _ h9 => h9) rfl dX4_pass_22 ?_
    refine lv_iconst (v := 2) hx hb dX4_pass_25 (by decide) ?_
    refine va_iald hx hb hKK.1 hP 4 0 rfl rfl (vp_in_nI (n := 2) (by omega) (by omega)) dX4_pass_26 ?_
    rw [show (numF yr ch pd) (2 : Int32).toNatClampNeg = (numF yr ch pd) 2 from rfl]
    rw [show ((numF yr ch pd) 2 : Int32) = pd from rfl]
    refine lv_istore_n (lv' := [(2, .int pd), (0, .ref (M 0)), (1, .int (nI y))]) hx hb dX4_pass_27 rfl hl (by decide) rfl (fun ls hl => ?_)
    refine lv_aload_n hx hb dX4_pass_28 rfl (lv_at hl 1 rfl) ?_
    refine lv_iload_n hx hb dX4_pass_29 rfl (lv_at hl 2 rfl) ?_
    refine wr_v (runV1 (As := [.int (nI y)]) (rest := []) ⟨hx, hb, hml, hown, hts⟩ (met_X4_yearsOn l dC dI cI cW M 0 n d r Wd ch pd yr (WT d (r 0)) R hn hok y (by omega) hI _) (cwV 1 hts gX4_pass_X4_yearsOn rfl rfl rfl (by decide +kernel) ⟨Nat.le_of_ble_eq_true rfl, Nat.le_of_ble_eq_true rfl⟩) hKK hP hD 4 0 rfl rfl rfl hl.1 (Nat.le_of_ble_eq_true rfl) rfl dX4_pass_30 ⟨Nat.zero_le _, Nat.zero_le _⟩) hD hS hA (fun H locs hP hD hS => ?_)
    have hP : va_P (dC, dI) vwCl (mw cI M 0 n d r ((yIter (r 0) n y (ch, pd, yr, Wd)).2.2.2) ((yIter (r 0) n y (ch, pd, yr, Wd)).1) ((yIter (r 0) n y (ch, pd, yr, Wd)).2.1) ((yIter (r 0) n y (ch, pd, yr, Wd)).2.2.1) (WT d (r 0)) ++ R) H := hP
    have hD : va_D A (mw cI M 0 n d r ((yIter (r 0) n y (ch, pd, yr, Wd)).2.2.2) ((yIter (r 0) n y (ch, pd, yr, Wd)).1) ((yIter (r 0) n y (ch, pd, yr, Wd)).2.1) ((yIter (r 0) n y (ch, pd, yr, Wd)).2.2.1) (WT d (r 0)) ++ R) := hD
    refine lv_aload_n hx hb dX4_pass_33 rfl (lv_at hl 1 rfl) ?_
    refine va_get (D := (dC, dI)) (ci := 4) (v := .ref (M 4)) (C := RX4) (T := TX4) (N := 7) hx hb hts (by decide +kernel) hown hKK.1 hP 0 rfl rfl 5 (by decide) (hts (.fieldLink RX4 19 "WidowPenniesModel" "numbers" "[I") (by decide +kernel)) (fun _ h9 => h9) rfl dX4_pass_34 ?_
    refine lv_iconst (v := 2) hx hb dX4_pass_37 (by decide) ?_
    refine va_iald hx hb hKK.1 hP 4 0 rfl rfl (vp_in_nI (n := 2) (by omega) (by omega)) dX4_pass_38 ?_
    rw [show (numF ((yIter (r 0) n y (ch, pd, yr, Wd)).2.2.1) ((yIter (r 0) n y (ch, pd, yr, Wd)).1) ((yIter (r 0) n y (ch, pd, yr, Wd)).2.1)) (2 : Int32).toNatClampNeg = (numF ((yIter (r 0) n y (ch, pd, yr, Wd)).2.2.1) ((yIter (r 0) n y (ch, pd, yr, Wd)).1) ((yIter (r 0) n y (ch, pd, yr, Wd)).2.1)) 2 from rfl]
    rw [show ((numF ((yIter (r 0) n y (ch, pd, yr, Wd)).2.2.1) ((yIter (r 0) n y (ch, pd, yr, Wd)).1) ((yIter (r 0) n y (ch, pd, yr, Wd)).2.1)) 2 : Int32) = (yIter (r 0) n y (ch, pd, yr, Wd)).2.1 from rfl]
    refine lv_iload_n hx hb dX4_pass_39 rfl (lv_at hl 0 rfl) ?_
    refine lv_isub hx hb dX4_pass_40 ?_
    have hP9 : va_P (dC, dI) vwCl (mw cI M 0 n d r ((yIter (r 0) n y (ch, pd, yr, Wd)).2.2.2) ((yIter (r 0) n y (ch, pd, yr, Wd)).1) ((yIter (r 0) n y (ch, pd, yr, Wd)).2.1) ((yIter (r 0) n y (ch, pd, yr, Wd)).2.2.1) (WT d (r 0)) ++ R) _ := hP
    have hD9 : va_D A (mw cI M 0 n d r ((yIter (r 0) n y (ch, pd, yr, Wd)).2.2.2) ((yIter (r 0) n y (ch, pd, yr, Wd)).1) ((yIter (r 0) n y (ch, pd, yr, Wd)).2.1) ((yIter (r 0) n y (ch, pd, yr, Wd)).2.2.1) (WT d (r 0)) ++ R) := hD
    have hz : (((yIter (r 0) n y (ch, pd, yr, Wd)).2.1) - pd : Int32) = (yIter (r 0) n y (ch, pd, yr, Wd)).2.1 - pd := rfl
    exact W.iret (v := (((yIter (r 0) n y (ch, pd, yr, Wd)).2.1) - pd)) hx hb hr (fun t ht hW => ⟨⟨_, (), rfl, hz, by rw [ht]; exact hP9, by rw [hAe]; exact hD9⟩, by rw [hAe]; exact hS.F ht⟩) hS.2.2 dX4_pass_41
  · have bc_2 : ¬ (1 ≤ (nI y) ∧ (nI y) ≤ 50) := b0.mp c_2
    exact absurd (int_in (lo := 1) (hi := 50) h1 h2 (by omega)) bc_2
set_option maxHeartbeats 4000000 in
set_option maxRecDepth 100000 in
theorem met1_X4_pass (l : Launch) (dC : Nat → ClassId) (dI : Nat → Nat → Nat) (cI cW : ClassId) (M : Nat → Nat) (th : Int32) (n : Nat) (d r : Nat → Int32) (Wd : Nat → Nat → Int32) (ch pd yr : Int32) (R : va_W) (a : Int32) (h9 : ¬ (1 ≤ a ∧ a ≤ 50)) (sz : Nat) : Met l yX4_pass wsX4_pass ({ frames := 4, cells := 0, slots := 0, locals := 88 }) (Pre1 dC dI cI cW [.ref (M 0), .int a] (mw cI M th n d r Wd ch pd yr (WT d (r 0)) ++ R) sz) (Qi1 dC dI (fun z => z = 0) (mw cI M th n d r Wd ch pd yr (WT d (r 0)) ++ R) (mw cI M 1 n d r Wd ch pd yr (WT d (r 0)) ++ R) sz) 0 0 (va_A (mw cI M th n d r Wd ch pd yr (WT d (r 0)) ++ R) sz) := by
  refine Met.ofW (cc := cX4_pass) (maxL := 3) (ret := (some .int)) (by decide) rfl ?_
  intro p e s m args below meth c s₁ B hml hv
  obtain ⟨rfl, hsz, hP, hD0, hKK⟩ := hv
  subst hsz
  have hx := B.exec
  have hb := B.bytes
  have hr := B.returns
  have hts := atoms_spec (ws := wsX4_pass) B.pre
  have hown : s.vm.findClass RX4 = some m.cls := findClass_of_methodNamed B.named
  have hlocks := B.notSynchronized
  have hD := hD0.self (sz := s.heap.size)
  generalize hAe : va_A (mw cI M th n d r Wd ch pd yr (WT d (r 0)) ++ R) s.heap.size = A at hD ⊢
  have hA : ∀ q : Nat, s.heap.size ≤ q → A q := fun q h => by rw [← hAe]; exact Or.inr h
  have hS : va_S A s.heap s.heap [] := va_S.rf
  have hl := lv_entry ([.ref (M 0), .int a]) (n := 3) (Nat.le_of_ble_eq_true rfl)
  rw [lg_entry_eq]
  generalize (lg_sl ([.ref (M 0), .int a]) ++ List.replicate (3 - (lg_sl ([.ref (M 0), .int a])).length) Slot.unset).toArray = ls at hl ⊢
  have hl : lv_has ls 3 [(0, .ref (M 0)), (1, .int a)] := hl
  refine lv_aload_n hx hb dX4_pass_0 rfl (lv_at hl 0 rfl) ?_
  refine lv_iconst (v := 0) hx hb dX4_pass_1 (by decide) ?_
  refine va_put (D := (dC, dI)) (ci := 4) (v := .int 0) (ty := .int) (C := RX4) (T := TX4) (N := 7) hx hb hts (by decide +kernel) tyX4 tyX4_ok nmX4 hown hKK.1 hP hD hS 0 rfl rfl 0 (by decide) (hts (.fieldLink RX4 28 "WidowPenniesModel" "thrown" "I") (by decide +kernel)) (fun _ h9 => h9) rfl (by decide +kernel) rfl rfl (Nat.le_of_ble_eq_true rfl) dX4_pass_2 (fun H locs hP hD hS => ?_)
  have hP : va_P (dC, dI) vwCl (mw cI M 0 n d r Wd ch pd yr (WT d (r 0)) ++ R) H := hP
  have hD : va_D A (mw cI M 0 n d r Wd ch pd yr (WT d (r 0)) ++ R) := hD
  refine lv_iload_n hx hb dX4_pass_5 rfl (lv_at hl 1 rfl) ?_
  refine lv_iconst (v := 1) hx hb dX4_pass_6 (by decide) ?_
  refine lv_bipush (v := 50) hx hb dX4_pass_7 (by decide) ?_
  refine rd_i (runS0 (As := [.int a, .int 1, .int 50]) (rest := []) ⟨hx, hb, hml, hown, hts⟩ (met_X4_isIn l dC dI cI cW a 1 50) (va_cwS 3 hts gX4_pass_X4_isIn rfl rfl rfl (by decide +kernel) ⟨Nat.le_of_ble_eq_true rfl, Nat.le_of_ble_eq_true rfl⟩) hKK nilP rfl hl.1 (Nat.le_of_ble_eq_true rfl) rfl dX4_pass_9 ⟨Nat.zero_le _, Nat.zero_le _⟩) (fun r_1 hr_1 => ?_)
  subst hr_1
  refine lv_if_ne (tgt := 21) hx hb dX4_pass_12 (by decide) (fun c_2 => ?_) (fun c_2 => ?_)
  · have bc_2 : 1 ≤ a ∧ a ≤ 50 := b1.mp c_2
    exact (h9 bc_2).elim
  · have bc_2 : ¬ (1 ≤ a ∧ a ≤ 50) := b0.mp c_2
    refine lv_aload_n hx hb dX4_pass_15 rfl (lv_at hl 0 rfl) ?_
    refine lv_iconst (v := 1) hx hb dX4_pass_16 (by decide) ?_
    refine wr_i (runV1 (As := [.int 1]) (rest := []) ⟨hx, hb, hml, hown, hts⟩ (met_X4_fail l dC dI cI cW M 0 n d r Wd ch pd yr (WT d (r 0)) R 1 _) (cwV 1 hts gX4_pass_X4_fail rfl rfl rfl (by decide +kernel) ⟨Nat.le_of_ble_eq_true rfl, Nat.le_of_ble_eq_true rfl⟩) hKK hP hD 4 0 rfl rfl rfl hl.1 (Nat.le_of_ble_eq_true rfl) rfl dX4_pass_17 ⟨Nat.zero_le _, Nat.zero_le _⟩) hD hS hA (fun r_3 H locs hr_3 hP hD hS => ?_)
    subst hr_3
    have hP : va_P (dC, dI) vwCl (mw cI M 1 n d r Wd ch pd yr (WT d (r 0)) ++ R) H := hP
    have hD : va_D A (mw cI M 1 n d r Wd ch pd yr (WT d (r 0)) ++ R) := hD
    have hP9 : va_P (dC, dI) vwCl (mw cI M 1 n d r Wd ch pd yr (WT d (r 0)) ++ R) _ := hP
    have hD9 : va_D A (mw cI M 1 n d r Wd ch pd yr (WT d (r 0)) ++ R) := hD
    have hz : (0 : Int32) = 0 := rfl
    exact W.iret (v := 0) hx hb hr (fun t ht hW => ⟨⟨_, (), rfl, hz, by rw [ht]; exact hP9, by rw [hAe]; exact hD9⟩, by rw [hAe]; exact hS.F ht⟩) hS.2.2 dX4_pass_20
