set_option maxHeartbeats 4000000 in
set_option maxRecDepth 100000 in
theorem met_X2_start (l : Launch) (dC : Nat → ClassId) (dI : Nat → Nat → Nat) (cI cW : ClassId) (ws : va_W) (q0 h0 : Nat) (f : Nat → Int32) (he0 : ws[q0]? = some (h0, .inr (2, row f))) (a s9 p9 c9 : Int32) (sz : Nat) : Met l yX2_start wsX2_start ({ frames := 0, cells := 0, slots := 0, locals := 0 }) (Pre1 dC dI cI cW [.ref h0, .int a, .int s9, .int p9, .int c9] ws sz) (Qv1 dC dI ws (ws.set q0 (h0, .inr (2, row (mkW a s9 p9 c9)))) sz) 0 0 (va_A ws sz) := by
  refine Met.ofW (cc := cX2_start) (maxL := 5) (ret := none) (by decide) rfl ?_
  intro p e s m args below meth c s₁ B hml hv
  obtain ⟨rfl, hsz, hP, hD0, hKK⟩ := hv
  subst hsz
  have hx := B.exec
  have hb := B.bytes
  have hr := B.returns
  have hts := atoms_spec (ws := wsX2_start) B.pre
  have hown : s.vm.findClass RX2 = some m.cls := findClass_of_methodNamed B.named
  have hlocks := B.notSynchronized
  have hD := hD0.self (sz := s.heap.size)
  generalize hAe : va_A ws s.heap.size = A at hD ⊢
  have hA : ∀ q : Nat, s.heap.size ≤ q → A q := fun q h => by rw [← hAe]; exact Or.inr h
  have hS : va_S A s.heap s.heap [] := va_S.rf
  have hl := lv_entry ([.ref h0, .int a, .int s9, .int p9, .int c9]) (n := 5) (Nat.le_of_ble_eq_true rfl)
  rw [lg_entry_eq]
  generalize (lg_sl ([.ref h0, .int a, .int s9, .int p9, .int c9]) ++ List.replicate (5 - (lg_sl ([.ref h0, .int a, .int s9, .int p9, .int c9])).length) Slot.unset).toArray = ls at hl ⊢
  have hl : lv_has ls 5 [(0, .ref h0), (1, .int a), (2, .int s9), (3, .int p9), (4, .int c9)] := hl
  refine lv_aload_n hx hb dX2_start_0 rfl (lv_at hl 0 rfl) ?_
  refine lv_iload_n hx hb dX2_start_1 rfl (lv_at hl 1 rfl) ?_
  refine va_put (D := (dC, dI)) (ci := 2) (v := .int a) (ty := .int) (C := RX2) (T := TX2) (N := 7) hx hb hts (by decide +kernel) tyX2 tyX2_ok nmX2 hown hKK.1 hP hD hS q0 he0 rfl 0 (by decide) (hts (.fieldLink RX2 22 "WidowPennies$Widow" "age" "I") (by decide +kernel)) (fun _ h9 => h9) rfl (by decide +kernel) rfl rfl (Nat.le_of_ble_eq_true rfl) dX2_start_2 (fun H locs hP hD hS => ?_)
  have hP : va_P (dC, dI) vwCl (ws.set q0 (h0, .inr (2, row (upd f 0 a)))) H := hP
  have hD : va_D A (ws.set q0 (h0, .inr (2, row (upd f 0 a)))) := hD
  refine lv_aload_n hx hb dX2_start_5 rfl (lv_at hl 0 rfl) ?_
  refine lv_iload_n hx hb dX2_start_6 rfl (lv_at hl 2 rfl) ?_
  refine va_put (D := (dC, dI)) (ci := 2) (v := .int s9) (ty := .int) (C := RX2) (T := TX2) (N := 7) hx hb hts (by decide +kernel) tyX2 tyX2_ok nmX2 hown hKK.1 hP hD hS q0 (set_at he0) rfl 1 (by decide) (hts (.fieldLink RX2 25 "WidowPennies$Widow" "sum" "I") (by decide +kernel)) (fun _ h9 => h9) rfl (by decide +kernel) rfl rfl (Nat.le_of_ble_eq_true rfl) dX2_start_7 (fun H locs hP hD hS => ?_)
  have hP : va_P (dC, dI) vwCl (ws.set q0 (h0, .inr (2, row (upd (upd f 0 a) 1 s9)))) H := by rw [List.set_set] at hP; exact hP
  have hD : va_D A (ws.set q0 (h0, .inr (2, row (upd (upd f 0 a) 1 s9)))) := by rw [List.set_set] at hD; exact hD
  refine lv_aload_n hx hb dX2_start_10 rfl (lv_at hl 0 rfl) ?_
  refine lv_iload_n hx hb dX2_start_11 rfl (lv_at hl 3 rfl) ?_
  refine va_put (D := (dC, dI)) (ci := 2) (v := .int p9) (ty := .int) (C := RX2) (T := TX2) (N := 7) hx hb hts (by decide +kernel) tyX2 tyX2_ok nmX2 hown hKK.1 hP hD hS q0 (set_at he0) rfl 2 (by decide) (hts (.fieldLink RX2 28 "WidowPennies$Widow" "wait" "I") (by decide +kernel)) (fun _ h9 => h9) rfl (by decide +kernel) rfl rfl (Nat.le_of_ble_eq_true rfl) dX2_start_12 (fun H locs hP hD hS => ?_)
  have hP : va_P (dC, dI) vwCl (ws.set q0 (h0, .inr (2, row (upd (upd (upd f 0 a) 1 s9) 2 p9)))) H := by rw [List.set_set] at hP; exact hP
  have hD : va_D A (ws.set q0 (h0, .inr (2, row (upd (upd (upd f 0 a) 1 s9) 2 p9)))) := by rw [List.set_set] at hD; exact hD
  refine lv_aload_n hx hb dX2_start_15 rfl (lv_at hl 0 rfl) ?_
  refine lv_iconst (v := 0) hx hb dX2_start_16 (by decide) ?_
  refine va_put (D := (dC, dI)) (ci := 2) (v := .int 0) (ty := .int) (C := RX2) (T := TX2) (N := 7) hx hb hts (by decide +kernel) tyX2 tyX2_ok nmX2 hown hKK.1 hP hD hS q0 (set_at he0) rfl 3 (by decide) (hts (.fieldLink RX2 19 "WidowPennies$Widow" "held" "I") (by decide +kernel)) (fun _ h9 => h9) rfl (by decide +kernel) rfl rfl (Nat.le_of_ble_eq_true rfl) dX2_start_17 (fun H locs hP hD hS => ?_)
  have hP : va_P (dC, dI) vwCl (ws.set q0 (h0, .inr (2, row (upd (upd (upd (upd f 0 a) 1 s9) 2 p9) 3 0)))) H := by rw [List.set_set] at hP; exact hP
  have hD : va_D A (ws.set q0 (h0, .inr (2, row (upd (upd (upd (upd f 0 a) 1 s9) 2 p9) 3 0)))) := by rw [List.set_set] at hD; exact hD
  refine lv_aload_n hx hb dX2_start_20 rfl (lv_at hl 0 rfl) ?_
  refine lv_iconst (v := 0) hx hb dX2_start_21 (by decide) ?_
  refine va_put (D := (dC, dI)) (ci := 2) (v := .int 0) (ty := .int) (C := RX2) (T := TX2) (N := 7) hx hb hts (by decide +kernel) tyX2 tyX2_ok nmX2 hown hKK.1 hP hD hS q0 (set_at he0) rfl 4 (by decide) (hts (.fieldLink RX2 9 "WidowPennies$Widow" "state" "I") (by decide +kernel)) (fun _ h9 => h9) rfl (by decide +kernel) rfl rfl (Nat.le_of_ble_eq_true rfl) dX2_start_22 (fun H locs hP hD hS => ?_)
  have hP : va_P (dC, dI) vwCl (ws.set q0 (h0, .inr (2, row (upd (upd (upd (upd (upd f 0 a) 1 s9) 2 p9) 3 0) 4 0)))) H := by rw [List.set_set] at hP; exact hP
  have hD : va_D A (ws.set q0 (h0, .inr (2, row (upd (upd (upd (upd (upd f 0 a) 1 s9) 2 p9) 3 0) 4 0)))) := by rw [List.set_set] at hD; exact hD
  refine lv_aload_n hx hb dX2_start_25 rfl (lv_at hl 0 rfl) ?_
  refine lv_iconst (v := 0) hx hb dX2_start_26 (by decide) ?_
  refine va_put (D := (dC, dI)) (ci := 2) (v := .int 0) (ty := .int) (C := RX2) (T := TX2) (N := 7) hx hb hts (by decide +kernel) tyX2 tyX2_ok nmX2 hown hKK.1 hP hD hS q0 (set_at he0) rfl 5 (by decide) (hts (.fieldLink RX2 31 "WidowPennies$Widow" "got" "I") (by decide +kernel)) (fun _ h9 => h9) rfl (by decide +kernel) rfl rfl (Nat.le_of_ble_eq_true rfl) dX2_start_27 (fun H locs hP hD hS => ?_)
  have hP : va_P (dC, dI) vwCl (ws.set q0 (h0, .inr (2, row (upd (upd (upd (upd (upd (upd f 0 a) 1 s9) 2 p9) 3 0) 4 0) 5 0)))) H := by rw [List.set_set] at hP; exact hP
  have hD : va_D A (ws.set q0 (h0, .inr (2, row (upd (upd (upd (upd (upd (upd f 0 a) 1 s9) 2 p9) 3 0) 4 0) 5 0)))) := by rw [List.set_set] at hD; exact hD
  refine lv_aload_n hx hb dX2_start_30 rfl (lv_at hl 0 rfl) ?_
  refine lv_iload hx hb dX2_start_31 (lv_at hl 4 rfl) ?_
  refine va_put (D := (dC, dI)) (ci := 2) (v := .int c9) (ty := .int) (C := RX2) (T := TX2) (N := 7) hx hb hts (by decide +kernel) tyX2 tyX2_ok nmX2 hown hKK.1 hP hD hS q0 (set_at he0) rfl 6 (by decide) (hts (.fieldLink RX2 34 "WidowPennies$Widow" "cost" "I") (by decide +kernel)) (fun _ h9 => h9) rfl (by decide +kernel) rfl rfl (Nat.le_of_ble_eq_true rfl) dX2_start_33 (fun H locs hP hD hS => ?_)
  have hP : va_P (dC, dI) vwCl (ws.set q0 (h0, .inr (2, row (upd (upd (upd (upd (upd (upd (upd f 0 a) 1 s9) 2 p9) 3 0) 4 0) 5 0) 6 c9)))) H := by rw [List.set_set] at hP; exact hP
  have hD : va_D A (ws.set q0 (h0, .inr (2, row (upd (upd (upd (upd (upd (upd (upd f 0 a) 1 s9) 2 p9) 3 0) 4 0) 5 0) 6 c9)))) := by rw [List.set_set] at hD; exact hD
  have hP9 : va_P (dC, dI) vwCl (ws.set q0 (h0, .inr (2, row (upd (upd (upd (upd (upd (upd (upd f 0 a) 1 s9) 2 p9) 3 0) 4 0) 5 0) 6 c9)))) _ := hP
  have hD9 : va_D A (ws.set q0 (h0, .inr (2, row (upd (upd (upd (upd (upd (upd (upd f 0 a) 1 s9) 2 p9) 3 0) 4 0) 5 0) 6 c9)))) := hD
  have eR : row (upd (upd (upd (upd (upd (upd (upd f 0 a) 1 s9) 2 p9) 3 0) 4 0) 5 0) 6 c9) = row (mkW a s9 p9 c9) := rfl
  rw [eR] at hP9 hD9
  exact W.vret hx hb hr (fun t ht hW => ⟨⟨(), rfl, trivial, by rw [ht]; exact hP9, by rw [hAe]; exact hD9⟩, by rw [hAe]; exact hS.F ht⟩) hS.2.2 dX2_start_36
set_option maxHeartbeats 4000000 in
set_option maxRecDepth 100000 in
theorem met_X2_liveYear (l : Launch) (dC : Nat → ClassId) (dI : Nat → Nat → Nat) (cI cW : ClassId) (ws : va_W) (q0 h0 : Nat) (f : Nat → Int32) (he0 : ws[q0]? = some (h0, .inr (2, row f))) (hok : okW f) (h4 : f 4 = 0) (sz : Nat) : Met l yX2_liveYear wsX2_liveYear ({ frames := 0, cells := 0, slots := 0, locals := 0 }) (Pre1 dC dI cI cW [.ref h0] ws sz) (Qi1 dC dI (fun z => z = (if f 2 = 0 then f 1 else 0)) ws (ws.set q0 (h0, .inr (2, row (yearW f)))) sz) 0 0 (va_A ws sz) := by
  refine Met.ofW (cc := cX2_liveYear) (maxL := 2) (ret := (some .int)) (by decide) rfl ?_
  intro p e s m args below meth c s₁ B hml hv
  obtain ⟨rfl, hsz, hP, hD0, hKK⟩ := hv
  subst hsz
  have hx := B.exec
  have hb := B.bytes
  have hr := B.returns
  have hts := atoms_spec (ws := wsX2_liveYear) B.pre
  have hown : s.vm.findClass RX2 = some m.cls := findClass_of_methodNamed B.named
  have hlocks := B.notSynchronized
  have hD := hD0.self (sz := s.heap.size)
  generalize hAe : va_A ws s.heap.size = A at hD ⊢
  have hA : ∀ q : Nat, s.heap.size ≤ q → A q := fun q h => by rw [← hAe]; exact Or.inr h
  have hS : va_S A s.heap s.heap [] := va_S.rf
  have hl := lv_entry ([.ref h0]) (n := 2) (Nat.le_of_ble_eq_true rfl)
  rw [lg_entry_eq]
  generalize (lg_sl ([.ref h0]) ++ List.replicate (2 - (lg_sl ([.ref h0])).length) Slot.unset).toArray = ls at hl ⊢
  have hl : lv_has ls 2 [(0, .ref h0)] := hl
  obtain ⟨⟨ka, hka, hka1, hka2⟩, ⟨kb, hkb, hkb1⟩, -⟩ := hok h4
  refine lv_aload_n hx hb dX2_liveYear_0 rfl (lv_at hl 0 rfl) ?_
  refine va_get (D := (dC, dI)) (ci := 2) (v := .int (f 2)) (C := RX2) (T := TX2) (N := 7) hx hb hts (by decide +kernel) hown hKK.1 hP q0 he0 rfl 2 (by decide) (hts (.fieldLink RX2 28 "WidowPennies$Widow" "wait" "I") (by decide +kernel)) (fun _ h9 => h9) rfl dX2_liveYear_1 ?_
  refine lv_if_ne (tgt := 14) hx hb dX2_liveYear_4 (by decide) (fun c_1 => ?_) (fun c_1 => ?_)
  · have hw : ¬ f 2 = 0 := c_1
    refine lv_iconst (v := 0) hx hb dX2_liveYear_14 (by decide) ?_
    refine lv_istore_n (lv' := [(1, .int 0), (0, .ref h0)]) hx hb dX2_liveYear_15 rfl hl (by decide) rfl (fun ls hl => ?_)
    refine lv_aload_n hx hb dX2_liveYear_16 rfl (lv_at hl 1 rfl) ?_
    refine va_get (D := (dC, dI)) (ci := 2) (v := .int (f 2)) (C := RX2) (T := TX2) (N := 7) hx hb hts (by decide +kernel) hown hKK.1 hP q0 he0 rfl 2 (by decide) (hts (.fieldLink RX2 28 "WidowPennies$Widow" "wait" "I") (by decide +kernel)) (fun _ h9 => h9) rfl dX2_liveYear_17 ?_
    refine lv_if_le (tgt := 33) hx hb dX2_liveYear_20 (by decide) (fun c_2 => ?_) (fun c_2 => ?_)
    · exact absurd (zero_le hkb hkb1 c_2) hw
    · refine lv_aload_n hx hb dX2_liveYear_23 rfl (lv_at hl 1 rfl) ?_
      refine lv_dup hx hb dX2_liveYear_24 rfl ?_
      refine va_get (D := (dC, dI)) (ci := 2) (v := .int (f 2)) (C := RX2) (T := TX2) (N := 7) hx hb hts (by decide +kernel) hown hKK.1 hP q0 he0 rfl 2 (by decide) (hts (.fieldLink RX2 28 "WidowPennies$Widow" "wait" "I") (by decide +kernel)) (fun _ h9 => h9) rfl dX2_liveYear_25 ?_
      refine lv_iconst (v := 1) hx hb dX2_liveYear_28 (by decide) ?_
      refine lv_isub hx hb dX2_liveYear_29 ?_
      refine va_put (D := (dC, dI)) (ci := 2) (v := .int ((f 2) - 1)) (ty := .int) (C := RX2) (T := TX2) (N := 7) hx hb hts (by decide +kernel) tyX2 tyX2_ok nmX2 hown hKK.1 hP hD hS q0 he0 rfl 2 (by decide) (hts (.fieldLink RX2 28 "WidowPennies$Widow" "wait" "I") (by decide +kernel)) (fun _ h9 => h9) rfl (by decide +kernel) rfl rfl (Nat.le_of_ble_eq_true rfl) dX2_liveYear_30 (fun H locs hP hD hS => ?_)
      have hP : va_P (dC, dI) vwCl (ws.set q0 (h0, .inr (2, row (upd f 2 ((f 2) - 1))))) H := hP
      have hD : va_D A (ws.set q0 (h0, .inr (2, row (upd f 2 ((f 2) - 1))))) := hD
      refine lv_aload_n hx hb dX2_liveYear_33 rfl (lv_at hl 1 rfl) ?_
      refine lv_dup hx hb dX2_liveYear_34 rfl ?_
      refine va_get (D := (dC, dI)) (ci := 2) (v := .int (f 5)) (C := RX2) (T := TX2) (N := 7) hx hb hts (by decide +kernel) hown hKK.1 hP q0 (set_at he0) rfl 5 (by decide) (hts (.fieldLink RX2 31 "WidowPennies$Widow" "got" "I") (by decide +kernel)) (fun _ h9 => h9) rfl dX2_liveYear_35 ?_
      refine lv_iload_n hx hb dX2_liveYear_38 rfl (lv_at hl 0 rfl) ?_
      refine lv_iadd hx hb dX2_liveYear_39 ?_
      refine va_put (D := (dC, dI)) (ci := 2) (v := .int ((f 5) + 0)) (ty := .int) (C := RX2) (T := TX2) (N := 7) hx hb hts (by decide +kernel) tyX2 tyX2_ok nmX2 hown hKK.1 hP hD hS q0 (set_at he0) rfl 5 (by decide) (hts (.fieldLink RX2 31 "WidowPennies$Widow" "got" "I") (by decide +kernel)) (fun _ h9 => h9) rfl (by decide +kernel) rfl rfl (Nat.le_of_ble_eq_true rfl) dX2_liveYear_40 (fun H locs hP hD hS => ?_)
      have hP : va_P (dC, dI) vwCl (ws.set q0 (h0, .inr (2, row (upd (upd f 2 ((f 2) - 1)) 5 ((f 5) + 0))))) H := by rw [List.set_set] at hP; exact hP
      have hD : va_D A (ws.set q0 (h0, .inr (2, row (upd (upd f 2 ((f 2) - 1)) 5 ((f 5) + 0))))) := by rw [List.set_set] at hD; exact hD
      refine lv_aload_n hx hb dX2_liveYear_43 rfl (lv_at hl 1 rfl) ?_
      refine lv_dup hx hb dX2_liveYear_44 rfl ?_
      refine va_get (D := (dC, dI)) (ci := 2) (v := .int (f 0)) (C := RX2) (T := TX2) (N := 7) hx hb hts (by decide +kernel) hown hKK.1 hP q0 (set_at he0) rfl 0 (by decide) (hts (.fieldLink RX2 22 "WidowPennies$Widow" "age" "I") (by decide +kernel)) (fun _ h9 => h9) rfl dX2_liveYear_45 ?_
      refine lv_iconst (v := 1) hx hb dX2_liveYear_48 (by decide) ?_
      refine lv_iadd hx hb dX2_liveYear_49 ?_
      refine va_put (D := (dC, dI)) (ci := 2) (v := .int ((f 0) + 1)) (ty := .int) (C := RX2) (T := TX2) (N := 7) hx hb hts (by decide +kernel) tyX2 tyX2_ok nmX2 hown hKK.1 hP hD hS q0 (set_at he0) rfl 0 (by decide) (hts (.fieldLink RX2 22 "WidowPennies$Widow" "age" "I") (by decide +kernel)) (fun _ h9 => h9) rfl (by decide +kernel) rfl rfl (Nat.le_of_ble_eq_true rfl) dX2_liveYear_50 (fun H locs hP hD hS => ?_)
      have hP : va_P (dC, dI) vwCl (ws.set q0 (h0, .inr (2, row (upd (upd (upd f 2 ((f 2) - 1)) 5 ((f 5) + 0)) 0 ((f 0) + 1))))) H := by rw [List.set_set] at hP; exact hP
      have hD : va_D A (ws.set q0 (h0, .inr (2, row (upd (upd (upd f 2 ((f 2) - 1)) 5 ((f 5) + 0)) 0 ((f 0) + 1))))) := by rw [List.set_set] at hD; exact hD
      refine lv_aload_n hx hb dX2_liveYear_53 rfl (lv_at hl 1 rfl) ?_
      refine lv_dup hx hb dX2_liveYear_54 rfl ?_
      refine va_get (D := (dC, dI)) (ci := 2) (v := .int (f 3)) (C := RX2) (T := TX2) (N := 7) hx hb hts (by decide +kernel) hown hKK.1 hP q0 (set_at he0) rfl 3 (by decide) (hts (.fieldLink RX2 19 "WidowPennies$Widow" "held" "I") (by decide +kernel)) (fun _ h9 => h9) rfl dX2_liveYear_55 ?_
      refine lv_iconst (v := 1) hx hb dX2_liveYear_58 (by decide) ?_
      refine lv_iadd hx hb dX2_liveYear_59 ?_
      refine va_put (D := (dC, dI)) (ci := 2) (v := .int ((f 3) + 1)) (ty := .int) (C := RX2) (T := TX2) (N := 7) hx hb hts (by decide +kernel) tyX2 tyX2_ok nmX2 hown hKK.1 hP hD hS q0 (set_at he0) rfl 3 (by decide) (hts (.fieldLink RX2 19 "WidowPennies$Widow" "held" "I") (by decide +kernel)) (fun _ h9 => h9) rfl (by decide +kernel) rfl rfl (Nat.le_of_ble_eq_true rfl) dX2_liveYear_60 (fun H locs hP hD hS => ?_)
      have hP : va_P (dC, dI) vwCl (ws.set q0 (h0, .inr (2, row (upd (upd (upd (upd f 2 ((f 2) - 1)) 5 ((f 5) + 0)) 0 ((f 0) + 1)) 3 ((f 3) + 1))))) H := by rw [List.set_set] at hP; exact hP
      have hD : va_D A (ws.set q0 (h0, .inr (2, row (upd (upd (upd (upd f 2 ((f 2) - 1)) 5 ((f 5) + 0)) 0 ((f 0) + 1)) 3 ((f 3) + 1))))) := by rw [List.set_set] at hD; exact hD
      refine lv_aload_n hx hb dX2_liveYear_63 rfl (lv_at hl 1 rfl) ?_
      refine va_get (D := (dC, dI)) (ci := 2) (v := .int ((f 0) + 1)) (C := RX2) (T := TX2) (N := 7) hx hb hts (by decide +kernel) hown hKK.1 hP q0 (set_at he0) rfl 0 (by decide) (hts (.fieldLink RX2 22 "WidowPennies$Widow" "age" "I") (by decide +kernel)) (fun _ h9 => h9) rfl dX2_liveYear_64 ?_
      refine lv_bipush (v := 99) hx hb dX2_liveYear_67 (by decide) ?_
      refine lv_icmp_le (tgt := 77) hx hb dX2_liveYear_69 (by decide) (fun c_3 => ?_) (fun c_3 => ?_)
      · have h99 : ¬ f 0 = 99 := ne_99 c_3
        refine lv_iload_n hx hb dX2_liveYear_77 rfl (lv_at hl 0 rfl) ?_
        have hP9 : va_P (dC, dI) vwCl (ws.set q0 (h0, .inr (2, row (upd (upd (upd (upd f 2 ((f 2) - 1)) 5 ((f 5) + 0)) 0 ((f 0) + 1)) 3 ((f 3) + 1))))) _ := hP
        have hD9 : va_D A (ws.set q0 (h0, .inr (2, row (upd (upd (upd (upd f 2 ((f 2) - 1)) 5 ((f 5) + 0)) 0 ((f 0) + 1)) 3 ((f 3) + 1))))) := hD
        have eR : row (upd (upd (upd (upd f 2 ((f 2) - 1)) 5 ((f 5) + 0)) 0 ((f 0) + 1)) 3 ((f 3) + 1)) = row (yearW f) := by simp [row, yearW, upd, hw, h99]
        rw [eR] at hP9 hD9
        have hz : 0 = (if f 2 = 0 then f 1 else 0) := by simp [hw, h99]
        exact W.iret (v := 0) hx hb hr (fun t ht hW => ⟨⟨_, (), rfl, hz, by rw [ht]; exact hP9, by rw [hAe]; exact hD9⟩, by rw [hAe]; exact hS.F ht⟩) hS.2.2 dX2_liveYear_78
      · have h99 : f 0 = 99 := is_99 hka hka2 c_3
        refine lv_aload_n hx hb dX2_liveYear_72 rfl (lv_at hl 1 rfl) ?_
        refine lv_iconst (v := 1) hx hb dX2_liveYear_73 (by decide) ?_
        refine va_put (D := (dC, dI)) (ci := 2) (v := .int 1) (ty := .int) (C := RX2) (T := TX2) (N := 7) hx hb hts (by decide +kernel) tyX2 tyX2_ok nmX2 hown hKK.1 hP hD hS q0 (set_at he0) rfl 4 (by decide) (hts (.fieldLink RX2 9 "WidowPennies$Widow" "state" "I") (by decide +kernel)) (fun _ h9 => h9) rfl (by decide +kernel) rfl rfl (Nat.le_of_ble_eq_true rfl) dX2_liveYear_74 (fun H locs hP hD hS => ?_)
        have hP : va_P (dC, dI) vwCl (ws.set q0 (h0, .inr (2, row (upd (upd (upd (upd (upd f 2 ((f 2) - 1)) 5 ((f 5) + 0)) 0 ((f 0) + 1)) 3 ((f 3) + 1)) 4 1)))) H := by rw [List.set_set] at hP; exact hP
        have hD : va_D A (ws.set q0 (h0, .inr (2, row (upd (upd (upd (upd (upd f 2 ((f 2) - 1)) 5 ((f 5) + 0)) 0 ((f 0) + 1)) 3 ((f 3) + 1)) 4 1)))) := by rw [List.set_set] at hD; exact hD
        refine lv_iload_n hx hb dX2_liveYear_77 rfl (lv_at hl 0 rfl) ?_
        have hP9 : va_P (dC, dI) vwCl (ws.set q0 (h0, .inr (2, row (upd (upd (upd (upd (upd f 2 ((f 2) - 1)) 5 ((f 5) + 0)) 0 ((f 0) + 1)) 3 ((f 3) + 1)) 4 1)))) _ := hP
        have hD9 : va_D A (ws.set q0 (h0, .inr (2, row (upd (upd (upd (upd (upd f 2 ((f 2) - 1)) 5 ((f 5) + 0)) 0 ((f 0) + 1)) 3 ((f 3) + 1)) 4 1)))) := hD
        have eR : row (upd (upd (upd (upd (upd f 2 ((f 2) - 1)) 5 ((f 5) + 0)) 0 ((f 0) + 1)) 3 ((f 3) + 1)) 4 1) = row (yearW f) := by simp [row, yearW, upd, hw, h99, h4]
        rw [eR] at hP9 hD9
        have hz : 0 = (if f 2 = 0 then f 1 else 0) := by simp [hw, h99, h4]
        exact W.iret (v := 0) hx hb hr (fun t ht hW => ⟨⟨_, (), rfl, hz, by rw [ht]; exact hP9, by rw [hAe]; exact hD9⟩, by rw [hAe]; exact hS.F ht⟩) hS.2.2 dX2_liveYear_78
  · have hw : f 2 = 0 := c_1
    refine lv_aload_n hx hb dX2_liveYear_7 rfl (lv_at hl 0 rfl) ?_
    refine va_get (D := (dC, dI)) (ci := 2) (v := .int (f 1)) (C := RX2) (T := TX2) (N := 7) hx hb hts (by decide +kernel) hown hKK.1 hP q0 he0 rfl 1 (by decide) (hts (.fieldLink RX2 25 "WidowPennies$Widow" "sum" "I") (by decide +kernel)) (fun _ h9 => h9) rfl dX2_liveYear_8 ?_
    refine lv_goto (tgt := 15) hx hb dX2_liveYear_11 (by decide) ?_
    refine lv_istore_n (lv' := [(1, .int (f 1)), (0, .ref h0)]) hx hb dX2_liveYear_15 rfl hl (by decide) rfl (fun ls hl => ?_)
    refine lv_aload_n hx hb dX2_liveYear_16 rfl (lv_at hl 1 rfl) ?_
    refine va_get (D := (dC, dI)) (ci := 2) (v := .int (f 2)) (C := RX2) (T := TX2) (N := 7) hx hb hts (by decide +kernel) hown hKK.1 hP q0 he0 rfl 2 (by decide) (hts (.fieldLink RX2 28 "WidowPennies$Widow" "wait" "I") (by decide +kernel)) (fun _ h9 => h9) rfl dX2_liveYear_17 ?_
    refine lv_if_le (tgt := 33) hx hb dX2_liveYear_20 (by decide) (fun c_4 => ?_) (fun c_4 => ?_)
    · refine lv_aload_n hx hb dX2_liveYear_33 rfl (lv_at hl 1 rfl) ?_
      refine lv_dup hx hb dX2_liveYear_34 rfl ?_
      refine va_get (D := (dC, dI)) (ci := 2) (v := .int (f 5)) (C := RX2) (T := TX2) (N := 7) hx hb hts (by decide +kernel) hown hKK.1 hP q0 he0 rfl 5 (by decide) (hts (.fieldLink RX2 31 "WidowPennies$Widow" "got" "I") (by decide +kernel)) (fun _ h9 => h9) rfl dX2_liveYear_35 ?_
      refine lv_iload_n hx hb dX2_liveYear_38 rfl (lv_at hl 0 rfl) ?_
      refine lv_iadd hx hb dX2_liveYear_39 ?_
      refine va_put (D := (dC, dI)) (ci := 2) (v := .int ((f 5) + (f 1))) (ty := .int) (C := RX2) (T := TX2) (N := 7) hx hb hts (by decide +kernel) tyX2 tyX2_ok nmX2 hown hKK.1 hP hD hS q0 he0 rfl 5 (by decide) (hts (.fieldLink RX2 31 "WidowPennies$Widow" "got" "I") (by decide +kernel)) (fun _ h9 => h9) rfl (by decide +kernel) rfl rfl (Nat.le_of_ble_eq_true rfl) dX2_liveYear_40 (fun H locs hP hD hS => ?_)
      have hP : va_P (dC, dI) vwCl (ws.set q0 (h0, .inr (2, row (upd f 5 ((f 5) + (f 1)))))) H := hP
      have hD : va_D A (ws.set q0 (h0, .inr (2, row (upd f 5 ((f 5) + (f 1)))))) := hD
      refine lv_aload_n hx hb dX2_liveYear_43 rfl (lv_at hl 1 rfl) ?_
      refine lv_dup hx hb dX2_liveYear_44 rfl ?_
      refine va_get (D := (dC, dI)) (ci := 2) (v := .int (f 0)) (C := RX2) (T := TX2) (N := 7) hx hb hts (by decide +kernel) hown hKK.1 hP q0 (set_at he0) rfl 0 (by decide) (hts (.fieldLink RX2 22 "WidowPennies$Widow" "age" "I") (by decide +kernel)) (fun _ h9 => h9) rfl dX2_liveYear_45 ?_
      refine lv_iconst (v := 1) hx hb dX2_liveYear_48 (by decide) ?_
      refine lv_iadd hx hb dX2_liveYear_49 ?_
      refine va_put (D := (dC, dI)) (ci := 2) (v := .int ((f 0) + 1)) (ty := .int) (C := RX2) (T := TX2) (N := 7) hx hb hts (by decide +kernel) tyX2 tyX2_ok nmX2 hown hKK.1 hP hD hS q0 (set_at he0) rfl 0 (by decide) (hts (.fieldLink RX2 22 "WidowPennies$Widow" "age" "I") (by decide +kernel)) (fun _ h9 => h9) rfl (by decide +kernel) rfl rfl (Nat.le_of_ble_eq_true rfl) dX2_liveYear_50 (fun H locs hP hD hS => ?_)
      have hP : va_P (dC, dI) vwCl (ws.set q0 (h0, .inr (2, row (upd (upd f 5 ((f 5) + (f 1))) 0 ((f 0) + 1))))) H := by rw [List.set_set] at hP; exact hP
      have hD : va_D A (ws.set q0 (h0, .inr (2, row (upd (upd f 5 ((f 5) + (f 1))) 0 ((f 0) + 1))))) := by rw [List.set_set] at hD; exact hD
      refine lv_aload_n hx hb dX2_liveYear_53 rfl (lv_at hl 1 rfl) ?_
      refine lv_dup hx hb dX2_liveYear_54 rfl ?_
      refine va_get (D := (dC, dI)) (ci := 2) (v := .int (f 3)) (C := RX2) (T := TX2) (N := 7) hx hb hts (by decide +kernel) hown hKK.1 hP q0 (set_at he0) rfl 3 (by decide) (hts (.fieldLink RX2 19 "WidowPennies$Widow" "held" "I") (by decide +kernel)) (fun _ h9 => h9) rfl dX2_liveYear_55 ?_
      refine lv_iconst (v := 1) hx hb dX2_liveYear_58 (by decide) ?_
      refine lv_iadd hx hb dX2_liveYear_59 ?_
      refine va_put (D := (dC, dI)) (ci := 2) (v := .int ((f 3) + 1)) (ty := .int) (C := RX2) (T := TX2) (N := 7) hx hb hts (by decide +kernel) tyX2 tyX2_ok nmX2 hown hKK.1 hP hD hS q0 (set_at he0) rfl 3 (by decide) (hts (.fieldLink RX2 19 "WidowPennies$Widow" "held" "I") (by decide +kernel)) (fun _ h9 => h9) rfl (by decide +kernel) rfl rfl (Nat.le_of_ble_eq_true rfl) dX2_liveYear_60 (fun H locs hP hD hS => ?_)
      have hP : va_P (dC, dI) vwCl (ws.set q0 (h0, .inr (2, row (upd (upd (upd f 5 ((f 5) + (f 1))) 0 ((f 0) + 1)) 3 ((f 3) + 1))))) H := by rw [List.set_set] at hP; exact hP
      have hD : va_D A (ws.set q0 (h0, .inr (2, row (upd (upd (upd f 5 ((f 5) + (f 1))) 0 ((f 0) + 1)) 3 ((f 3) + 1))))) := by rw [List.set_set] at hD; exact hD
      refine lv_aload_n hx hb dX2_liveYear_63 rfl (lv_at hl 1 rfl) ?_
      refine va_get (D := (dC, dI)) (ci := 2) (v := .int ((f 0) + 1)) (C := RX2) (T := TX2) (N := 7) hx hb hts (by decide +kernel) hown hKK.1 hP q0 (set_at he0) rfl 0 (by decide) (hts (.fieldLink RX2 22 "WidowPennies$Widow" "age" "I") (by decide +kernel)) (fun _ h9 => h9) rfl dX2_liveYear_64 ?_
      refine lv_bipush (v := 99) hx hb dX2_liveYear_67 (by decide) ?_
      refine lv_icmp_le (tgt := 77) hx hb dX2_liveYear_69 (by decide) (fun c_5 => ?_) (fun c_5 => ?_)
      · have h99 : ¬ f 0 = 99 := ne_99 c_5
        refine lv_iload_n hx hb dX2_liveYear_77 rfl (lv_at hl 0 rfl) ?_
        have hP9 : va_P (dC, dI) vwCl (ws.set q0 (h0, .inr (2, row (upd (upd (upd f 5 ((f 5) + (f 1))) 0 ((f 0) + 1)) 3 ((f 3) + 1))))) _ := hP
        have hD9 : va_D A (ws.set q0 (h0, .inr (2, row (upd (upd (upd f 5 ((f 5) + (f 1))) 0 ((f 0) + 1)) 3 ((f 3) + 1))))) := hD
        have eR : row (upd (upd (upd f 5 ((f 5) + (f 1))) 0 ((f 0) + 1)) 3 ((f 3) + 1)) = row (yearW f) := by simp [row, yearW, upd, hw, h99]
        rw [eR] at hP9 hD9
        have hz : f 1 = (if f 2 = 0 then f 1 else 0) := by simp [hw, h99]
        exact W.iret (v := (f 1)) hx hb hr (fun t ht hW => ⟨⟨_, (), rfl, hz, by rw [ht]; exact hP9, by rw [hAe]; exact hD9⟩, by rw [hAe]; exact hS.F ht⟩) hS.2.2 dX2_liveYear_78
      · have h99 : f 0 = 99 := is_99 hka hka2 c_5
        refine lv_aload_n hx hb dX2_liveYear_72 rfl (lv_at hl 1 rfl) ?_
        refine lv_iconst (v := 1) hx hb dX2_liveYear_73 (by decide) ?_
        refine va_put (D := (dC, dI)) (ci := 2) (v := .int 1) (ty := .int) (C := RX2) (T := TX2) (N := 7) hx hb hts (by decide +kernel) tyX2 tyX2_ok nmX2 hown hKK.1 hP hD hS q0 (set_at he0) rfl 4 (by decide) (hts (.fieldLink RX2 9 "WidowPennies$Widow" "state" "I") (by decide +kernel)) (fun _ h9 => h9) rfl (by decide +kernel) rfl rfl (Nat.le_of_ble_eq_true rfl) dX2_liveYear_74 (fun H locs hP hD hS => ?_)
        have hP : va_P (dC, dI) vwCl (ws.set q0 (h0, .inr (2, row (upd (upd (upd (upd f 5 ((f 5) + (f 1))) 0 ((f 0) + 1)) 3 ((f 3) + 1)) 4 1)))) H := by rw [List.set_set] at hP; exact hP
        have hD : va_D A (ws.set q0 (h0, .inr (2, row (upd (upd (upd (upd f 5 ((f 5) + (f 1))) 0 ((f 0) + 1)) 3 ((f 3) + 1)) 4 1)))) := by rw [List.set_set] at hD; exact hD
        refine lv_iload_n hx hb dX2_liveYear_77 rfl (lv_at hl 0 rfl) ?_
        have hP9 : va_P (dC, dI) vwCl (ws.set q0 (h0, .inr (2, row (upd (upd (upd (upd f 5 ((f 5) + (f 1))) 0 ((f 0) + 1)) 3 ((f 3) + 1)) 4 1)))) _ := hP
        have hD9 : va_D A (ws.set q0 (h0, .inr (2, row (upd (upd (upd (upd f 5 ((f 5) + (f 1))) 0 ((f 0) + 1)) 3 ((f 3) + 1)) 4 1)))) := hD
        have eR : row (upd (upd (upd (upd f 5 ((f 5) + (f 1))) 0 ((f 0) + 1)) 3 ((f 3) + 1)) 4 1) = row (yearW f) := by simp [row, yearW, upd, hw, h99, h4]
        rw [eR] at hP9 hD9
        have hz : f 1 = (if f 2 = 0 then f 1 else 0) := by simp [hw, h99, h4]
        exact W.iret (v := (f 1)) hx hb hr (fun t ht hW => ⟨⟨_, (), rfl, hz, by rw [ht]; exact hP9, by rw [hAe]; exact hD9⟩, by rw [hAe]; exact hS.F ht⟩) hS.2.2 dX2_liveYear_78
    · exact absurd (show f 2 ≤ 0 by rw [hw]; decide) c_4
set_option maxHeartbeats 4000000 in
set_option maxRecDepth 100000 in
theorem met_X0_takeIn (l : Launch) (dC : Nat → ClassId) (dI : Nat → Nat → Nat) (cI cW : ClassId) (X Bk : Nat → Nat) (d r : Nat → Int32) (n : Nat) (ch pd pr yr : Int32) (Wd : Nat → Nat → Int32) (R : va_W) (x : Int32) (sz : Nat) : Met l yX0_takeIn wsX0_takeIn ({ frames := 0, cells := 0, slots := 0, locals := 0 }) (Pre1 dC dI cI cW [.ref (Bk 0), .int x] (tab cI X d r ++ (bk cW X Bk n ch pd pr yr Wd ++ R)) sz) (Qv1 dC dI (tab cI X d r ++ (bk cW X Bk n ch pd pr yr Wd ++ R)) (tab cI X d r ++ (bk cW X Bk n (takeS ch x) pd pr yr Wd ++ R)) sz) 0 0 (va_A (tab cI X d r ++ (bk cW X Bk n ch pd pr yr Wd ++ R)) sz) := by
  refine Met.ofW (cc := cX0_takeIn) (maxL := 3) (ret := none) (by decide) rfl ?_
  intro p e s m args below meth c s₁ B hml hv
  obtain ⟨rfl, hsz, hP, hD0, hKK⟩ := hv
  subst hsz
  have hx := B.exec
  have hb := B.bytes
  have hr := B.returns
  have hts := atoms_spec (ws := wsX0_takeIn) B.pre
  have hown : s.vm.findClass RX0 = some m.cls := findClass_of_methodNamed B.named
  have hlocks := B.notSynchronized
  have hD := hD0.self (sz := s.heap.size)
  generalize hAe : va_A (tab cI X d r ++ (bk cW X Bk n ch pd pr yr Wd ++ R)) s.heap.size = A at hD ⊢
  have hA : ∀ q : Nat, s.heap.size ≤ q → A q := fun q h => by rw [← hAe]; exact Or.inr h
  have hS : va_S A s.heap s.heap [] := va_S.rf
  have hl := lv_entry ([.ref (Bk 0), .int x]) (n := 3) (Nat.le_of_ble_eq_true rfl)
  rw [lg_entry_eq]
  generalize (lg_sl ([.ref (Bk 0), .int x]) ++ List.replicate (3 - (lg_sl ([.ref (Bk 0), .int x])).length) Slot.unset).toArray = ls at hl ⊢
  have hl : lv_has ls 3 [(0, .ref (Bk 0)), (1, .int x)] := hl
  refine lv_aload_n hx hb dX0_takeIn_0 rfl (lv_at hl 0 rfl) ?_
  refine va_get (D := (dC, dI)) (ci := 0) (v := .int ch) (C := RX0) (T := TX0) (N := 7) hx hb hts (by decide +kernel) hown hKK.1 hP 3 rfl rfl 3 (by decide) (hts (.fieldLink RX0 41 "WidowPennies$Book" "chest" "I") (by decide +kernel)) (fun _ h9 => h9) rfl dX0_takeIn_1 ?_
  refine lv_iload_n hx hb dX0_takeIn_4 rfl (lv_at hl 1 rfl) ?_
  refine lv_iadd hx hb dX0_takeIn_5 ?_
  refine lv_istore_n (lv' := [(2, .int (ch + x)), (0, .ref (Bk 0)), (1, .int x)]) hx hb dX0_takeIn_6 rfl hl (by decide) rfl (fun ls hl => ?_)
  refine lv_aload_n hx hb dX0_takeIn_7 rfl (lv_at hl 1 rfl) ?_
  refine lv_iload_n hx hb dX0_takeIn_8 rfl (lv_at hl 0 rfl) ?_
  refine lv_ldc (v := 99999999) hx hb hown (hts (.constant RX0 44 99999999) (by decide +kernel)) dX0_takeIn_9 ?_
  refine lv_icmp_le (tgt := 19) hx hb dX0_takeIn_11 (by decide) (fun c_1 => ?_) (fun c_1 => ?_)
  · refine lv_iload_n hx hb dX0_takeIn_19 rfl (lv_at hl 0 rfl) ?_
    refine va_put (D := (dC, dI)) (ci := 0) (v := .int (ch + x)) (ty := .int) (C := RX0) (T := TX0) (N := 7) hx hb hts (by decide +kernel) tyX0 tyX0_ok nmX0 hown hKK.1 hP hD hS 3 rfl rfl 3 (by decide) (hts (.fieldLink RX0 41 "WidowPennies$Book" "chest" "I") (by decide +kernel)) (fun _ h9 => h9) rfl (by decide +kernel) rfl rfl (Nat.le_of_ble_eq_true rfl) dX0_takeIn_20 (fun H locs hP hD hS => ?_)
    have hP : va_P (dC, dI) vwCl (tab cI X d r ++ (bk cW X Bk n (ch + x) pd pr yr Wd ++ R)) H := hP
    have hD : va_D A (tab cI X d r ++ (bk cW X Bk n (ch + x) pd pr yr Wd ++ R)) := hD
    have hP9 : va_P (dC, dI) vwCl (tab cI X d r ++ (bk cW X Bk n (ch + x) pd pr yr Wd ++ R)) _ := hP
    have hD9 : va_D A (tab cI X d r ++ (bk cW X Bk n (ch + x) pd pr yr Wd ++ R)) := hD
    have e9 : ch + x = takeS ch x := by unfold takeS; rw [if_neg (Int32.not_lt.mpr c_1)]
    rw [e9] at hP9 hD9
    exact W.vret hx hb hr (fun t ht hW => ⟨⟨(), rfl, trivial, by rw [ht]; exact hP9, by rw [hAe]; exact hD9⟩, by rw [hAe]; exact hS.F ht⟩) hS.2.2 dX0_takeIn_23
  · refine lv_ldc (v := 99999999) hx hb hown (hts (.constant RX0 44 99999999) (by decide +kernel)) dX0_takeIn_14 ?_
    refine lv_goto (tgt := 20) hx hb dX0_takeIn_16 (by decide) ?_
    refine va_put (D := (dC, dI)) (ci := 0) (v := .int 99999999) (ty := .int) (C := RX0) (T := TX0) (N := 7) hx hb hts (by decide +kernel) tyX0 tyX0_ok nmX0 hown hKK.1 hP hD hS 3 rfl rfl 3 (by decide) (hts (.fieldLink RX0 41 "WidowPennies$Book" "chest" "I") (by decide +kernel)) (fun _ h9 => h9) rfl (by decide +kernel) rfl rfl (Nat.le_of_ble_eq_true rfl) dX0_takeIn_20 (fun H locs hP hD hS => ?_)
    have hP : va_P (dC, dI) vwCl (tab cI X d r ++ (bk cW X Bk n 99999999 pd pr yr Wd ++ R)) H := hP
    have hD : va_D A (tab cI X d r ++ (bk cW X Bk n 99999999 pd pr yr Wd ++ R)) := hD
    have hP9 : va_P (dC, dI) vwCl (tab cI X d r ++ (bk cW X Bk n 99999999 pd pr yr Wd ++ R)) _ := hP
    have hD9 : va_D A (tab cI X d r ++ (bk cW X Bk n 99999999 pd pr yr Wd ++ R)) := hD
    have e9 : 99999999 = takeS ch x := by unfold takeS; rw [if_pos (Int32.not_le.mp c_1)]
    rw [e9] at hP9 hD9
    exact W.vret hx hb hr (fun t ht hW => ⟨⟨(), rfl, trivial, by rw [ht]; exact hP9, by rw [hAe]; exact hD9⟩, by rw [hAe]; exact hS.F ht⟩) hS.2.2 dX0_takeIn_23
set_option maxHeartbeats 4000000 in
set_option maxRecDepth 100000 in
theorem met_X0_payOut (l : Launch) (dC : Nat → ClassId) (dI : Nat → Nat → Nat) (cI cW : ClassId) (X Bk : Nat → Nat) (d r : Nat → Int32) (n : Nat) (ch pd pr yr : Int32) (Wd : Nat → Nat → Int32) (R : va_W) (x : Int32) (sz : Nat) : Met l yX0_payOut wsX0_payOut ({ frames := 0, cells := 0, slots := 0, locals := 0 }) (Pre1 dC dI cI cW [.ref (Bk 0), .int x] (tab cI X d r ++ (bk cW X Bk n ch pd pr yr Wd ++ R)) sz) (Qv1 dC dI (tab cI X d r ++ (bk cW X Bk n ch pd pr yr Wd ++ R)) (tab cI X d r ++ (bk cW X Bk n (ch - x) (pd + x) pr yr Wd ++ R)) sz) 0 0 (va_A (tab cI X d r ++ (bk cW X Bk n ch pd pr yr Wd ++ R)) sz) := by
  refine Met.ofW (cc := cX0_payOut) (maxL := 2) (ret := none) (by decide) rfl ?_
  intro p e s m args below meth c s₁ B hml hv
  obtain ⟨rfl, hsz, hP, hD0, hKK⟩ := hv
  subst hsz
  have hx := B.exec
  have hb := B.bytes
  have hr := B.returns
  have hts := atoms_spec (ws := wsX0_payOut) B.pre
  have hown : s.vm.findClass RX0 = some m.cls := findClass_of_methodNamed B.named
  have hlocks := B.notSynchronized
  have hD := hD0.self (sz := s.heap.size)
  generalize hAe : va_A (tab cI X d r ++ (bk cW X Bk n ch pd pr yr Wd ++ R)) s.heap.size = A at hD ⊢
  have hA : ∀ q : Nat, s.heap.size ≤ q → A q := fun q h => by rw [← hAe]; exact Or.inr h
  have hS : va_S A s.heap s.heap [] := va_S.rf
  have hl := lv_entry ([.ref (Bk 0), .int x]) (n := 2) (Nat.le_of_ble_eq_true rfl)
  rw [lg_entry_eq]
  generalize (lg_sl ([.ref (Bk 0), .int x]) ++ List.replicate (2 - (lg_sl ([.ref (Bk 0), .int x])).length) Slot.unset).toArray = ls at hl ⊢
  have hl : lv_has ls 2 [(0, .ref (Bk 0)), (1, .int x)] := hl
  refine lv_aload_n hx hb dX0_payOut_0 rfl (lv_at hl 0 rfl) ?_
  refine lv_dup hx hb dX0_payOut_1 rfl ?_
  refine va_get (D := (dC, dI)) (ci := 0) (v := .int ch) (C := RX0) (T := TX0) (N := 7) hx hb hts (by decide +kernel) hown hKK.1 hP 3 rfl rfl 3 (by decide) (hts (.fieldLink RX0 41 "WidowPennies$Book" "chest" "I") (by decide +kernel)) (fun _ h9 => h9) rfl dX0_payOut_2 ?_
  refine lv_iload_n hx hb dX0_payOut_5 rfl (lv_at hl 1 rfl) ?_
  refine lv_isub hx hb dX0_payOut_6 ?_
  refine va_put (D := (dC, dI)) (ci := 0) (v := .int (ch - x)) (ty := .int) (C := RX0) (T := TX0) (N := 7) hx hb hts (by decide +kernel) tyX0 tyX0_ok nmX0 hown hKK.1 hP hD hS 3 rfl rfl 3 (by decide) (hts (.fieldLink RX0 41 "WidowPennies$Book" "chest" "I") (by decide +kernel)) (fun _ h9 => h9) rfl (by decide +kernel) rfl rfl (Nat.le_of_ble_eq_true rfl) dX0_payOut_7 (fun H locs hP hD hS => ?_)
  have hP : va_P (dC, dI) vwCl (tab cI X d r ++ (bk cW X Bk n (ch - x) pd pr yr Wd ++ R)) H := hP
  have hD : va_D A (tab cI X d r ++ (bk cW X Bk n (ch - x) pd pr yr Wd ++ R)) := hD
  refine lv_aload_n hx hb dX0_payOut_10 rfl (lv_at hl 0 rfl) ?_
  refine lv_dup hx hb dX0_payOut_11 rfl ?_
  refine va_get (D := (dC, dI)) (ci := 0) (v := .int pd) (C := RX0) (T := TX0) (N := 7) hx hb hts (by decide +kernel) hown hKK.1 hP 3 rfl rfl 4 (by decide) (hts (.fieldLink RX0 45 "WidowPennies$Book" "paidOut" "I") (by decide +kernel)) (fun _ h9 => h9) rfl dX0_payOut_12 ?_
  refine lv_iload_n hx hb dX0_payOut_15 rfl (lv_at hl 1 rfl) ?_
  refine lv_iadd hx hb dX0_payOut_16 ?_
  refine va_put (D := (dC, dI)) (ci := 0) (v := .int (pd + x)) (ty := .int) (C := RX0) (T := TX0) (N := 7) hx hb hts (by decide +kernel) tyX0 tyX0_ok nmX0 hown hKK.1 hP hD hS 3 rfl rfl 4 (by decide) (hts (.fieldLink RX0 45 "WidowPennies$Book" "paidOut" "I") (by decide +kernel)) (fun _ h9 => h9) rfl (by decide +kernel) rfl rfl (Nat.le_of_ble_eq_true rfl) dX0_payOut_17 (fun H locs hP hD hS => ?_)
  have hP : va_P (dC, dI) vwCl (tab cI X d r ++ (bk cW X Bk n (ch - x) (pd + x) pr yr Wd ++ R)) H := hP
  have hD : va_D A (tab cI X d r ++ (bk cW X Bk n (ch - x) (pd + x) pr yr Wd ++ R)) := hD
  have hP9 : va_P (dC, dI) vwCl (tab cI X d r ++ (bk cW X Bk n (ch - x) (pd + x) pr yr Wd ++ R)) _ := hP
  have hD9 : va_D A (tab cI X d r ++ (bk cW X Bk n (ch - x) (pd + x) pr yr Wd ++ R)) := hD
  exact W.vret hx hb hr (fun t ht hW => ⟨⟨(), rfl, trivial, by rw [ht]; exact hP9, by rw [hAe]; exact hD9⟩, by rw [hAe]; exact hS.F ht⟩) hS.2.2 dX0_payOut_20
set_option maxHeartbeats 4000000 in
set_option maxRecDepth 100000 in
theorem met_X0_write (l : Launch) (dC : Nat → ClassId) (dI : Nat → Nat → Nat) (cI cW : ClassId) (X Bk : Nat → Nat) (d r : Nat → Int32) (n : Nat) (ch pd pr yr : Int32) (Wd : Nat → Nat → Int32) (R : va_W) (hn10 : n < 10) (a s9 p9 c9 : Int32) (sz : Nat) : Met l yX0_write wsX0_write ({ frames := 1, cells := 0, slots := 0, locals := 24 }) (Pre1 dC dI cI cW [.ref (Bk 0), .int a, .int s9, .int p9, .int c9] (tab cI X d r ++ (bk cW X Bk n ch pd pr yr Wd ++ R)) sz) (Qi1 dC dI (fun z => z = nI n) (tab cI X d r ++ (bk cW X Bk n ch pd pr yr Wd ++ R)) (tab cI X d r ++ (bk cW X Bk (n + 1) (takeS ch c9) pd (pr + c9) yr (upW Wd n (mkW a s9 p9 c9)) ++ R)) sz) 0 0 (va_A (tab cI X d r ++ (bk cW X Bk n ch pd pr yr Wd ++ R)) sz) := by
  refine Met.ofW (cc := cX0_write) (maxL := 6) (ret := (some .int)) (by decide) rfl ?_
  intro p e s m args below meth c s₁ B hml hv
  obtain ⟨rfl, hsz, hP, hD0, hKK⟩ := hv
  subst hsz
  have hx := B.exec
  have hb := B.bytes
  have hr := B.returns
  have hts := atoms_spec (ws := wsX0_write) B.pre
  have hown : s.vm.findClass RX0 = some m.cls := findClass_of_methodNamed B.named
  have hlocks := B.notSynchronized
  have hD := hD0.self (sz := s.heap.size)
  generalize hAe : va_A (tab cI X d r ++ (bk cW X Bk n ch pd pr yr Wd ++ R)) s.heap.size = A at hD ⊢
  have hA : ∀ q : Nat, s.heap.size ≤ q → A q := fun q h => by rw [← hAe]; exact Or.inr h
  have hS : va_S A s.heap s.heap [] := va_S.rf
  have hl := lv_entry ([.ref (Bk 0), .int a, .int s9, .int p9, .int c9]) (n := 6) (Nat.le_of_ble_eq_true rfl)
  rw [lg_entry_eq]
  generalize (lg_sl ([.ref (Bk 0), .int a, .int s9, .int p9, .int c9]) ++ List.replicate (6 - (lg_sl ([.ref (Bk 0), .int a, .int s9, .int p9, .int c9])).length) Slot.unset).toArray = ls at hl ⊢
  have hl : lv_has ls 6 [(0, .ref (Bk 0)), (1, .int a), (2, .int s9), (3, .int p9), (4, .int c9)] := hl
  refine lv_aload_n hx hb dX0_write_0 rfl (lv_at hl 0 rfl) ?_
  refine va_get (D := (dC, dI)) (ci := 0) (v := .int (nI n)) (C := RX0) (T := TX0) (N := 7) hx hb hts (by decide +kernel) hown hKK.1 hP 3 rfl rfl 2 (by decide) (hts (.fieldLink RX0 22 "WidowPennies$Book" "written" "I") (by decide +kernel)) (fun _ h9 => h9) rfl dX0_write_1 ?_
  refine lv_istore (lv' := [(5, .int (nI n)), (0, .ref (Bk 0)), (1, .int a), (2, .int s9), (3, .int p9), (4, .int c9)]) hx hb dX0_write_4 hl (by decide) rfl (fun ls hl => ?_)
  refine lv_aload_n hx hb dX0_write_6 rfl (lv_at hl 1 rfl) ?_
  refine lv_iload hx hb dX0_write_7 (lv_at hl 0 rfl) ?_
  refine rd_r (runV0 (As := [.int (nI n)]) (rest := []) ⟨hx, hb, hml, hown, hts⟩ (met_X0_widowAt l dC dI cI cW X Bk n ch pd pr yr Wd n hn10) (cwV 1 hts gX0_write_X0_widowAt rfl rfl rfl (by decide +kernel) ⟨Nat.le_of_ble_eq_true rfl, Nat.le_of_ble_eq_true rfl⟩) hKK (ws_left (ws_right hP)) 0 0 rfl rfl rfl hl.1 (Nat.le_of_ble_eq_true rfl) rfl dX0_write_9 ⟨Nat.zero_le _, Nat.zero_le _⟩) (fun r_1 hr_1 => ?_)
  subst hr_1
  refine lv_iload_n hx hb dX0_write_12 rfl (lv_at hl 2 rfl) ?_
  refine lv_iload_n hx hb dX0_write_13 rfl (lv_at hl 3 rfl) ?_
  refine lv_iload_n hx hb dX0_write_14 rfl (lv_at hl 4 rfl) ?_
  refine lv_iload hx hb dX0_write_15 (lv_at hl 5 rfl) ?_
  refine wr_v (runV1 (As := [.int a, .int s9, .int p9, .int c9]) (rest := []) ⟨hx, hb, hml, hown, hts⟩ (met_X2_start l dC dI cI cW (tab cI X d r ++ (bk cW X Bk n ch pd pr yr Wd ++ R)) (n + 5) (Bk (n + 2)) (Wd n) (bw_at hn10) a s9 p9 c9 _) (cwV 4 hts gX0_write_X2_start rfl rfl rfl (by decide +kernel) ⟨Nat.le_of_ble_eq_true rfl, Nat.le_of_ble_eq_true rfl⟩) hKK hP hD 2 (n + 5) rfl (bw_at hn10) rfl hl.1 (Nat.le_of_ble_eq_true rfl) rfl dX0_write_17 ⟨Nat.zero_le _, Nat.zero_le _⟩) hD hS hA (fun H locs hP hD hS => ?_)
  have hP : va_P (dC, dI) vwCl (tab cI X d r ++ (bk cW X Bk n ch pd pr yr (upW Wd n (mkW a s9 p9 c9)) ++ R)) H := by rw [bw_set hn10] at hP; exact hP
  have hD : va_D A (tab cI X d r ++ (bk cW X Bk n ch pd pr yr (upW Wd n (mkW a s9 p9 c9)) ++ R)) := by rw [bw_set hn10] at hD; exact hD
  refine lv_aload_n hx hb dX0_write_20 rfl (lv_at hl 1 rfl) ?_
  refine lv_dup hx hb dX0_write_21 rfl ?_
  refine va_get (D := (dC, dI)) (ci := 0) (v := .int (nI n)) (C := RX0) (T := TX0) (N := 7) hx hb hts (by decide +kernel) hown hKK.1 hP 3 rfl rfl 2 (by decide) (hts (.fieldLink RX0 22 "WidowPennies$Book" "written" "I") (by decide +kernel)) (fun _ h9 => h9) rfl dX0_write_22 ?_
  refine lv_iconst (v := 1) hx hb dX0_write_25 (by decide) ?_
  refine lv_iadd hx hb dX0_write_26 ?_
  rw [show ((nI n) + 1 : Int32) = nI (n + 1) from nI_1 n]
  refine va_put (D := (dC, dI)) (ci := 0) (v := .int (nI (n + 1))) (ty := .int) (C := RX0) (T := TX0) (N := 7) hx hb hts (by decide +kernel) tyX0 tyX0_ok nmX0 hown hKK.1 hP hD hS 3 rfl rfl 2 (by decide) (hts (.fieldLink RX0 22 "WidowPennies$Book" "written" "I") (by decide +kernel)) (fun _ h9 => h9) rfl (by decide +kernel) rfl rfl (Nat.le_of_ble_eq_true rfl) dX0_write_27 (fun H locs hP hD hS => ?_)
  have hP : va_P (dC, dI) vwCl (tab cI X d r ++ (bk cW X Bk (n + 1) ch pd pr yr (upW Wd n (mkW a s9 p9 c9)) ++ R)) H := hP
  have hD : va_D A (tab cI X d r ++ (bk cW X Bk (n + 1) ch pd pr yr (upW Wd n (mkW a s9 p9 c9)) ++ R)) := hD
  refine lv_aload_n hx hb dX0_write_30 rfl (lv_at hl 1 rfl) ?_
  refine lv_dup hx hb dX0_write_31 rfl ?_
  refine va_get (D := (dC, dI)) (ci := 0) (v := .int pr) (C := RX0) (T := TX0) (N := 7) hx hb hts (by decide +kernel) hown hKK.1 hP 3 rfl rfl 5 (by decide) (hts (.fieldLink RX0 34 "WidowPennies$Book" "prices" "I") (by decide +kernel)) (fun _ h9 => h9) rfl dX0_write_32 ?_
  refine lv_iload hx hb dX0_write_35 (lv_at hl 5 rfl) ?_
  refine lv_iadd hx hb dX0_write_37 ?_
  refine va_put (D := (dC, dI)) (ci := 0) (v := .int (pr + c9)) (ty := .int) (C := RX0) (T := TX0) (N := 7) hx hb hts (by decide +kernel) tyX0 tyX0_ok nmX0 hown hKK.1 hP hD hS 3 rfl rfl 5 (by decide) (hts (.fieldLink RX0 34 "WidowPennies$Book" "prices" "I") (by decide +kernel)) (fun _ h9 => h9) rfl (by decide +kernel) rfl rfl (Nat.le_of_ble_eq_true rfl) dX0_write_38 (fun H locs hP hD hS => ?_)
  have hP : va_P (dC, dI) vwCl (tab cI X d r ++ (bk cW X Bk (n + 1) ch pd (pr + c9) yr (upW Wd n (mkW a s9 p9 c9)) ++ R)) H := hP
  have hD : va_D A (tab cI X d r ++ (bk cW X Bk (n + 1) ch pd (pr + c9) yr (upW Wd n (mkW a s9 p9 c9)) ++ R)) := hD
  refine lv_aload_n hx hb dX0_write_41 rfl (lv_at hl 1 rfl) ?_
  refine lv_iload hx hb dX0_write_42 (lv_at hl 5 rfl) ?_
  refine wr_v (runV1 (As := [.int c9]) (rest := []) ⟨hx, hb, hml, hown, hts⟩ (met_X0_takeIn l dC dI cI cW X Bk d r (n + 1) ch pd (pr + c9) yr (upW Wd n (mkW a s9 p9 c9)) R c9 _) (cwV 1 hts gX0_write_X0_takeIn rfl rfl rfl (by decide +kernel) ⟨Nat.le_of_ble_eq_true rfl, Nat.le_of_ble_eq_true rfl⟩) hKK hP hD 0 3 rfl rfl rfl hl.1 (Nat.le_of_ble_eq_true rfl) rfl dX0_write_44 ⟨Nat.zero_le _, Nat.zero_le _⟩) hD hS hA (fun H locs hP hD hS => ?_)
  have hP : va_P (dC, dI) vwCl (tab cI X d r ++ (bk cW X Bk (n + 1) (takeS ch c9) pd (pr + c9) yr (upW Wd n (mkW a s9 p9 c9)) ++ R)) H := hP
  have hD : va_D A (tab cI X d r ++ (bk cW X Bk (n + 1) (takeS ch c9) pd (pr + c9) yr (upW Wd n (mkW a s9 p9 c9)) ++ R)) := hD
  refine lv_iload hx hb dX0_write_47 (lv_at hl 0 rfl) ?_
  have hP9 : va_P (dC, dI) vwCl (tab cI X d r ++ (bk cW X Bk (n + 1) (takeS ch c9) pd (pr + c9) yr (upW Wd n (mkW a s9 p9 c9)) ++ R)) _ := hP
  have hD9 : va_D A (tab cI X d r ++ (bk cW X Bk (n + 1) (takeS ch c9) pd (pr + c9) yr (upW Wd n (mkW a s9 p9 c9)) ++ R)) := hD
  have hz : nI n = nI n := rfl
  exact W.iret (v := (nI n)) hx hb hr (fun t ht hW => ⟨⟨_, (), rfl, hz, by rw [ht]; exact hP9, by rw [hAe]; exact hD9⟩, by rw [hAe]; exact hS.F ht⟩) hS.2.2 dX0_write_49
set_option maxHeartbeats 4000000 in
set_option maxRecDepth 100000 in
theorem met_X0_passYear (l : Launch) (dC : Nat → ClassId) (dI : Nat → Nat → Nat) (cI cW : ClassId) (X Bk : Nat → Nat) (d r : Nat → Int32) (n : Nat) (ch pd pr yr : Int32) (Wd : Nat → Nat → Int32) (R : va_W) (hn : n ≤ 10) (hok : ∀ k, k < n → okW (Wd k)) (hi : ¬ (1000 : Int32) + r 0 = 0) (hi0 : ¬ r 0 < 0) (sz : Nat) : Met l yX0_passYear wsX0_passYear ({ frames := 1, cells := 0, slots := 0, locals := 22 }) (Pre1 dC dI cI cW [.ref (Bk 0)] (tab cI X d r ++ (bk cW X Bk n ch pd pr yr Wd ++ R)) sz) (Qv1 dC dI (tab cI X d r ++ (bk cW X Bk n ch pd pr yr Wd ++ R)) (tab cI X d r ++ (bk cW X Bk n (intS (r 0) ch - sm (dueF Wd) n) (pd + sm (dueF Wd) n) pr (yr + 1) (yW n Wd) ++ R)) sz) 0 0 (va_A (tab cI X d r ++ (bk cW X Bk n ch pd pr yr Wd ++ R)) sz) := by
  refine Met.ofW (cc := cX0_passYear) (maxL := 3) (ret := none) (by decide) rfl ?_
  intro p e s m args below meth c s₁ B hml hv
  obtain ⟨rfl, hsz, hP, hD0, hKK⟩ := hv
  subst hsz
  have hx := B.exec
  have hb := B.bytes
  have hr := B.returns
  have hts := atoms_spec (ws := wsX0_passYear) B.pre
  have hown : s.vm.findClass RX0 = some m.cls := findClass_of_methodNamed B.named
  have hlocks := B.notSynchronized
  have hD := hD0.self (sz := s.heap.size)
  generalize hAe : va_A (tab cI X d r ++ (bk cW X Bk n ch pd pr yr Wd ++ R)) s.heap.size = A at hD ⊢
  have hA : ∀ q : Nat, s.heap.size ≤ q → A q := fun q h => by rw [← hAe]; exact Or.inr h
  have hS : va_S A s.heap s.heap [] := va_S.rf
  have hl := lv_entry ([.ref (Bk 0)]) (n := 3) (Nat.le_of_ble_eq_true rfl)
  rw [lg_entry_eq]
  generalize (lg_sl ([.ref (Bk 0)]) ++ List.replicate (3 - (lg_sl ([.ref (Bk 0)])).length) Slot.unset).toArray = ls at hl ⊢
  have hl : lv_has ls 3 [(0, .ref (Bk 0))] := hl
  have key : ∀ (m9 j : Nat), j + m9 = n → ∀ (H : Heap) (locs : List Loc), va_P (dC, dI) vwCl (tab cI X d r ++ (bk cW X Bk n (intS (r 0) ch - sm (dueF Wd) j) (pd + sm (dueF Wd) j) pr yr (yW j Wd) ++ R)) H → va_D A (tab cI X d r ++ (bk cW X Bk n (intS (r 0) ch - sm (dueF Wd) j) (pd + sm (dueF Wd) j) pr yr (yW j Wd) ++ R)) → va_S A s.heap H locs → ∀ ls : Array Slot, lv_has ls 3 [(1, .int (nI j)), (0, .ref (Bk 0))] → W p l e (headSpec wsX0_passYear ({ frames := 1, cells := 0, slots := 0, locals := 22 })).room s m (([.ref (Bk 0)] : List Value).toArray) below meth c H locs 0 0 (MQ below (Qv1 dC dI (tab cI X d r ++ (bk cW X Bk n ch pd pr yr Wd ++ R)) (tab cI X d r ++ (bk cW X Bk n (intS (r 0) ch - sm (dueF Wd) n) (pd + sm (dueF Wd) n) pr (yr + 1) (yW n Wd) ++ R)) s.heap.size) ([.ref (Bk 0)] : List Value).toArray s 0 0 A) (F0 m 33 ls []) := by
    intro m9
    induction m9 with
    | zero =>
      intro j hj H locs hP hD hS ls hl
      have hjn : j = n := by omega
      subst hjn
      refine lv_iload_n hx hb dX0_passYear_33 rfl (lv_at hl 0 rfl) ?_
      refine lv_aload_n hx hb dX0_passYear_34 rfl (lv_at hl 1 rfl) ?_
      refine va_get (D := (dC, dI)) (ci := 0) (v := .int (nI j)) (C := RX0) (T := TX0) (N := 7) hx hb hts (by decide +kernel) hown hKK.1 hP 3 rfl rfl 2 (by decide) (hts (.fieldLink RX0 22 "WidowPennies$Book" "written" "I") (by decide +kernel)) (fun _ h9 => h9) rfl dX0_passYear_35 ?_
      refine lv_icmp_ge (tgt := 68) hx hb dX0_passYear_38 (by decide) (fun c_1 => ?_) (fun c_1 => ?_)
      · refine lv_aload_n hx hb dX0_passYear_68 rfl (lv_at hl 1 rfl) ?_
        refine lv_dup hx hb dX0_passYear_69 rfl ?_
        refine va_get (D := (dC, dI)) (ci := 0) (v := .int yr) (C := RX0) (T := TX0) (N := 7) hx hb hts (by decide +kernel) hown hKK.1 hP 3 rfl rfl 6 (by decide) (hts (.fieldLink RX0 48 "WidowPennies$Book" "year" "I") (by decide +kernel)) (fun _ h9 => h9) rfl dX0_passYear_70 ?_
        refine lv_iconst (v := 1) hx hb dX0_passYear_73 (by decide) ?_
        refine lv_iadd hx hb dX0_passYear_74 ?_
        refine va_put (D := (dC, dI)) (ci := 0) (v := .int (yr + 1)) (ty := .int) (C := RX0) (T := TX0) (N := 7) hx hb hts (by decide +kernel) tyX0 tyX0_ok nmX0 hown hKK.1 hP hD hS 3 rfl rfl 6 (by decide) (hts (.fieldLink RX0 48 "WidowPennies$Book" "year" "I") (by decide +kernel)) (fun _ h9 => h9) rfl (by decide +kernel) rfl rfl (Nat.le_of_ble_eq_true rfl) dX0_passYear_75 (fun H locs hP hD hS => ?_)
        have hP : va_P (dC, dI) vwCl (tab cI X d r ++ (bk cW X Bk j (intS (r 0) ch - sm (dueF Wd) j) (pd + sm (dueF Wd) j) pr (yr + 1) (yW j Wd) ++ R)) H := hP
        have hD : va_D A (tab cI X d r ++ (bk cW X Bk j (intS (r 0) ch - sm (dueF Wd) j) (pd + sm (dueF Wd) j) pr (yr + 1) (yW j Wd) ++ R)) := hD
        have hP9 : va_P (dC, dI) vwCl (tab cI X d r ++ (bk cW X Bk j (intS (r 0) ch - sm (dueF Wd) j) (pd + sm (dueF Wd) j) pr (yr + 1) (yW j Wd) ++ R)) _ := hP
        have hD9 : va_D A (tab cI X d r ++ (bk cW X Bk j (intS (r 0) ch - sm (dueF Wd) j) (pd + sm (dueF Wd) j) pr (yr + 1) (yW j Wd) ++ R)) := hD
        exact W.vret hx hb hr (fun t ht hW => ⟨⟨(), rfl, trivial, by rw [ht]; exact hP9, by rw [hAe]; exact hD9⟩, by rw [hAe]; exact hS.F ht⟩) hS.2.2 dX0_passYear_78
      · exact absurd (Int32.le_refl _) c_1
    | succ m9 ih =>
      intro j hj H locs hP hD hS ls hl
      have hj10 : j < 10 := by omega
      have hyj : yW j Wd j = Wd j := by simp [yW]
      refine lv_iload_n hx hb dX0_passYear_33 rfl (lv_at hl 0 rfl) ?_
      refine lv_aload_n hx hb dX0_passYear_34 rfl (lv_at hl 1 rfl) ?_
      refine va_get (D := (dC, dI)) (ci := 0) (v := .int (nI n)) (C := RX0) (T := TX0) (N := 7) hx hb hts (by decide +kernel) hown hKK.1 hP 3 rfl rfl 2 (by decide) (hts (.fieldLink RX0 22 "WidowPennies$Book" "written" "I") (by decide +kernel)) (fun _ h9 => h9) rfl dX0_passYear_35 ?_
      refine lv_icmp_ge (tgt := 68) hx hb dX0_passYear_38 (by decide) (fun c_1 => ?_) (fun c_1 => ?_)
      · exact absurd c_1 (fun q => absurd ((le_nI (by omega)).mp q) (by omega))
      · refine lv_aload_n hx hb dX0_passYear_41 rfl (lv_at hl 1 rfl) ?_
        refine lv_iload_n hx hb dX0_passYear_42 rfl (lv_at hl 0 rfl) ?_
        refine rd_r (runV0 (As := [.int (nI j)]) (rest := []) ⟨hx, hb, hml, hown, hts⟩ (met_X0_widowAt l dC dI cI cW X Bk n (intS (r 0) ch - sm (dueF Wd) j) (pd + sm (dueF Wd) j) pr yr (yW j Wd) j hj10) (cwV 1 hts gX0_passYear_X0_widowAt rfl rfl rfl (by decide +kernel) ⟨Nat.le_of_ble_eq_true rfl, Nat.le_of_ble_eq_true rfl⟩) hKK (ws_left (ws_right hP)) 0 0 rfl rfl rfl hl.1 (Nat.le_of_ble_eq_true rfl) rfl dX0_passYear_43 ⟨Nat.zero_le _, Nat.zero_le _⟩) (fun r_2 hr_2 => ?_)
        subst hr_2
        refine lv_astore_n (lv' := [(2, .ref (Bk (j + 2))), (1, .int (nI j)), (0, .ref (Bk 0))]) hx hb dX0_passYear_46 rfl hl (by decide) rfl (fun ls hl => ?_)
        refine lv_aload_n hx hb dX0_passYear_47 rfl (lv_at hl 0 rfl) ?_
        refine rd_i (runV0 (As := []) (rest := []) ⟨hx, hb, hml, hown, hts⟩ (met_X2_lives l dC dI cI cW (Bk (j + 2)) (yW j Wd j)) (cwV 0 hts gX0_passYear_X2_lives rfl rfl rfl (by decide +kernel) ⟨Nat.le_of_ble_eq_true rfl, Nat.le_of_ble_eq_true rfl⟩) hKK (ws_one hP (bw_at hj10)) 2 0 rfl rfl rfl hl.1 (Nat.le_of_ble_eq_true rfl) rfl dX0_passYear_48 ⟨Nat.zero_le _, Nat.zero_le _⟩) (fun r_3 hr_3 => ?_)
        subst hr_3
        refine lv_if_eq (tgt := 62) hx hb dX0_passYear_51 (by decide) (fun c_4 => ?_) (fun c_4 => ?_)
        · have bc_4 : ¬ ((yW j Wd j) 4 = 0) := b0.mp c_4
          have hno : ¬ Wd j 4 = 0 := by rw [hyj] at bc_4; exact bc_4
          refine lv_iinc (v := (nI (j + 1))) (lv' := [(1, .int (nI (j + 1))), (2, .ref (Bk (j + 2))), (0, .ref (Bk 0))]) hx hb dX0_passYear_62 hl (k := 1) rfl (nI_1 j) (by decide) rfl (fun ls hl => ?_)
          refine lv_goto (tgt := 33) hx hb dX0_passYear_65 (by decide) ?_
          have hP : va_P (dC, dI) vwCl (tab cI X d r ++ (bk cW X Bk n (intS (r 0) ch - sm (dueF Wd) (j + 1)) (pd + sm (dueF Wd) (j + 1)) pr yr (yW (j + 1) Wd) ++ R)) H := by rw [yW_no hno, due_no hno]; exact hP
          have hD : va_D A (tab cI X d r ++ (bk cW X Bk n (intS (r 0) ch - sm (dueF Wd) (j + 1)) (pd + sm (dueF Wd) (j + 1)) pr yr (yW (j + 1) Wd) ++ R)) := by rw [yW_no hno, due_no hno]; exact hD
          exact ih (j + 1) (by omega) H locs hP hD hS ls (lv_sub hl [0, 2] rfl)
        · have bc_4 : (yW j Wd j) 4 = 0 := b1.mp c_4
          have hal : Wd j 4 = 0 := by rw [hyj] at bc_4; exact bc_4
          refine lv_aload_n hx hb dX0_passYear_54 rfl (lv_at hl 2 rfl) ?_
          refine lv_aload_n hx hb dX0_passYear_55 rfl (lv_at hl 0 rfl) ?_
          refine wr_i (runV1 (As := []) (rest := [.ref (Bk 0)]) ⟨hx, hb, hml, hown, hts⟩ (met_X2_liveYear l dC dI cI cW (tab cI X d r ++ (bk cW X Bk n (intS (r 0) ch - sm (dueF Wd) j) (pd + sm (dueF Wd) j) pr yr (yW j Wd) ++ R)) (j + 5) (Bk (j + 2)) ((yW j Wd) j) (bw_at hj10) (hyj.symm ▸ hok j (by omega)) (hyj.symm ▸ hal) _) (cwV 0 hts gX0_passYear_X2_liveYear rfl rfl rfl (by decide +kernel) ⟨Nat.le_of_ble_eq_true rfl, Nat.le_of_ble_eq_true rfl⟩) hKK hP hD 2 (j + 5) rfl (bw_at hj10) rfl hl.1 (Nat.le_of_ble_eq_true rfl) rfl dX0_passYear_56 ⟨Nat.zero_le _, Nat.zero_le _⟩) hD hS hA (fun r_5 H locs hr_5 hP hD hS => ?_)
          subst hr_5
          have hP : va_P (dC, dI) vwCl (tab cI X d r ++ (bk cW X Bk n (intS (r 0) ch - sm (dueF Wd) j) (pd + sm (dueF Wd) j) pr yr (upW (yW j Wd) j (yearW ((yW j Wd) j))) ++ R)) H := by rw [bw_set hj10] at hP; exact hP
          have hD : va_D A (tab cI X d r ++ (bk cW X Bk n (intS (r 0) ch - sm (dueF Wd) j) (pd + sm (dueF Wd) j) pr yr (upW (yW j Wd) j (yearW ((yW j Wd) j))) ++ R)) := by rw [bw_set hj10] at hD; exact hD
          rw [hyj] at hP hD ⊢
          refine wr_v (runV1 (As := [.int (if (Wd j) 2 = 0 then (Wd j) 1 else 0)]) (rest := []) ⟨hx, hb, hml, hown, hts⟩ (met_X0_payOut l dC dI cI cW X Bk d r n (intS (r 0) ch - sm (dueF Wd) j) (pd + sm (dueF Wd) j) pr yr (upW (yW j Wd) j (yearW (Wd j))) R (if (Wd j) 2 = 0 then (Wd j) 1 else 0) _) (cwV 1 hts gX0_passYear_X0_payOut rfl rfl rfl (by decide +kernel) ⟨Nat.le_of_ble_eq_true rfl, Nat.le_of_ble_eq_true rfl⟩) hKK hP hD 0 3 rfl rfl rfl hl.1 (Nat.le_of_ble_eq_true rfl) rfl dX0_passYear_59 ⟨Nat.zero_le _, Nat.zero_le _⟩) hD hS hA (fun H locs hP hD hS => ?_)
          have hP : va_P (dC, dI) vwCl (tab cI X d r ++ (bk cW X Bk n ((intS (r 0) ch - sm (dueF Wd) j) - (if (Wd j) 2 = 0 then (Wd j) 1 else 0)) ((pd + sm (dueF Wd) j) + (if (Wd j) 2 = 0 then (Wd j) 1 else 0)) pr yr (upW (yW j Wd) j (yearW (Wd j))) ++ R)) H := hP
          have hD : va_D A (tab cI X d r ++ (bk cW X Bk n ((intS (r 0) ch - sm (dueF Wd) j) - (if (Wd j) 2 = 0 then (Wd j) 1 else 0)) ((pd + sm (dueF Wd) j) + (if (Wd j) 2 = 0 then (Wd j) 1 else 0)) pr yr (upW (yW j Wd) j (yearW (Wd j))) ++ R)) := hD
          refine lv_iinc (v := (nI (j + 1))) (lv' := [(1, .int (nI (j + 1))), (2, .ref (Bk (j + 2))), (0, .ref (Bk 0))]) hx hb dX0_passYear_62 hl (k := 1) rfl (nI_1 j) (by decide) rfl (fun ls hl => ?_)
          refine lv_goto (tgt := 33) hx hb dX0_passYear_65 (by decide) ?_
          have hP : va_P (dC, dI) vwCl (tab cI X d r ++ (bk cW X Bk n (intS (r 0) ch - sm (dueF Wd) (j + 1)) (pd + sm (dueF Wd) (j + 1)) pr yr (yW (j + 1) Wd) ++ R)) H := by rw [yW_yes hal, due_yes hal, ← i_assoc_sub, ← i_assoc_add]; exact hP
          have hD : va_D A (tab cI X d r ++ (bk cW X Bk n (intS (r 0) ch - sm (dueF Wd) (j + 1)) (pd + sm (dueF Wd) (j + 1)) pr yr (yW (j + 1) Wd) ++ R)) := by rw [yW_yes hal, due_yes hal, ← i_assoc_sub, ← i_assoc_add]; exact hD
          exact ih (j + 1) (by omega) H locs hP hD hS ls (lv_sub hl [0, 2] rfl)
  refine lv_aload_n hx hb dX0_passYear_0 rfl (lv_at hl 0 rfl) ?_
  refine va_get (D := (dC, dI)) (ci := 0) (v := .int ch) (C := RX0) (T := TX0) (N := 7) hx hb hts (by decide +kernel) hown hKK.1 hP 3 rfl rfl 3 (by decide) (hts (.fieldLink RX0 41 "WidowPennies$Book" "chest" "I") (by decide +kernel)) (fun _ h9 => h9) rfl dX0_passYear_1 ?_
  refine lv_if_le (tgt := 31) hx hb dX0_passYear_4 (by decide) (fun c_1 => ?_) (fun c_1 => ?_)
  · refine lv_iconst (v := 0) hx hb dX0_passYear_31 (by decide) ?_
    refine lv_istore_n (lv' := [(1, .int 0), (0, .ref (Bk 0))]) hx hb dX0_passYear_32 rfl hl (by decide) rfl (fun ls hl => ?_)
    have e1 : intS (r 0) ch = ch := by rw [intS, if_neg (Int32.not_lt.mpr c_1)]
    have hP : va_P (dC, dI) vwCl (tab cI X d r ++ (bk cW X Bk n (intS (r 0) ch - sm (dueF Wd) 0) (pd + sm (dueF Wd) 0) pr yr (yW 0 Wd) ++ R)) s.heap := by rw [yW_0, e1, sm, Int32.sub_zero, Int32.add_zero]; exact hP
    have hD : va_D A (tab cI X d r ++ (bk cW X Bk n (intS (r 0) ch - sm (dueF Wd) 0) (pd + sm (dueF Wd) 0) pr yr (yW 0 Wd) ++ R)) := by rw [yW_0, e1, sm, Int32.sub_zero, Int32.add_zero]; exact hD
    exact key n 0 (by omega) _ _ hP hD hS ls (lv_sub hl [0, 1] rfl)
  · refine lv_aload_n hx hb dX0_passYear_7 rfl (lv_at hl 0 rfl) ?_
    refine lv_aload_n hx hb dX0_passYear_8 rfl (lv_at hl 0 rfl) ?_
    refine va_get (D := (dC, dI)) (ci := 0) (v := .int ch) (C := RX0) (T := TX0) (N := 7) hx hb hts (by decide +kernel) hown hKK.1 hP 3 rfl rfl 3 (by decide) (hts (.fieldLink RX0 41 "WidowPennies$Book" "chest" "I") (by decide +kernel)) (fun _ h9 => h9) rfl dX0_passYear_9 ?_
    refine lv_i2l hx hb dX0_passYear_12 rfl ?_
    refine lv_aload_n hx hb dX0_passYear_13 rfl (lv_at hl 0 rfl) ?_
    refine va_get (D := (dC, dI)) (ci := 0) (v := .ref (X 1)) (C := RX0) (T := TX0) (N := 7) hx hb hts (by decide +kernel) hown hKK.1 hP 3 rfl rfl 0 (by decide) (hts (.fieldLink RX0 9 "WidowPennies$Book" "tables" "LWidowPennies$Tables;") (by decide +kernel)) (fun _ h9 => h9) rfl dX0_passYear_14 ?_
    refine lv_iconst (v := 0) hx hb dX0_passYear_17 (by decide) ?_
    refine rd_i (runV0 (As := [.int 0]) (rest := [.long ch.toInt64, .ref (Bk 0)]) ⟨hx, hb, hml, hown, hts⟩ (met_X1_rate l dC dI cI cW X d r 0 (by omega)) (cwV 1 hts gX0_passYear_X1_rate rfl rfl rfl (by decide +kernel) ⟨Nat.le_of_ble_eq_true rfl, Nat.le_of_ble_eq_true rfl⟩) hKK (ws_left hP) 1 0 rfl rfl rfl hl.1 (Nat.le_of_ble_eq_true rfl) rfl dX0_passYear_18 ⟨Nat.zero_le _, Nat.zero_le _⟩) (fun r_2 hr_2 => ?_)
    subst hr_2
    refine lv_i2l hx hb dX0_passYear_21 rfl ?_
    refine lv_lmul hx hb dX0_passYear_22 ?_
    refine lv_ldc2 (v := 1000) hx hb hown (hts (.constantLong RX0 64 1000) (by decide +kernel)) dX0_passYear_23 ?_
    refine lv_ldiv hx hb dX0_passYear_26 (by decide) ?_
    refine lv_l2i hx hb dX0_passYear_27 rfl ?_
    refine wr_v (runV1 (As := [.int (((ch.toInt64 * ((r 0).toInt64)) / 1000).toInt32)]) (rest := []) ⟨hx, hb, hml, hown, hts⟩ (met_X0_takeIn l dC dI cI cW X Bk d r n ch pd pr yr Wd R (((ch.toInt64 * ((r 0).toInt64)) / 1000).toInt32) _) (cwV 1 hts gX0_passYear_X0_takeIn rfl rfl rfl (by decide +kernel) ⟨Nat.le_of_ble_eq_true rfl, Nat.le_of_ble_eq_true rfl⟩) hKK hP hD 0 3 rfl rfl rfl hl.1 (Nat.le_of_ble_eq_true rfl) rfl dX0_passYear_28 ⟨Nat.zero_le _, Nat.zero_le _⟩) hD hS hA (fun H locs hP hD hS => ?_)
    have hP : va_P (dC, dI) vwCl (tab cI X d r ++ (bk cW X Bk n (takeS ch (((ch.toInt64 * ((r 0).toInt64)) / 1000).toInt32)) pd pr yr Wd ++ R)) H := hP
    have hD : va_D A (tab cI X d r ++ (bk cW X Bk n (takeS ch (((ch.toInt64 * ((r 0).toInt64)) / 1000).toInt32)) pd pr yr Wd ++ R)) := hD
    refine lv_iconst (v := 0) hx hb dX0_passYear_31 (by decide) ?_
    refine lv_istore_n (lv' := [(1, .int 0), (0, .ref (Bk 0))]) hx hb dX0_passYear_32 rfl hl (by decide) rfl (fun ls hl => ?_)
    have e1 : intS (r 0) ch = takeS ch (((ch.toInt64 * ((r 0).toInt64)) / 1000).toInt32) := by rw [intS, if_pos (Int32.not_le.mp c_1)]
    have hP : va_P (dC, dI) vwCl (tab cI X d r ++ (bk cW X Bk n (intS (r 0) ch - sm (dueF Wd) 0) (pd + sm (dueF Wd) 0) pr yr (yW 0 Wd) ++ R)) H := by rw [yW_0, e1, sm, Int32.sub_zero, Int32.add_zero]; exact hP
    have hD : va_D A (tab cI X d r ++ (bk cW X Bk n (intS (r 0) ch - sm (dueF Wd) 0) (pd + sm (dueF Wd) 0) pr yr (yW 0 Wd) ++ R)) := by rw [yW_0, e1, sm, Int32.sub_zero, Int32.add_zero]; exact hD
    exact key n 0 (by omega) _ _ hP hD hS ls (lv_sub hl [0, 1] rfl)
set_option maxHeartbeats 4000000 in
set_option maxRecDepth 100000 in
theorem met_X0_passYears (l : Launch) (dC : Nat → ClassId) (dI : Nat → Nat → Nat) (cI cW : ClassId) (X Bk : Nat → Nat) (d r : Nat → Int32) (n : Nat) (ch pd pr yr : Int32) (Wd : Nat → Nat → Int32) (R : va_W) (hn : n ≤ 10) (hok : ∀ k, k < n → okW (Wd k)) (hi : ¬ (1000 : Int32) + r 0 = 0) (hi0 : ¬ r 0 < 0) (y : Nat) (hy : y < 1000) (sz : Nat) : Met l yX0_passYears wsX0_passYears ({ frames := 2, cells := 0, slots := 0, locals := 44 }) (Pre1 dC dI cI cW [.ref (Bk 0), .int (nI y)] (tab cI X d r ++ (bk cW X Bk n ch pd pr yr Wd ++ R)) sz) (Qv1 dC dI (tab cI X d r ++ (bk cW X Bk n ch pd pr yr Wd ++ R)) (tab cI X d r ++ (bk cW X Bk n ((yIter (r 0) n y (ch, pd, yr, Wd)).1) ((yIter (r 0) n y (ch, pd, yr, Wd)).2.1) pr ((yIter (r 0) n y (ch, pd, yr, Wd)).2.2.1) ((yIter (r 0) n y (ch, pd, yr, Wd)).2.2.2) ++ R)) sz) 0 0 (va_A (tab cI X d r ++ (bk cW X Bk n ch pd pr yr Wd ++ R)) sz) := by
  refine Met.ofW (cc := cX0_passYears) (maxL := 3) (ret := none) (by decide) rfl ?_
  intro p e s m args below meth c s₁ B hml hv
  obtain ⟨rfl, hsz, hP, hD0, hKK⟩ := hv
  subst hsz
  have hx := B.exec
  have hb := B.bytes
  have hr := B.returns
  have hts := atoms_spec (ws := wsX0_passYears) B.pre
  have hown : s.vm.findClass RX0 = some m.cls := findClass_of_methodNamed B.named
  have hlocks := B.notSynchronized
  have hD := hD0.self (sz := s.heap.size)
  generalize hAe : va_A (tab cI X d r ++ (bk cW X Bk n ch pd pr yr Wd ++ R)) s.heap.size = A at hD ⊢
  have hA : ∀ q : Nat, s.heap.size ≤ q → A q := fun q h => by rw [← hAe]; exact Or.inr h
  have hS : va_S A s.heap s.heap [] := va_S.rf
  have hl := lv_entry ([.ref (Bk 0), .int (nI y)]) (n := 3) (Nat.le_of_ble_eq_true rfl)
  rw [lg_entry_eq]
  generalize (lg_sl ([.ref (Bk 0), .int (nI y)]) ++ List.replicate (3 - (lg_sl ([.ref (Bk 0), .int (nI y)])).length) Slot.unset).toArray = ls at hl ⊢
  have hl : lv_has ls 3 [(0, .ref (Bk 0)), (1, .int (nI y))] := hl
  have key : ∀ (m9 j : Nat), j + m9 = y → ∀ (H : Heap) (locs : List Loc), va_P (dC, dI) vwCl (tab cI X d r ++ (bk cW X Bk n ((yIter (r 0) n j (ch, pd, yr, Wd)).1) ((yIter (r 0) n j (ch, pd, yr, Wd)).2.1) pr ((yIter (r 0) n j (ch, pd, yr, Wd)).2.2.1) ((yIter (r 0) n j (ch, pd, yr, Wd)).2.2.2) ++ R)) H → va_D A (tab cI X d r ++ (bk cW X Bk n ((yIter (r 0) n j (ch, pd, yr, Wd)).1) ((yIter (r 0) n j (ch, pd, yr, Wd)).2.1) pr ((yIter (r 0) n j (ch, pd, yr, Wd)).2.2.1) ((yIter (r 0) n j (ch, pd, yr, Wd)).2.2.2) ++ R)) → va_S A s.heap H locs → ∀ ls : Array Slot, lv_has ls 3 [(2, .int (nI j)), (0, .ref (Bk 0)), (1, .int (nI y))] → W p l e (headSpec wsX0_passYears ({ frames := 2, cells := 0, slots := 0, locals := 44 })).room s m (([.ref (Bk 0), .int (nI y)] : List Value).toArray) below meth c H locs 0 0 (MQ below (Qv1 dC dI (tab cI X d r ++ (bk cW X Bk n ch pd pr yr Wd ++ R)) (tab cI X d r ++ (bk cW X Bk n ((yIter (r 0) n y (ch, pd, yr, Wd)).1) ((yIter (r 0) n y (ch, pd, yr, Wd)).2.1) pr ((yIter (r 0) n y (ch, pd, yr, Wd)).2.2.1) ((yIter (r 0) n y (ch, pd, yr, Wd)).2.2.2) ++ R)) s.heap.size) ([.ref (Bk 0), .int (nI y)] : List Value).toArray s 0 0 A) (F0 m 2 ls []) := by
    intro m9
    induction m9 with
    | zero =>
      intro j hj H locs hP hD hS ls hl
      have hjn : j = y := by omega
      subst hjn
      refine lv_iload_n hx hb dX0_passYears_2 rfl (lv_at hl 0 rfl) ?_
      refine lv_iload_n hx hb dX0_passYears_3 rfl (lv_at hl 2 rfl) ?_
      refine lv_icmp_ge (tgt := 17) hx hb dX0_passYears_4 (by decide) (fun c_1 => ?_) (fun c_1 => ?_)
      · have hP9 : va_P (dC, dI) vwCl (tab cI X d r ++ (bk cW X Bk n ((yIter (r 0) n j (ch, pd, yr, Wd)).1) ((yIter (r 0) n j (ch, pd, yr, Wd)).2.1) pr ((yIter (r 0) n j (ch, pd, yr, Wd)).2.2.1) ((yIter (r 0) n j (ch, pd, yr, Wd)).2.2.2) ++ R)) _ := hP
        have hD9 : va_D A (tab cI X d r ++ (bk cW X Bk n ((yIter (r 0) n j (ch, pd, yr, Wd)).1) ((yIter (r 0) n j (ch, pd, yr, Wd)).2.1) pr ((yIter (r 0) n j (ch, pd, yr, Wd)).2.2.1) ((yIter (r 0) n j (ch, pd, yr, Wd)).2.2.2) ++ R)) := hD
        exact W.vret hx hb hr (fun t ht hW => ⟨⟨(), rfl, trivial, by rw [ht]; exact hP9, by rw [hAe]; exact hD9⟩, by rw [hAe]; exact hS.F ht⟩) hS.2.2 dX0_passYears_17
      · exact absurd (Int32.le_refl _) c_1
    | succ m9 ih =>
      intro j hj H locs hP hD hS ls hl
      refine lv_iload_n hx hb dX0_passYears_2 rfl (lv_at hl 0 rfl) ?_
      refine lv_iload_n hx hb dX0_passYears_3 rfl (lv_at hl 2 rfl) ?_
      refine lv_icmp_ge (tgt := 17) hx hb dX0_passYears_4 (by decide) (fun c_1 => ?_) (fun c_1 => ?_)
      · exact absurd c_1 (fun q => absurd ((le_nI (by omega)).mp q) (by omega))
      · refine lv_aload_n hx hb dX0_passYears_7 rfl (lv_at hl 1 rfl) ?_
        refine wr_v (runV1 (As := []) (rest := []) ⟨hx, hb, hml, hown, hts⟩ (met_X0_passYear l dC dI cI cW X Bk d r n ((yIter (r 0) n j (ch, pd, yr, Wd)).1) ((yIter (r 0) n j (ch, pd, yr, Wd)).2.1) pr ((yIter (r 0) n j (ch, pd, yr, Wd)).2.2.1) ((yIter (r 0) n j (ch, pd, yr, Wd)).2.2.2) R hn (okW_iter (S := (ch, pd, yr, Wd)) hok j) hi hi0 _) (cwV 0 hts gX0_passYears_X0_passYear rfl rfl rfl (by decide +kernel) ⟨Nat.le_of_ble_eq_true rfl, Nat.le_of_ble_eq_true rfl⟩) hKK hP hD 0 3 rfl rfl rfl hl.1 (Nat.le_of_ble_eq_true rfl) rfl dX0_passYears_8 ⟨Nat.zero_le _, Nat.zero_le _⟩) hD hS hA (fun H locs hP hD hS => ?_)
        have hP : va_P (dC, dI) vwCl (tab cI X d r ++ (bk cW X Bk n (intS (r 0) ((yIter (r 0) n j (ch, pd, yr, Wd)).1) - sm (dueF ((yIter (r 0) n j (ch, pd, yr, Wd)).2.2.2)) n) (((yIter (r 0) n j (ch, pd, yr, Wd)).2.1) + sm (dueF ((yIter (r 0) n j (ch, pd, yr, Wd)).2.2.2)) n) pr (((yIter (r 0) n j (ch, pd, yr, Wd)).2.2.1) + 1) (yW n ((yIter (r 0) n j (ch, pd, yr, Wd)).2.2.2)) ++ R)) H := hP
        have hD : va_D A (tab cI X d r ++ (bk cW X Bk n (intS (r 0) ((yIter (r 0) n j (ch, pd, yr, Wd)).1) - sm (dueF ((yIter (r 0) n j (ch, pd, yr, Wd)).2.2.2)) n) (((yIter (r 0) n j (ch, pd, yr, Wd)).2.1) + sm (dueF ((yIter (r 0) n j (ch, pd, yr, Wd)).2.2.2)) n) pr (((yIter (r 0) n j (ch, pd, yr, Wd)).2.2.1) + 1) (yW n ((yIter (r 0) n j (ch, pd, yr, Wd)).2.2.2)) ++ R)) := hD
        refine lv_iinc (v := (nI (j + 1))) (lv' := [(2, .int (nI (j + 1))), (0, .ref (Bk 0)), (1, .int (nI y))]) hx hb dX0_passYears_11 hl (k := 0) rfl (nI_1 j) (by decide) rfl (fun ls hl => ?_)
        refine lv_goto (tgt := 2) hx hb dX0_passYears_14 (by decide) ?_
        exact ih (j + 1) (by omega) H locs hP hD hS ls (lv_sub hl [0, 1, 2] rfl)
  refine lv_iconst (v := 0) hx hb dX0_passYears_0 (by decide) ?_
  refine lv_istore_n (lv' := [(2, .int 0), (0, .ref (Bk 0)), (1, .int (nI y))]) hx hb dX0_passYears_1 rfl hl (by decide) rfl (fun ls hl => ?_)
  exact key y 0 (by omega) _ _ hP hD hS ls (lv_sub hl [0, 1, 2] rfl)
