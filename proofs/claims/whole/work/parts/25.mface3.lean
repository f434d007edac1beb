theorem nI_neg1 {j : Nat} (h : j < 2147483648) : nI j ≠ -1 := by
  intro q
  have h1 : 0 ≤ nI j := (le_nI (a := 0) (by omega)).mpr (Nat.zero_le _)
  rw [q] at h1
  exact absurd h1 (by decide)
set_option maxHeartbeats 4000000 in
set_option maxRecDepth 100000 in
theorem met70_X4_copy (l : Launch) (dC : Nat → ClassId) (dI : Nat → Nat → Nat) (cI cW : ClassId) (ws : va_W) (q0 a : Nat) (f : Nat → Int32) (ha : ws[q0]? = some (a, .inl (cI, 70, .inl f))) (sz : Nat) : Met l yX4_copy wsX4_copy ({ frames := 1, cells := 1, slots := 70, locals := 64 }) (Pre1 dC dI cI cW [.ref a] ws sz) (Qr1 dC dI cI ws 70 f sz) 1 70 (va_A ws sz) := by
  refine Met.ofW (cc := cX4_copy) (maxL := 2) (ret := (some (.array .int))) (by decide) rfl ?_
  intro p e s m args below meth c s₁ B hml hv
  obtain ⟨rfl, hsz, hP, hD0, hKK⟩ := hv
  subst hsz
  have hx := B.exec
  have hb := B.bytes
  have hr := B.returns
  have hts := atoms_spec (ws := wsX4_copy) B.pre
  have hown : s.vm.findClass RX4 = some m.cls := findClass_of_methodNamed B.named
  have hlocks := B.notSynchronized
  have hD := hD0.self (sz := s.heap.size)
  generalize hAe : va_A ws s.heap.size = A at hD ⊢
  have hA : ∀ q : Nat, s.heap.size ≤ q → A q := fun q h => by rw [← hAe]; exact Or.inr h
  have hS : va_S A s.heap s.heap [] := va_S.rf
  have hl := lv_entry ([.ref a]) (n := 2) (Nat.le_of_ble_eq_true rfl)
  rw [lg_entry_eq]
  generalize (lg_sl ([.ref a]) ++ List.replicate (2 - (lg_sl ([.ref a])).length) Slot.unset).toArray = ls at hl ⊢
  have hl : lv_has ls 2 [(0, .ref a)] := hl
  refine lv_aload_n hx hb dX4_copy_0 rfl (lv_at hl 0 rfl) ?_
  refine va_alen hx hb hKK.1 hP q0 0 ha rfl (v := 70) rfl dX4_copy_1 ?_
  refine va_newa (atype := .int) (ty := .int) (a0 := (70, .inl (fun _ => 0))) (N' := 70) hx hb (hts (.arrayClass .int) (by decide +kernel)) rfl hKK.1 hP hD hS hA (fun _ => rfl) (by decide) rfl (by decide) (Nat.le_of_ble_eq_true rfl) (Nat.le_of_ble_eq_true rfl) dX4_copy_2 (fun q7 cA H hK2 hP hD hS => ?_)
  have hcA := cls_int hK2
  rw [hcA] at hP hD
  refine lv_astore_n (lv' := [(1, .ref q7), (0, .ref a)]) hx hb dX4_copy_4 rfl hl (by decide) rfl (fun ls hl => ?_)
  refine lv_aload_n hx hb dX4_copy_5 rfl (lv_at hl 1 rfl) ?_
  refine lv_iconst (v := 0) hx hb dX4_copy_6 (by decide) ?_
  refine lv_aload_n hx hb dX4_copy_7 rfl (lv_at hl 0 rfl) ?_
  refine lv_iconst (v := 0) hx hb dX4_copy_8 (by decide) ?_
  refine lv_aload_n hx hb dX4_copy_9 rfl (lv_at hl 1 rfl) ?_
  refine va_alen hx hb hKK.1 hP q0 0 (snoc_l ha) rfl (v := 70) rfl dX4_copy_10 ?_
  refine va_copyi hx hb (hml.trans hl.1.symm) hown (hts (.methodLink RX4 91 arraycopyName) (by decide +kernel)) (hts (.native arraycopyName) (by decide +kernel)) (hts (.static arraycopyName) (by decide +kernel)) (hts (.initialized "java/lang/System") (by decide +kernel)) hKK.1 hP hD hS q0 ws.length 0 0 (snoc_l ha) snoc_at rfl rfl rfl (by decide) (by decide) (by decide) (by decide) (by decide) (fun _ _ => rfl) (Nat.le_of_ble_eq_true rfl) (Nat.le_of_ble_eq_true rfl) dX4_copy_11 (fun H locs hP hD hS => ?_)
  rw [show (0 : Int32).toNatClampNeg = 0 from rfl, show (70 : Int32).toNatClampNeg = 70 from rfl] at hP hD
  have hP := snoc_to hP
  have hD := snoc_toD (f := f) hD
  refine lv_aload_n hx hb dX4_copy_14 rfl (lv_at hl 0 rfl) ?_
  exact W.aret (v := .ref q7) hx hb hr (Or.inr ⟨_, rfl⟩) (Or.inr ⟨_, rfl⟩) (fun t ht hW => ⟨⟨(), _, rfl, trivial, by rw [ht]; exact hP, by rw [hAe]; exact hD⟩, by rw [hAe]; exact hS.F ht⟩) hS.2.2 dX4_copy_15
set_option maxHeartbeats 4000000 in
set_option maxRecDepth 100000 in
theorem met3_X4_copy (l : Launch) (dC : Nat → ClassId) (dI : Nat → Nat → Nat) (cI cW : ClassId) (ws : va_W) (q0 a : Nat) (f : Nat → Int32) (ha : ws[q0]? = some (a, .inl (cI, 3, .inl f))) (sz : Nat) : Met l yX4_copy wsX4_copy ({ frames := 1, cells := 1, slots := 3, locals := 64 }) (Pre1 dC dI cI cW [.ref a] ws sz) (Qr1 dC dI cI ws 3 f sz) 1 3 (va_A ws sz) := by
  refine Met.ofW (cc := cX4_copy) (maxL := 2) (ret := (some (.array .int))) (by decide) rfl ?_
  intro p e s m args below meth c s₁ B hml hv
  obtain ⟨rfl, hsz, hP, hD0, hKK⟩ := hv
  subst hsz
  have hx := B.exec
  have hb := B.bytes
  have hr := B.returns
  have hts := atoms_spec (ws := wsX4_copy) B.pre
  have hown : s.vm.findClass RX4 = some m.cls := findClass_of_methodNamed B.named
  have hlocks := B.notSynchronized
  have hD := hD0.self (sz := s.heap.size)
  generalize hAe : va_A ws s.heap.size = A at hD ⊢
  have hA : ∀ q : Nat, s.heap.size ≤ q → A q := fun q h => by rw [← hAe]; exact Or.inr h
  have hS : va_S A s.heap s.heap [] := va_S.rf
  have hl := lv_entry ([.ref a]) (n := 2) (Nat.le_of_ble_eq_true rfl)
  rw [lg_entry_eq]
  generalize (lg_sl ([.ref a]) ++ List.replicate (2 - (lg_sl ([.ref a])).length) Slot.unset).toArray = ls at hl ⊢
  have hl : lv_has ls 2 [(0, .ref a)] := hl
  refine lv_aload_n hx hb dX4_copy_0 rfl (lv_at hl 0 rfl) ?_
  refine va_alen hx hb hKK.1 hP q0 0 ha rfl (v := 3) rfl dX4_copy_1 ?_
  refine va_newa (atype := .int) (ty := .int) (a0 := (3, .inl (fun _ => 0))) (N' := 3) hx hb (hts (.arrayClass .int) (by decide +kernel)) rfl hKK.1 hP hD hS hA (fun _ => rfl) (by decide) rfl (by decide) (Nat.le_of_ble_eq_true rfl) (Nat.le_of_ble_eq_true rfl) dX4_copy_2 (fun q7 cA H hK2 hP hD hS => ?_)
  have hcA := cls_int hK2
  rw [hcA] at hP hD
  refine lv_astore_n (lv' := [(1, .ref q7), (0, .ref a)]) hx hb dX4_copy_4 rfl hl (by decide) rfl (fun ls hl => ?_)
  refine lv_aload_n hx hb dX4_copy_5 rfl (lv_at hl 1 rfl) ?_
  refine lv_iconst (v := 0) hx hb dX4_copy_6 (by decide) ?_
  refine lv_aload_n hx hb dX4_copy_7 rfl (lv_at hl 0 rfl) ?_
  refine lv_iconst (v := 0) hx hb dX4_copy_8 (by decide) ?_
  refine lv_aload_n hx hb dX4_copy_9 rfl (lv_at hl 1 rfl) ?_
  refine va_alen hx hb hKK.1 hP q0 0 (snoc_l ha) rfl (v := 3) rfl dX4_copy_10 ?_
  refine va_copyi hx hb (hml.trans hl.1.symm) hown (hts (.methodLink RX4 91 arraycopyName) (by decide +kernel)) (hts (.native arraycopyName) (by decide +kernel)) (hts (.static arraycopyName) (by decide +kernel)) (hts (.initialized "java/lang/System") (by decide +kernel)) hKK.1 hP hD hS q0 ws.length 0 0 (snoc_l ha) snoc_at rfl rfl rfl (by decide) (by decide) (by decide) (by decide) (by decide) (fun _ _ => rfl) (Nat.le_of_ble_eq_true rfl) (Nat.le_of_ble_eq_true rfl) dX4_copy_11 (fun H locs hP hD hS => ?_)
  rw [show (0 : Int32).toNatClampNeg = 0 from rfl, show (3 : Int32).toNatClampNeg = 3 from rfl] at hP hD
  have hP := snoc_to hP
  have hD := snoc_toD (f := f) hD
  refine lv_aload_n hx hb dX4_copy_14 rfl (lv_at hl 0 rfl) ?_
  exact W.aret (v := .ref q7) hx hb hr (Or.inr ⟨_, rfl⟩) (Or.inr ⟨_, rfl⟩) (fun t ht hW => ⟨⟨(), _, rfl, trivial, by rw [ht]; exact hP, by rw [hAe]; exact hD⟩, by rw [hAe]; exact hS.F ht⟩) hS.2.2 dX4_copy_15
set_option maxHeartbeats 4000000 in
set_option maxRecDepth 100000 in
theorem met_X4_foresee (l : Launch) (dC : Nat → ClassId) (dI : Nat → Nat → Nat) (cI cW : ClassId) (M : Nat → Nat) (th : Int32) (n : Nat) (d r : Nat → Int32) (Wd : Nat → Nat → Int32) (ch pd yr : Int32) (R : va_W) (hn : n ≤ 10) (hok : ∀ k, k < n → okW (Wd k)) (y k : Nat) (h1 : 1 ≤ y) (h2 : y ≤ 50) (h3 : 2 ≤ k) (h4 : k ≤ 7) (hI : ∀ j, j < y → intS (r 0) (yIter (r 0) n j (ch, pd, yr, Wd)).1 = (if 0 < (yIter (r 0) n j (ch, pd, yr, Wd)).1 then comeS (yIter (r 0) n j (ch, pd, yr, Wd)).1 ((yIter (r 0) n j (ch, pd, yr, Wd)).1.toInt64 * (r 0).toInt64 / 1000) else (yIter (r 0) n j (ch, pd, yr, Wd)).1)) (sz : Nat) : Met l yX4_foresee wsX4_foresee ({ frames := 5, cells := 2, slots := 73, locals := 109 }) (Pre1 dC dI cI cW [.ref (M 0), .int (nI y), .int (nI k)] (mw cI M th n d r Wd ch pd yr (WT d (r 0)) ++ R) sz) (QiM dC dI (fun z => z = countS d r n (yIter (r 0) n y (ch, pd, yr, Wd)).1 (yIter (r 0) n y (ch, pd, yr, Wd)).2.1 (sm (prcF (yIter (r 0) n y (ch, pd, yr, Wd)).2.2.2) n) (yIter (r 0) n y (ch, pd, yr, Wd)).2.2.1 (yIter (r 0) n y (ch, pd, yr, Wd)).2.2.2 k) (mw cI M th n d r Wd ch pd yr (WT d (r 0)) ++ R) (fun u => mw cI (M34 M u) 0 n d r Wd ch pd yr (WT d (r 0)) ++ R) sz) 2 73 (va_A (mw cI M th n d r Wd ch pd yr (WT d (r 0)) ++ R) sz) := by
  refine Met.ofW (cc := cX4_foresee) (maxL := 6) (ret := (some .int)) (by decide) rfl ?_
  intro p e s m args below meth c s₁ B hml hv
  obtain ⟨rfl, hsz, hP, hD0, hKK⟩ := hv
  subst hsz
  have hx := B.exec
  have hb := B.bytes
  have hr := B.returns
  have hts := atoms_spec (ws := wsX4_foresee) B.pre
  have hown : s.vm.findClass RX4 = some m.cls := findClass_of_methodNamed B.named
  have hlocks := B.notSynchronized
  have hD := hD0.self (sz := s.heap.size)
  generalize hAe : va_A (mw cI M th n d r Wd ch pd yr (WT d (r 0)) ++ R) s.heap.size = A at hD ⊢
  have hA : ∀ q : Nat, s.heap.size ≤ q → A q := fun q h => by rw [← hAe]; exact Or.inr h
  have hS : va_S A s.heap s.heap [] := va_S.rf
  have hl := lv_entry ([.ref (M 0), .int (nI y), .int (nI k)]) (n := 6) (Nat.le_of_ble_eq_true rfl)
  rw [lg_entry_eq]
  generalize (lg_sl ([.ref (M 0), .int (nI y), .int (nI k)]) ++ List.replicate (6 - (lg_sl ([.ref (M 0), .int (nI y), .int (nI k)])).length) Slot.unset).toArray = ls at hl ⊢
  have hl : lv_has ls 6 [(0, .ref (M 0)), (1, .int (nI y)), (2, .int (nI k))] := hl
  refine lv_aload_n hx hb dX4_foresee_0 rfl (lv_at hl 0 rfl) ?_
  refine lv_iconst (v := 0) hx hb dX4_foresee_1 (by decide) ?_
  refine va_put (D := (dC, dI)) (ci := 4) (v := .int 0) (ty := .int) (C := RX4) (T := TX4) (N := 7) hx hb hts (by decide +kernel) tyX4 tyX4_ok nmX4 hown hKK.1 hP hD hS 0 rfl rfl 0 (by decide) (hts (.fieldLink RX4 28 "WidowPenniesModel" "thrown" "I") (by decide +kernel)) (fun _ h9 => h9) rfl (by decide +kernel) rfl rfl (Nat.le_of_ble_eq_true rfl) dX4_foresee_2 (fun H locs hP hD hS => ?_)
  have hP : va_P (dC, dI) vwCl (mw cI M 0 n d r Wd ch pd yr (WT d (r 0)) ++ R) H := hP
  have hD : va_D A (mw cI M 0 n d r Wd ch pd yr (WT d (r 0)) ++ R) := hD
  refine lv_iload_n hx hb dX4_foresee_5 rfl (lv_at hl 1 rfl) ?_
  refine lv_iconst (v := 1) hx hb dX4_foresee_6 (by decide) ?_
  refine lv_bipush (v := 50) hx hb dX4_foresee_7 (by decide) ?_
  refine rd_i (runS0 (As := [.int (nI y), .int 1, .int 50]) (rest := []) ⟨hx, hb, hml, hown, hts⟩ (met_X4_isIn l dC dI cI cW (nI y) 1 50) (va_cwS 3 hts gX4_foresee_X4_isIn rfl rfl rfl (by decide +kernel) ⟨Nat.le_of_ble_eq_true rfl, Nat.le_of_ble_eq_true rfl⟩) hKK nilP rfl hl.1 (Nat.le_of_ble_eq_true rfl) rfl dX4_foresee_9 ⟨Nat.le_of_ble_eq_true rfl, Nat.le_of_ble_eq_true rfl⟩) (fun r_1 hr_1 => ?_)
  subst hr_1
  refine lv_if_ne (tgt := 21) hx hb dX4_foresee_12 (by decide) (fun c_2 => ?_) (fun c_2 => ?_)
  · have bc_2 : 1 ≤ (nI y) ∧ (nI y) ≤ 50 := b1.mp c_2
    refine lv_iload_n hx hb dX4_foresee_21 rfl (lv_at hl 2 rfl) ?_
    refine lv_iconst (v := 2) hx hb dX4_foresee_22 (by decide) ?_
    refine lv_bipush (v := 7) hx hb dX4_foresee_23 (by decide) ?_
    refine rd_i (runS0 (As := [.int (nI k), .int 2, .int 7]) (rest := []) ⟨hx, hb, hml, hown, hts⟩ (met_X4_isIn l dC dI cI cW (nI k) 2 7) (va_cwS 3 hts gX4_foresee_X4_isIn rfl rfl rfl (by decide +kernel) ⟨Nat.le_of_ble_eq_true rfl, Nat.le_of_ble_eq_true rfl⟩) hKK nilP rfl hl.1 (Nat.le_of_ble_eq_true rfl) rfl dX4_foresee_25 ⟨Nat.le_of_ble_eq_true rfl, Nat.le_of_ble_eq_true rfl⟩) (fun r_3 hr_3 => ?_)
    subst hr_3
    refine lv_if_ne (tgt := 37) hx hb dX4_foresee_28 (by decide) (fun c_4 => ?_) (fun c_4 => ?_)
    · have bc_4 : 2 ≤ (nI k) ∧ (nI k) ≤ 7 := b1.mp c_4
      refine lv_aload_n hx hb dX4_foresee_37 rfl (lv_at hl 0 rfl) ?_
      refine va_get (D := (dC, dI)) (ci := 4) (v := .ref (M 3)) (C := RX4) (T := TX4) (N := 7) hx hb hts (by decide +kernel) hown hKK.1 hP 0 rfl rfl 4 (by decide) (hts (.fieldLink RX4 16 "WidowPenniesModel" "rows" "[I") (by decide +kernel)) (fun _ h9 => h9) rfl dX4_foresee_38 ?_
      refine wr_r (runS1 (As := [.ref (M 3)]) (rest := []) ⟨hx, hb, hml, hown, hts⟩ (met70_X4_copy l dC dI cI cW (mw cI M 0 n d r Wd ch pd yr (WT d (r 0)) ++ R) 3 (M 3) (rowsF Wd) rfl _) (va_cwS 1 hts gX4_foresee_X4_copy rfl rfl rfl (by decide +kernel) ⟨Nat.le_of_ble_eq_true rfl, Nat.le_of_ble_eq_true rfl⟩) hKK hP hD rfl hl.1 (Nat.le_of_ble_eq_true rfl) rfl dX4_foresee_41 ⟨Nat.le_of_ble_eq_true rfl, Nat.le_of_ble_eq_true rfl⟩) hD hS hA (fun u1 H locs hP hD hS => ?_)
      have hP := va_P_perm (perm_tail (mw cI M 0 n d r Wd ch pd yr (WT d (r 0))) R (u1, .inl (cI, 70, .inl (rowsF Wd)))) hP
      have hD := va_D_perm (perm_tail (mw cI M 0 n d r Wd ch pd yr (WT d (r 0))) R (u1, .inl (cI, 70, .inl (rowsF Wd)))) hD
      have hP : va_P (dC, dI) vwCl (mw cI M 0 n d r Wd ch pd yr (WT d (r 0)) ++ ((u1, .inl (cI, 70, .inl (rowsF Wd))) :: R)) H := hP
      have hD : va_D A (mw cI M 0 n d r Wd ch pd yr (WT d (r 0)) ++ ((u1, .inl (cI, 70, .inl (rowsF Wd))) :: R)) := hD
      refine lv_astore_n (lv' := [(3, .ref u1), (0, .ref (M 0)), (1, .int (nI y)), (2, .int (nI k))]) hx hb dX4_foresee_44 rfl hl (by decide) rfl (fun ls hl => ?_)
      refine lv_aload_n hx hb dX4_foresee_45 rfl (lv_at hl 1 rfl) ?_
      refine va_get (D := (dC, dI)) (ci := 4) (v := .ref (M 4)) (C := RX4) (T := TX4) (N := 7) hx hb hts (by decide +kernel) hown hKK.1 hP 0 rfl rfl 5 (by decide) (hts (.fieldLink RX4 19 "WidowPenniesModel" "numbers" "[I") (by decide +kernel)) (fun _ h9 => h9) rfl dX4_foresee_46 ?_
      refine wr_r (runS1 (As := [.ref (M 4)]) (rest := []) ⟨hx, hb, hml, hown, hts⟩ (met3_X4_copy l dC dI cI cW (mw cI M 0 n d r Wd ch pd yr (WT d (r 0)) ++ ((u1, .inl (cI, 70, .inl (rowsF Wd))) :: R)) 4 (M 4) (numF yr ch pd) rfl _) (va_cwS 1 hts gX4_foresee_X4_copy rfl rfl rfl (by decide +kernel) ⟨Nat.le_of_ble_eq_true rfl, Nat.le_of_ble_eq_true rfl⟩) hKK hP hD rfl hl.1 (Nat.le_of_ble_eq_true rfl) rfl dX4_foresee_49 ⟨Nat.le_of_ble_eq_true rfl, Nat.le_of_ble_eq_true rfl⟩) hD hS hA (fun u2 H locs hP hD hS => ?_)
      have hP := va_P_perm (perm_tail (mw cI M 0 n d r Wd ch pd yr (WT d (r 0))) ((u1, .inl (cI, 70, .inl (rowsF Wd))) :: R) (u2, .inl (cI, 3, .inl (numF yr ch pd)))) hP
      have hD := va_D_perm (perm_tail (mw cI M 0 n d r Wd ch pd yr (WT d (r 0))) ((u1, .inl (cI, 70, .inl (rowsF Wd))) :: R) (u2, .inl (cI, 3, .inl (numF yr ch pd)))) hD
      have hP : va_P (dC, dI) vwCl (mw cI M 0 n d r Wd ch pd yr (WT d (r 0)) ++ ((u2, .inl (cI, 3, .inl (numF yr ch pd))) :: ((u1, .inl (cI, 70, .inl (rowsF Wd))) :: R))) H := hP
      have hD : va_D A (mw cI M 0 n d r Wd ch pd yr (WT d (r 0)) ++ ((u2, .inl (cI, 3, .inl (numF yr ch pd))) :: ((u1, .inl (cI, 70, .inl (rowsF Wd))) :: R))) := hD
      refine lv_astore (lv' := [(4, .ref u2), (3, .ref u1), (0, .ref (M 0)), (1, .int (nI y)), (2, .int (nI k))]) hx hb dX4_foresee_52 hl (by decide) rfl (fun ls hl => ?_)
      refine lv_aload_n hx hb dX4_foresee_54 rfl (lv_at hl 2 rfl) ?_
      refine lv_iload_n hx hb dX4_foresee_55 rfl (lv_at hl 3 rfl) ?_
      refine wr_v (runV1 (As := [.int (nI y)]) (rest := []) ⟨hx, hb, hml, hown, hts⟩ (met_X4_yearsOn l dC dI cI cW M 0 n d r Wd ch pd yr (WT d (r 0)) ((u2, .inl (cI, 3, .inl (numF yr ch pd))) :: ((u1, .inl (cI, 70, .inl (rowsF Wd))) :: R)) hn hok y (by omega) hI _) (cwV 1 hts gX4_foresee_X4_yearsOn rfl rfl rfl (by decide +kernel) ⟨Nat.le_of_ble_eq_true rfl, Nat.le_of_ble_eq_true rfl⟩) hKK hP hD 4 0 rfl rfl rfl hl.1 (Nat.le_of_ble_eq_true rfl) rfl dX4_foresee_56 ⟨Nat.le_of_ble_eq_true rfl, Nat.le_of_ble_eq_true rfl⟩) hD hS hA (fun H locs hP hD hS => ?_)
      have hP : va_P (dC, dI) vwCl (mw cI M 0 n d r ((yIter (r 0) n y (ch, pd, yr, Wd)).2.2.2) ((yIter (r 0) n y (ch, pd, yr, Wd)).1) ((yIter (r 0) n y (ch, pd, yr, Wd)).2.1) ((yIter (r 0) n y (ch, pd, yr, Wd)).2.2.1) (WT d (r 0)) ++ ((u2, .inl (cI, 3, .inl (numF yr ch pd))) :: ((u1, .inl (cI, 70, .inl (rowsF Wd))) :: R))) H := hP
      have hD : va_D A (mw cI M 0 n d r ((yIter (r 0) n y (ch, pd, yr, Wd)).2.2.2) ((yIter (r 0) n y (ch, pd, yr, Wd)).1) ((yIter (r 0) n y (ch, pd, yr, Wd)).2.1) ((yIter (r 0) n y (ch, pd, yr, Wd)).2.2.1) (WT d (r 0)) ++ ((u2, .inl (cI, 3, .inl (numF yr ch pd))) :: ((u1, .inl (cI, 70, .inl (rowsF Wd))) :: R))) := hD
      refine lv_aload_n hx hb dX4_foresee_59 rfl (lv_at hl 2 rfl) ?_
      refine lv_iload_n hx hb dX4_foresee_60 rfl (lv_at hl 4 rfl) ?_
      refine rd_i (runV0 (As := [.int (nI k)]) (rest := []) ⟨hx, hb, hml, hown, hts⟩ (met_X4_counted l dC dI cI cW M 0 n d r ((yIter (r 0) n y (ch, pd, yr, Wd)).2.2.2) ((yIter (r 0) n y (ch, pd, yr, Wd)).1) ((yIter (r 0) n y (ch, pd, yr, Wd)).2.1) ((yIter (r 0) n y (ch, pd, yr, Wd)).2.2.1) hn (okW_iter (S := (ch, pd, yr, Wd)) hok y) k (by omega)) (cwV 1 hts gX4_foresee_X4_counted rfl rfl rfl (by decide +kernel) ⟨Nat.le_of_ble_eq_true rfl, Nat.le_of_ble_eq_true rfl⟩) hKK (ws_left hP) 4 0 rfl rfl rfl hl.1 (Nat.le_of_ble_eq_true rfl) rfl dX4_foresee_61 ⟨Nat.le_of_ble_eq_true rfl, Nat.le_of_ble_eq_true rfl⟩) (fun r_5 hr_5 => ?_)
      subst hr_5
      refine lv_istore (lv' := [(5, .int (countS d r n ((yIter (r 0) n y (ch, pd, yr, Wd)).1) ((yIter (r 0) n y (ch, pd, yr, Wd)).2.1) (sm (prcF ((yIter (r 0) n y (ch, pd, yr, Wd)).2.2.2)) n) ((yIter (r 0) n y (ch, pd, yr, Wd)).2.2.1) ((yIter (r 0) n y (ch, pd, yr, Wd)).2.2.2) k)), (4, .ref u2), (3, .ref u1), (0, .ref (M 0)), (1, .int (nI y)), (2, .int (nI k))]) hx hb dX4_foresee_64 hl (by decide) rfl (fun ls hl => ?_)
      refine lv_aload_n hx hb dX4_foresee_66 rfl (lv_at hl 3 rfl) ?_
      refine lv_aload_n hx hb dX4_foresee_67 rfl (lv_at hl 2 rfl) ?_
      refine va_put (D := (dC, dI)) (ci := 4) (v := .ref u1) (ty := (.array .int)) (C := RX4) (T := TX4) (N := 7) hx hb hts (by decide +kernel) tyX4 tyX4_ok nmX4 hown hKK.1 hP hD hS 0 rfl rfl 4 (by decide) (hts (.fieldLink RX4 16 "WidowPenniesModel" "rows" "[I") (by decide +kernel)) (fun _ h9 => h9) rfl (by decide +kernel) rfl rfl (Nat.le_of_ble_eq_true rfl) dX4_foresee_68 (fun H locs hP hD hS => ?_)
      refine lv_aload_n hx hb dX4_foresee_71 rfl (lv_at hl 3 rfl) ?_
      refine lv_aload hx hb dX4_foresee_72 (lv_at hl 1 rfl) ?_
      refine va_put (D := (dC, dI)) (ci := 4) (v := .ref u2) (ty := (.array .int)) (C := RX4) (T := TX4) (N := 7) hx hb hts (by decide +kernel) tyX4 tyX4_ok nmX4 hown hKK.1 hP hD hS 0 rfl rfl 5 (by decide) (hts (.fieldLink RX4 19 "WidowPenniesModel" "numbers" "[I") (by decide +kernel)) (fun _ h9 => h9) rfl (by decide +kernel) rfl rfl (Nat.le_of_ble_eq_true rfl) dX4_foresee_74 (fun H locs hP hD hS => ?_)
      refine lv_iload hx hb dX4_foresee_77 (lv_at hl 0 rfl) ?_
      have hP9 : va_P (dC, dI) vwCl (mw cI (M34 M (u1, u2)) 0 n d r Wd ch pd yr (WT d (r 0)) ++ R) _ := va_P_tl (va_P_tl (va_P_perm (perm_fs (M 0, .inr (4, [.int 0, .int (nI n), .ref (M 1), .ref (M 2), .ref u1, .ref u2, .ref (M 5)])) (M 1, .inl (cI, 3, .inl r)) (M 2, .inl (cI, 50, .inl d)) (M 3, .inl (cI, 70, .inl (rowsF ((yIter (r 0) n y (ch, pd, yr, Wd)).2.2.2)))) (M 4, .inl (cI, 3, .inl (numF ((yIter (r 0) n y (ch, pd, yr, Wd)).2.2.1) ((yIter (r 0) n y (ch, pd, yr, Wd)).1) ((yIter (r 0) n y (ch, pd, yr, Wd)).2.1)))) (M 5, .inl (cI, 1581, .inl (WT d (r 0)))) (u2, .inl (cI, 3, .inl (numF yr ch pd))) (u1, .inl (cI, 70, .inl (rowsF Wd))) R) hP))
      have hD9 : va_D A (mw cI (M34 M (u1, u2)) 0 n d r Wd ch pd yr (WT d (r 0)) ++ R) := va_D_tl (va_D_tl (va_D_perm (perm_fs (M 0, .inr (4, [.int 0, .int (nI n), .ref (M 1), .ref (M 2), .ref u1, .ref u2, .ref (M 5)])) (M 1, .inl (cI, 3, .inl r)) (M 2, .inl (cI, 50, .inl d)) (M 3, .inl (cI, 70, .inl (rowsF ((yIter (r 0) n y (ch, pd, yr, Wd)).2.2.2)))) (M 4, .inl (cI, 3, .inl (numF ((yIter (r 0) n y (ch, pd, yr, Wd)).2.2.1) ((yIter (r 0) n y (ch, pd, yr, Wd)).1) ((yIter (r 0) n y (ch, pd, yr, Wd)).2.1)))) (M 5, .inl (cI, 1581, .inl (WT d (r 0)))) (u2, .inl (cI, 3, .inl (numF yr ch pd))) (u1, .inl (cI, 70, .inl (rowsF Wd))) R) hD))
      have hz : (countS d r n ((yIter (r 0) n y (ch, pd, yr, Wd)).1) ((yIter (r 0) n y (ch, pd, yr, Wd)).2.1) (sm (prcF ((yIter (r 0) n y (ch, pd, yr, Wd)).2.2.2)) n) ((yIter (r 0) n y (ch, pd, yr, Wd)).2.2.1) ((yIter (r 0) n y (ch, pd, yr, Wd)).2.2.2) k : Int32) = countS d r n (yIter (r 0) n y (ch, pd, yr, Wd)).1 (yIter (r 0) n y (ch, pd, yr, Wd)).2.1 (sm (prcF (yIter (r 0) n y (ch, pd, yr, Wd)).2.2.2) n) (yIter (r 0) n y (ch, pd, yr, Wd)).2.2.1 (yIter (r 0) n y (ch, pd, yr, Wd)).2.2.2 k := rfl
      exact W.iret (v := (countS d r n ((yIter (r 0) n y (ch, pd, yr, Wd)).1) ((yIter (r 0) n y (ch, pd, yr, Wd)).2.1) (sm (prcF ((yIter (r 0) n y (ch, pd, yr, Wd)).2.2.2)) n) ((yIter (r 0) n y (ch, pd, yr, Wd)).2.2.1) ((yIter (r 0) n y (ch, pd, yr, Wd)).2.2.2) k)) hx hb hr (fun t ht hW => ⟨⟨_, (u1, u2), rfl, hz, by rw [ht]; exact hP9, by rw [hAe]; exact hD9⟩, by rw [hAe]; exact hS.F ht⟩) hS.2.2 dX4_foresee_79
    · have bc_4 : ¬ (2 ≤ (nI k) ∧ (nI k) ≤ 7) := b0.mp c_4
      exact absurd (int_in (lo := 2) (hi := 7) h3 h4 (by omega)) bc_4
  · have bc_2 : ¬ (1 ≤ (nI y) ∧ (nI y) ≤ 50) := b0.mp c_2
    exact absurd (int_in (lo := 1) (hi := 50) h1 h2 (by omega)) bc_2
set_option maxHeartbeats 4000000 in
set_option maxRecDepth 100000 in
theorem met1_X4_foresee (l : Launch) (dC : Nat → ClassId) (dI : Nat → Nat → Nat) (cI cW : ClassId) (M : Nat → Nat) (th : Int32) (n : Nat) (d r : Nat → Int32) (Wd : Nat → Nat → Int32) (ch pd yr : Int32) (R : va_W) (a f : Int32) (h9 : ¬ (1 ≤ a ∧ a ≤ 50)) (sz : Nat) : Met l yX4_foresee wsX4_foresee ({ frames := 5, cells := 0, slots := 0, locals := 109 }) (Pre1 dC dI cI cW [.ref (M 0), .int a, .int f] (mw cI M th n d r Wd ch pd yr (WT d (r 0)) ++ R) sz) (Qi1 dC dI (fun z => z = 0) (mw cI M th n d r Wd ch pd yr (WT d (r 0)) ++ R) (mw cI M 1 n d r Wd ch pd yr (WT d (r 0)) ++ R) sz) 0 0 (va_A (mw cI M th n d r Wd ch pd yr (WT d (r 0)) ++ R) sz) := by
  refine Met.ofW (cc := cX4_foresee) (maxL := 6) (ret := (some .int)) (by decide) rfl ?_
  intro p e s m args below meth c s₁ B hml hv
  obtain ⟨rfl, hsz, hP, hD0, hKK⟩ := hv
  subst hsz
  have hx := B.exec
  have hb := B.bytes
  have hr := B.returns
  have hts := atoms_spec (ws := wsX4_foresee) B.pre
  have hown : s.vm.findClass RX4 = some m.cls := findClass_of_methodNamed B.named
  have hlocks := B.notSynchronized
  have hD := hD0.self (sz := s.heap.size)
  generalize hAe : va_A (mw cI M th n d r Wd ch pd yr (WT d (r 0)) ++ R) s.heap.size = A at hD ⊢
  have hA : ∀ q : Nat, s.heap.size ≤ q → A q := fun q h => by rw [← hAe]; exact Or.inr h
  have hS : va_S A s.heap s.heap [] := va_S.rf
  have hl := lv_entry ([.ref (M 0), .int a, .int f]) (n := 6) (Nat.le_of_ble_eq_true rfl)
  rw [lg_entry_eq]
  generalize (lg_sl ([.ref (M 0), .int a, .int f]) ++ List.replicate (6 - (lg_sl ([.ref (M 0), .int a, .int f])).length) Slot.unset).toArray = ls at hl ⊢
  have hl : lv_has ls 6 [(0, .ref (M 0)), (1, .int a), (2, .int f)] := hl
  refine lv_aload_n hx hb dX4_foresee_0 rfl (lv_at hl 0 rfl) ?_
  refine lv_iconst (v := 0) hx hb dX4_foresee_1 (by decide) ?_
  refine va_put (D := (dC, dI)) (ci := 4) (v := .int 0) (ty := .int) (C := RX4) (T := TX4) (N := 7) hx hb hts (by decide +kernel) tyX4 tyX4_ok nmX4 hown hKK.1 hP hD hS 0 rfl rfl 0 (by decide) (hts (.fieldLink RX4 28 "WidowPenniesModel" "thrown" "I") (by decide +kernel)) (fun _ h9 => h9) rfl (by decide +kernel) rfl rfl (Nat.le_of_ble_eq_true rfl) dX4_foresee_2 (fun H locs hP hD hS => ?_)
  have hP : va_P (dC, dI) vwCl (mw cI M 0 n d r Wd ch pd yr (WT d (r 0)) ++ R) H := hP
  have hD : va_D A (mw cI M 0 n d r Wd ch pd yr (WT d (r 0)) ++ R) := hD
  refine lv_iload_n hx hb dX4_foresee_5 rfl (lv_at hl 1 rfl) ?_
  refine lv_iconst (v := 1) hx hb dX4_foresee_6 (by decide) ?_
  refine lv_bipush (v := 50) hx hb dX4_foresee_7 (by decide) ?_
  refine rd_i (runS0 (As := [.int a, .int 1, .int 50]) (rest := []) ⟨hx, hb, hml, hown, hts⟩ (met_X4_isIn l dC dI cI cW a 1 50) (va_cwS 3 hts gX4_foresee_X4_isIn rfl rfl rfl (by decide +kernel) ⟨Nat.le_of_ble_eq_true rfl, Nat.le_of_ble_eq_true rfl⟩) hKK nilP rfl hl.1 (Nat.le_of_ble_eq_true rfl) rfl dX4_foresee_9 ⟨Nat.zero_le _, Nat.zero_le _⟩) (fun r_1 hr_1 => ?_)
  subst hr_1
  refine lv_if_ne (tgt := 21) hx hb dX4_foresee_12 (by decide) (fun c_2 => ?_) (fun c_2 => ?_)
  · have bc_2 : 1 ≤ a ∧ a ≤ 50 := b1.mp c_2
    exact (h9 bc_2).elim
  · have bc_2 : ¬ (1 ≤ a ∧ a ≤ 50) := b0.mp c_2
    refine lv_aload_n hx hb dX4_foresee_15 rfl (lv_at hl 0 rfl) ?_
    refine lv_iconst (v := 1) hx hb dX4_foresee_16 (by decide) ?_
    refine wr_i (runV1 (As := [.int 1]) (rest := []) ⟨hx, hb, hml, hown, hts⟩ (met_X4_fail l dC dI cI cW M 0 n d r Wd ch pd yr (WT d (r 0)) R 1 _) (cwV 1 hts gX4_foresee_X4_fail rfl rfl rfl (by decide +kernel) ⟨Nat.le_of_ble_eq_true rfl, Nat.le_of_ble_eq_true rfl⟩) hKK hP hD 4 0 rfl rfl rfl hl.1 (Nat.le_of_ble_eq_true rfl) rfl dX4_foresee_17 ⟨Nat.zero_le _, Nat.zero_le _⟩) hD hS hA (fun r_3 H locs hr_3 hP hD hS => ?_)
    subst hr_3
    have hP : va_P (dC, dI) vwCl (mw cI M 1 n d r Wd ch pd yr (WT d (r 0)) ++ R) H := hP
    have hD : va_D A (mw cI M 1 n d r Wd ch pd yr (WT d (r 0)) ++ R) := hD
    have hP9 : va_P (dC, dI) vwCl (mw cI M 1 n d r Wd ch pd yr (WT d (r 0)) ++ R) _ := hP
    have hD9 : va_D A (mw cI M 1 n d r Wd ch pd yr (WT d (r 0)) ++ R) := hD
    have hz : (0 : Int32) = 0 := rfl
    exact W.iret (v := 0) hx hb hr (fun t ht hW => ⟨⟨_, (), rfl, hz, by rw [ht]; exact hP9, by rw [hAe]; exact hD9⟩, by rw [hAe]; exact hS.F ht⟩) hS.2.2 dX4_foresee_20
set_option maxHeartbeats 4000000 in
set_option maxRecDepth 100000 in
theorem met2_X4_foresee (l : Launch) (dC : Nat → ClassId) (dI : Nat → Nat → Nat) (cI cW : ClassId) (M : Nat → Nat) (th : Int32) (n : Nat) (d r : Nat → Int32) (Wd : Nat → Nat → Int32) (ch pd yr : Int32) (R : va_W) (a f : Int32) (h8 : 1 ≤ a ∧ a ≤ 50) (h9 : ¬ (2 ≤ f ∧ f ≤ 7)) (sz : Nat) : Met l yX4_foresee wsX4_foresee ({ frames := 5, cells := 0, slots := 0, locals := 109 }) (Pre1 dC dI cI cW [.ref (M 0), .int a, .int f] (mw cI M th n d r Wd ch pd yr (WT d (r 0)) ++ R) sz) (Qi1 dC dI (fun z => z = 0) (mw cI M th n d r Wd ch pd yr (WT d (r 0)) ++ R) (mw cI M 2 n d r Wd ch pd yr (WT d (r 0)) ++ R) sz) 0 0 (va_A (mw cI M th n d r Wd ch pd yr (WT d (r 0)) ++ R) sz) := by
  refine Met.ofW (cc := cX4_foresee) (maxL := 6) (ret := (some .int)) (by decide) rfl ?_
  intro p e s m args below meth c s₁ B hml hv
  obtain ⟨rfl, hsz, hP, hD0, hKK⟩ := hv
  subst hsz
  have hx := B.exec
  have hb := B.bytes
  have hr := B.returns
  have hts := atoms_spec (ws := wsX4_foresee) B.pre
  have hown : s.vm.findClass RX4 = some m.cls := findClass_of_methodNamed B.named
  have hlocks := B.notSynchronized
  have hD := hD0.self (sz := s.heap.size)
  generalize hAe : va_A (mw cI M th n d r Wd ch pd yr (WT d (r 0)) ++ R) s.heap.size = A at hD ⊢
  have hA : ∀ q : Nat, s.heap.size ≤ q → A q := fun q h => by rw [← hAe]; exact Or.inr h
  have hS : va_S A s.heap s.heap [] := va_S.rf
  have hl := lv_entry ([.ref (M 0), .int a, .int f]) (n := 6) (Nat.le_of_ble_eq_true rfl)
  rw [lg_entry_eq]
  generalize (lg_sl ([.ref (M 0), .int a, .int f]) ++ List.replicate (6 - (lg_sl ([.ref (M 0), .int a, .int f])).length) Slot.unset).toArray = ls at hl ⊢
  have hl : lv_has ls 6 [(0, .ref (M 0)), (1, .int a), (2, .int f)] := hl
  refine lv_aload_n hx hb dX4_foresee_0 rfl (lv_at hl 0 rfl) ?_
  refine lv_iconst (v := 0) hx hb dX4_foresee_1 (by decide) ?_
  refine va_put (D := (dC, dI)) (ci := 4) (v := .int 0) (ty := .int) (C := RX4) (T := TX4) (N := 7) hx hb hts (by decide +kernel) tyX4 tyX4_ok nmX4 hown hKK.1 hP hD hS 0 rfl rfl 0 (by decide) (hts (.fieldLink RX4 28 "WidowPenniesModel" "thrown" "I") (by decide +kernel)) (fun _ h9 => h9) rfl (by decide +kernel) rfl rfl (Nat.le_of_ble_eq_true rfl) dX4_foresee_2 (fun H locs hP hD hS => ?_)
  have hP : va_P (dC, dI) vwCl (mw cI M 0 n d r Wd ch pd yr (WT d (r 0)) ++ R) H := hP
  have hD : va_D A (mw cI M 0 n d r Wd ch pd yr (WT d (r 0)) ++ R) := hD
  refine lv_iload_n hx hb dX4_foresee_5 rfl (lv_at hl 1 rfl) ?_
  refine lv_iconst (v := 1) hx hb dX4_foresee_6 (by decide) ?_
  refine lv_bipush (v := 50) hx hb dX4_foresee_7 (by decide) ?_
  refine rd_i (runS0 (As := [.int a, .int 1, .int 50]) (rest := []) ⟨hx, hb, hml, hown, hts⟩ (met_X4_isIn l dC dI cI cW a 1 50) (va_cwS 3 hts gX4_foresee_X4_isIn rfl rfl rfl (by decide +kernel) ⟨Nat.le_of_ble_eq_true rfl, Nat.le_of_ble_eq_true rfl⟩) hKK nilP rfl hl.1 (Nat.le_of_ble_eq_true rfl) rfl dX4_foresee_9 ⟨Nat.zero_le _, Nat.zero_le _⟩) (fun r_1 hr_1 => ?_)
  subst hr_1
  refine lv_if_ne (tgt := 21) hx hb dX4_foresee_12 (by decide) (fun c_2 => ?_) (fun c_2 => ?_)
  · have bc_2 : 1 ≤ a ∧ a ≤ 50 := b1.mp c_2
    refine lv_iload_n hx hb dX4_foresee_21 rfl (lv_at hl 2 rfl) ?_
    refine lv_iconst (v := 2) hx hb dX4_foresee_22 (by decide) ?_
    refine lv_bipush (v := 7) hx hb dX4_foresee_23 (by decide) ?_
    refine rd_i (runS0 (As := [.int f, .int 2, .int 7]) (rest := []) ⟨hx, hb, hml, hown, hts⟩ (met_X4_isIn l dC dI cI cW f 2 7) (va_cwS 3 hts gX4_foresee_X4_isIn rfl rfl rfl (by decide +kernel) ⟨Nat.le_of_ble_eq_true rfl, Nat.le_of_ble_eq_true rfl⟩) hKK nilP rfl hl.1 (Nat.le_of_ble_eq_true rfl) rfl dX4_foresee_25 ⟨Nat.zero_le _, Nat.zero_le _⟩) (fun r_3 hr_3 => ?_)
    subst hr_3
    refine lv_if_ne (tgt := 37) hx hb dX4_foresee_28 (by decide) (fun c_4 => ?_) (fun c_4 => ?_)
    · have bc_4 : 2 ≤ f ∧ f ≤ 7 := b1.mp c_4
      exact (h9 bc_4).elim
    · have bc_4 : ¬ (2 ≤ f ∧ f ≤ 7) := b0.mp c_4
      refine lv_aload_n hx hb dX4_foresee_31 rfl (lv_at hl 0 rfl) ?_
      refine lv_iconst (v := 2) hx hb dX4_foresee_32 (by decide) ?_
      refine wr_i (runV1 (As := [.int 2]) (rest := []) ⟨hx, hb, hml, hown, hts⟩ (met_X4_fail l dC dI cI cW M 0 n d r Wd ch pd yr (WT d (r 0)) R 2 _) (cwV 1 hts gX4_foresee_X4_fail rfl rfl rfl (by decide +kernel) ⟨Nat.le_of_ble_eq_true rfl, Nat.le_of_ble_eq_true rfl⟩) hKK hP hD 4 0 rfl rfl rfl hl.1 (Nat.le_of_ble_eq_true rfl) rfl dX4_foresee_33 ⟨Nat.zero_le _, Nat.zero_le _⟩) hD hS hA (fun r_5 H locs hr_5 hP hD hS => ?_)
      subst hr_5
      have hP : va_P (dC, dI) vwCl (mw cI M 2 n d r Wd ch pd yr (WT d (r 0)) ++ R) H := hP
      have hD : va_D A (mw cI M 2 n d r Wd ch pd yr (WT d (r 0)) ++ R) := hD
      have hP9 : va_P (dC, dI) vwCl (mw cI M 2 n d r Wd ch pd yr (WT d (r 0)) ++ R) _ := hP
      have hD9 : va_D A (mw cI M 2 n d r Wd ch pd yr (WT d (r 0)) ++ R) := hD
      have hz : (0 : Int32) = 0 := rfl
      exact W.iret (v := 0) hx hb hr (fun t ht hW => ⟨⟨_, (), rfl, hz, by rw [ht]; exact hP9, by rw [hAe]; exact hD9⟩, by rw [hAe]; exact hS.F ht⟩) hS.2.2 dX4_foresee_36
  · have bc_2 : ¬ (1 ≤ a ∧ a ≤ 50) := b0.mp c_2
    exact absurd h8 bc_2
set_option maxHeartbeats 4000000 in
set_option maxRecDepth 100000 in
theorem met_X4_lasts (l : Launch) (dC : Nat → ClassId) (dI : Nat → Nat → Nat) (cI cW : ClassId) (M : Nat → Nat) (th : Int32) (n : Nat) (d r : Nat → Int32) (Wd : Nat → Nat → Int32) (ch pd yr : Int32) (R : va_W) (hn : n ≤ 10) (hok : ∀ k, k < n → okW (Wd k)) (hI : ∀ j, j < 61 → intS (r 0) (yIter (r 0) n j (ch, pd, yr, Wd)).1 = (if 0 < (yIter (r 0) n j (ch, pd, yr, Wd)).1 then comeS (yIter (r 0) n j (ch, pd, yr, Wd)).1 ((yIter (r 0) n j (ch, pd, yr, Wd)).1.toInt64 * (r 0).toInt64 / 1000) else (yIter (r 0) n j (ch, pd, yr, Wd)).1)) (sz : Nat) : Met l yX4_lasts wsX4_lasts ({ frames := 3, cells := 2, slots := 73, locals := 85 }) (Pre1 dC dI cI cW [.ref (M 0)] (mw cI M th n d r Wd ch pd yr (WT d (r 0)) ++ R) sz) (QiM dC dI (fun z => z = lsR (lsS (r 0) n (ch, pd, yr, Wd))) (mw cI M th n d r Wd ch pd yr (WT d (r 0)) ++ R) (fun u => mw cI (M34 M u) 0 n d r Wd ch pd yr (WT d (r 0)) ++ R) sz) 2 73 (va_A (mw cI M th n d r Wd ch pd yr (WT d (r 0)) ++ R) sz) := by
  refine Met.ofW (cc := cX4_lasts) (maxL := 4) (ret := (some .int)) (by decide) rfl ?_
  intro p e s m args below meth c s₁ B hml hv
  obtain ⟨rfl, hsz, hP, hD0, hKK⟩ := hv
  subst hsz
  have hx := B.exec
  have hb := B.bytes
  have hr := B.returns
  have hts := atoms_spec (ws := wsX4_lasts) B.pre
  have hown : s.vm.findClass RX4 = some m.cls := findClass_of_methodNamed B.named
  have hlocks := B.notSynchronized
  have hD := hD0.self (sz := s.heap.size)
  generalize hAe : va_A (mw cI M th n d r Wd ch pd yr (WT d (r 0)) ++ R) s.heap.size = A at hD ⊢
  have hA : ∀ q : Nat, s.heap.size ≤ q → A q := fun q h => by rw [← hAe]; exact Or.inr h
  have hS : va_S A s.heap s.heap [] := va_S.rf
  have hl := lv_entry ([.ref (M 0)]) (n := 4) (Nat.le_of_ble_eq_true rfl)
  rw [lg_entry_eq]
  generalize (lg_sl ([.ref (M 0)]) ++ List.replicate (4 - (lg_sl ([.ref (M 0)])).length) Slot.unset).toArray = ls at hl ⊢
  have hl : lv_has ls 4 [(0, .ref (M 0))] := hl
  have key : ∀ (u1 u2 m9 y : Nat), y + m9 = 61 → fstS (fun y => decide ((yIter (r 0) n y (ch, pd, yr, Wd)).1 < 0)) m9 y = lsS (r 0) n (ch, pd, yr, Wd) → ∀ (H : Heap) (locs : List Loc), va_P (dC, dI) vwCl (mw cI M 0 n d r ((yIter (r 0) n y (ch, pd, yr, Wd)).2.2.2) ((yIter (r 0) n y (ch, pd, yr, Wd)).1) ((yIter (r 0) n y (ch, pd, yr, Wd)).2.1) ((yIter (r 0) n y (ch, pd, yr, Wd)).2.2.1) (WT d (r 0)) ++ ((u2, .inl (cI, 3, .inl (numF yr ch pd))) :: (u1, .inl (cI, 70, .inl (rowsF Wd))) :: R)) H → va_D A (mw cI M 0 n d r ((yIter (r 0) n y (ch, pd, yr, Wd)).2.2.2) ((yIter (r 0) n y (ch, pd, yr, Wd)).1) ((yIter (r 0) n y (ch, pd, yr, Wd)).2.1) ((yIter (r 0) n y (ch, pd, yr, Wd)).2.2.1) (WT d (r 0)) ++ ((u2, .inl (cI, 3, .inl (numF yr ch pd))) :: (u1, .inl (cI, 70, .inl (rowsF Wd))) :: R)) → va_S A s.heap H locs → ∀ ls : Array Slot, lv_has ls 4 [(3, .int (nI y)), (2, .ref u2), (1, .ref u1), (0, .ref (M 0))] → W p l e (headSpec wsX4_lasts ({ frames := 3, cells := 2, slots := 73, locals := 85 })).room s m (([.ref (M 0)] : List Value).toArray) below meth c H locs 2 73 (MQ below (QiM dC dI (fun z => z = lsR (lsS (r 0) n (ch, pd, yr, Wd))) (mw cI M th n d r Wd ch pd yr (WT d (r 0)) ++ R) (fun u => mw cI (M34 M u) 0 n d r Wd ch pd yr (WT d (r 0)) ++ R) s.heap.size) ([.ref (M 0)] : List Value).toArray s 2 73 A) (F0 m 23 ls []) := by
    intro u1 u2 m9
    induction m9 with
    | zero =>
      intro y hy hf H locs hP hD hS ls hl
      have hy61 : y = 61 := by omega
      subst hy61
      refine lv_iload_n hx hb dX4_lasts_23 rfl (lv_at hl 0 rfl) ?_
      refine lv_bipush (v := 60) hx hb dX4_lasts_24 (by decide) ?_
      refine lv_icmp_gt (tgt := 48) hx hb dX4_lasts_26 (by decide) (fun c_1 => ?_) (fun c_1 => ?_)
      · refine lv_aload_n hx hb dX4_lasts_48 rfl (lv_at hl 3 rfl) ?_
        refine lv_aload_n hx hb dX4_lasts_49 rfl (lv_at hl 2 rfl) ?_
        refine va_put (D := (dC, dI)) (ci := 4) (v := .ref u1) (ty := (.array .int)) (C := RX4) (T := TX4) (N := 7) hx hb hts (by decide +kernel) tyX4 tyX4_ok nmX4 hown hKK.1 hP hD hS 0 rfl rfl 4 (by decide) (hts (.fieldLink RX4 16 "WidowPenniesModel" "rows" "[I") (by decide +kernel)) (fun _ h9 => h9) rfl (by decide +kernel) rfl rfl (Nat.le_of_ble_eq_true rfl) dX4_lasts_50 (fun H locs hP hD hS => ?_)
        refine lv_aload_n hx hb dX4_lasts_53 rfl (lv_at hl 3 rfl) ?_
        refine lv_aload_n hx hb dX4_lasts_54 rfl (lv_at hl 1 rfl) ?_
        refine va_put (D := (dC, dI)) (ci := 4) (v := .ref u2) (ty := (.array .int)) (C := RX4) (T := TX4) (N := 7) hx hb hts (by decide +kernel) tyX4 tyX4_ok nmX4 hown hKK.1 hP hD hS 0 rfl rfl 5 (by decide) (hts (.fieldLink RX4 19 "WidowPenniesModel" "numbers" "[I") (by decide +kernel)) (fun _ h9 => h9) rfl (by decide +kernel) rfl rfl (Nat.le_of_ble_eq_true rfl) dX4_lasts_55 (fun H locs hP hD hS => ?_)
        refine lv_iload_n hx hb dX4_lasts_58 rfl (lv_at hl 0 rfl) ?_
        refine lv_bipush (v := 60) hx hb dX4_lasts_59 (by decide) ?_
        refine lv_icmp_le (tgt := 68) hx hb dX4_lasts_61 (by decide) (fun c_2 => ?_) (fun c_2 => ?_)
        · exact absurd c_2 (by decide)
        · refine lv_iconst (v := (-1)) hx hb dX4_lasts_64 (by decide) ?_
          refine lv_goto (tgt := 69) hx hb dX4_lasts_65 (by decide) ?_
          have hP9 : va_P (dC, dI) vwCl (mw cI (M34 M (u1, u2)) 0 n d r Wd ch pd yr (WT d (r 0)) ++ R) _ := va_P_tl (va_P_tl (va_P_perm (perm_fs (M 0, .inr (4, [.int 0, .int (nI n), .ref (M 1), .ref (M 2), .ref u1, .ref u2, .ref (M 5)])) (M 1, .inl (cI, 3, .inl r)) (M 2, .inl (cI, 50, .inl d)) (M 3, .inl (cI, 70, .inl (rowsF ((yIter (r 0) n 61 (ch, pd, yr, Wd)).2.2.2)))) (M 4, .inl (cI, 3, .inl (numF ((yIter (r 0) n 61 (ch, pd, yr, Wd)).2.2.1) ((yIter (r 0) n 61 (ch, pd, yr, Wd)).1) ((yIter (r 0) n 61 (ch, pd, yr, Wd)).2.1)))) (M 5, .inl (cI, 1581, .inl (WT d (r 0)))) (u2, .inl (cI, 3, .inl (numF yr ch pd))) (u1, .inl (cI, 70, .inl (rowsF Wd))) R) hP))
          have hD9 : va_D A (mw cI (M34 M (u1, u2)) 0 n d r Wd ch pd yr (WT d (r 0)) ++ R) := va_D_tl (va_D_tl (va_D_perm (perm_fs (M 0, .inr (4, [.int 0, .int (nI n), .ref (M 1), .ref (M 2), .ref u1, .ref u2, .ref (M 5)])) (M 1, .inl (cI, 3, .inl r)) (M 2, .inl (cI, 50, .inl d)) (M 3, .inl (cI, 70, .inl (rowsF ((yIter (r 0) n 61 (ch, pd, yr, Wd)).2.2.2)))) (M 4, .inl (cI, 3, .inl (numF ((yIter (r 0) n 61 (ch, pd, yr, Wd)).2.2.1) ((yIter (r 0) n 61 (ch, pd, yr, Wd)).1) ((yIter (r 0) n 61 (ch, pd, yr, Wd)).2.1)))) (M 5, .inl (cI, 1581, .inl (WT d (r 0)))) (u2, .inl (cI, 3, .inl (numF yr ch pd))) (u1, .inl (cI, 70, .inl (rowsF Wd))) R) hD))
          have hz : ((-1) : Int32) = lsR (lsS (r 0) n (ch, pd, yr, Wd)) := by rw [← hf]; rfl
          exact W.iret (v := (-1)) hx hb hr (fun t ht hW => ⟨⟨_, (u1, u2), rfl, hz, by rw [ht]; exact hP9, by rw [hAe]; exact hD9⟩, by rw [hAe]; exact hS.F ht⟩) hS.2.2 dX4_lasts_69
      · exact absurd (by decide) c_1
    | succ m9 ih =>
      intro y hy hf H locs hP hD hS ls hl
      refine lv_iload_n hx hb dX4_lasts_23 rfl (lv_at hl 0 rfl) ?_
      refine lv_bipush (v := 60) hx hb dX4_lasts_24 (by decide) ?_
      refine lv_icmp_gt (tgt := 48) hx hb dX4_lasts_26 (by decide) (fun c_1 => ?_) (fun c_1 => ?_)
      · exact absurd c_1 (fun q9 => absurd ((lt_nI (a := 60) (by omega)).mp q9) (by omega))
      · refine lv_aload_n hx hb dX4_lasts_29 rfl (lv_at hl 3 rfl) ?_
        refine va_get (D := (dC, dI)) (ci := 4) (v := .ref (M 4)) (C := RX4) (T := TX4) (N := 7) hx hb hts (by decide +kernel) hown hKK.1 hP 0 rfl rfl 5 (by decide) (hts (.fieldLink RX4 19 "WidowPenniesModel" "numbers" "[I") (by decide +kernel)) (fun _ h9 => h9) rfl dX4_lasts_30 ?_
        refine lv_iconst (v := 1) hx hb dX4_lasts_33 (by decide) ?_
        refine va_iald hx hb hKK.1 hP 4 0 rfl rfl (vp_in_nI (n := 1) (by omega) (by omega)) dX4_lasts_34 ?_
        rw [show (numF ((yIter (r 0) n y (ch, pd, yr, Wd)).2.2.1) ((yIter (r 0) n y (ch, pd, yr, Wd)).1) ((yIter (r 0) n y (ch, pd, yr, Wd)).2.1)) (1 : Int32).toNatClampNeg = (numF ((yIter (r 0) n y (ch, pd, yr, Wd)).2.2.1) ((yIter (r 0) n y (ch, pd, yr, Wd)).1) ((yIter (r 0) n y (ch, pd, yr, Wd)).2.1)) 1 from rfl]
        rw [show ((numF ((yIter (r 0) n y (ch, pd, yr, Wd)).2.2.1) ((yIter (r 0) n y (ch, pd, yr, Wd)).1) ((yIter (r 0) n y (ch, pd, yr, Wd)).2.1)) 1 : Int32) = (yIter (r 0) n y (ch, pd, yr, Wd)).1 from rfl]
        refine lv_if_lt (tgt := 48) hx hb dX4_lasts_35 (by decide) (fun c_3 => ?_) (fun c_3 => ?_)
        · have hf : y = lsS (r 0) n (ch, pd, yr, Wd) := by rw [← hf, fstS, if_pos (by simp only [decide_eq_true_eq]; exact c_3)]
          refine lv_aload_n hx hb dX4_lasts_48 rfl (lv_at hl 3 rfl) ?_
          refine lv_aload_n hx hb dX4_lasts_49 rfl (lv_at hl 2 rfl) ?_
          refine va_put (D := (dC, dI)) (ci := 4) (v := .ref u1) (ty := (.array .int)) (C := RX4) (T := TX4) (N := 7) hx hb hts (by decide +kernel) tyX4 tyX4_ok nmX4 hown hKK.1 hP hD hS 0 rfl rfl 4 (by decide) (hts (.fieldLink RX4 16 "WidowPenniesModel" "rows" "[I") (by decide +kernel)) (fun _ h9 => h9) rfl (by decide +kernel) rfl rfl (Nat.le_of_ble_eq_true rfl) dX4_lasts_50 (fun H locs hP hD hS => ?_)
          refine lv_aload_n hx hb dX4_lasts_53 rfl (lv_at hl 3 rfl) ?_
          refine lv_aload_n hx hb dX4_lasts_54 rfl (lv_at hl 1 rfl) ?_
          refine va_put (D := (dC, dI)) (ci := 4) (v := .ref u2) (ty := (.array .int)) (C := RX4) (T := TX4) (N := 7) hx hb hts (by decide +kernel) tyX4 tyX4_ok nmX4 hown hKK.1 hP hD hS 0 rfl rfl 5 (by decide) (hts (.fieldLink RX4 19 "WidowPenniesModel" "numbers" "[I") (by decide +kernel)) (fun _ h9 => h9) rfl (by decide +kernel) rfl rfl (Nat.le_of_ble_eq_true rfl) dX4_lasts_55 (fun H locs hP hD hS => ?_)
          refine lv_iload_n hx hb dX4_lasts_58 rfl (lv_at hl 0 rfl) ?_
          refine lv_bipush (v := 60) hx hb dX4_lasts_59 (by decide) ?_
          refine lv_icmp_le (tgt := 68) hx hb dX4_lasts_61 (by decide) (fun c_4 => ?_) (fun c_4 => ?_)
          · refine lv_iload_n hx hb dX4_lasts_68 rfl (lv_at hl 0 rfl) ?_
            have hP9 : va_P (dC, dI) vwCl (mw cI (M34 M (u1, u2)) 0 n d r Wd ch pd yr (WT d (r 0)) ++ R) _ := va_P_tl (va_P_tl (va_P_perm (perm_fs (M 0, .inr (4, [.int 0, .int (nI n), .ref (M 1), .ref (M 2), .ref u1, .ref u2, .ref (M 5)])) (M 1, .inl (cI, 3, .inl r)) (M 2, .inl (cI, 50, .inl d)) (M 3, .inl (cI, 70, .inl (rowsF ((yIter (r 0) n y (ch, pd, yr, Wd)).2.2.2)))) (M 4, .inl (cI, 3, .inl (numF ((yIter (r 0) n y (ch, pd, yr, Wd)).2.2.1) ((yIter (r 0) n y (ch, pd, yr, Wd)).1) ((yIter (r 0) n y (ch, pd, yr, Wd)).2.1)))) (M 5, .inl (cI, 1581, .inl (WT d (r 0)))) (u2, .inl (cI, 3, .inl (numF yr ch pd))) (u1, .inl (cI, 70, .inl (rowsF Wd))) R) hP))
            have hD9 : va_D A (mw cI (M34 M (u1, u2)) 0 n d r Wd ch pd yr (WT d (r 0)) ++ R) := va_D_tl (va_D_tl (va_D_perm (perm_fs (M 0, .inr (4, [.int 0, .int (nI n), .ref (M 1), .ref (M 2), .ref u1, .ref u2, .ref (M 5)])) (M 1, .inl (cI, 3, .inl r)) (M 2, .inl (cI, 50, .inl d)) (M 3, .inl (cI, 70, .inl (rowsF ((yIter (r 0) n y (ch, pd, yr, Wd)).2.2.2)))) (M 4, .inl (cI, 3, .inl (numF ((yIter (r 0) n y (ch, pd, yr, Wd)).2.2.1) ((yIter (r 0) n y (ch, pd, yr, Wd)).1) ((yIter (r 0) n y (ch, pd, yr, Wd)).2.1)))) (M 5, .inl (cI, 1581, .inl (WT d (r 0)))) (u2, .inl (cI, 3, .inl (numF yr ch pd))) (u1, .inl (cI, 70, .inl (rowsF Wd))) R) hD))
            have hz : (nI y : Int32) = lsR (lsS (r 0) n (ch, pd, yr, Wd)) := by rw [← hf, lsR, if_neg (by omega)]
            exact W.iret (v := (nI y)) hx hb hr (fun t ht hW => ⟨⟨_, (u1, u2), rfl, hz, by rw [ht]; exact hP9, by rw [hAe]; exact hD9⟩, by rw [hAe]; exact hS.F ht⟩) hS.2.2 dX4_lasts_69
          · exact absurd ((le_nI (b := 60) (by omega)).mpr (by omega)) c_4
        · have hf : fstS (fun y => decide ((yIter (r 0) n y (ch, pd, yr, Wd)).1 < 0)) m9 (y + 1) = lsS (r 0) n (ch, pd, yr, Wd) := by rw [← hf, fstS, if_neg (by simp only [decide_eq_true_eq]; exact c_3)]
          refine lv_aload_n hx hb dX4_lasts_38 rfl (lv_at hl 3 rfl) ?_
          refine wr_v (runV1 (As := []) (rest := []) ⟨hx, hb, hml, hown, hts⟩ (met_X4_yearOn l dC dI cI cW M 0 n d r ((yIter (r 0) n y (ch, pd, yr, Wd)).2.2.2) ((yIter (r 0) n y (ch, pd, yr, Wd)).1) ((yIter (r 0) n y (ch, pd, yr, Wd)).2.1) ((yIter (r 0) n y (ch, pd, yr, Wd)).2.2.1) (WT d (r 0)) ((u2, .inl (cI, 3, .inl (numF yr ch pd))) :: (u1, .inl (cI, 70, .inl (rowsF Wd))) :: R) hn (okW_iter (S := (ch, pd, yr, Wd)) hok y) (hI y (by omega)) _) (cwV 0 hts gX4_lasts_X4_yearOn rfl rfl rfl (by decide +kernel) ⟨Nat.le_of_ble_eq_true rfl, Nat.le_of_ble_eq_true rfl⟩) hKK hP hD 4 0 rfl rfl rfl hl.1 (Nat.le_of_ble_eq_true rfl) rfl dX4_lasts_39 ⟨Nat.le_of_ble_eq_true rfl, Nat.le_of_ble_eq_true rfl⟩) hD hS hA (fun H locs hP hD hS => ?_)
          have hP : va_P (dC, dI) vwCl (mw cI M 0 n d r ((yIter (r 0) n (y + 1) (ch, pd, yr, Wd)).2.2.2) ((yIter (r 0) n (y + 1) (ch, pd, yr, Wd)).1) ((yIter (r 0) n (y + 1) (ch, pd, yr, Wd)).2.1) ((yIter (r 0) n (y + 1) (ch, pd, yr, Wd)).2.2.1) (WT d (r 0)) ++ ((u2, .inl (cI, 3, .inl (numF yr ch pd))) :: (u1, .inl (cI, 70, .inl (rowsF Wd))) :: R)) H := hP
          have hD : va_D A (mw cI M 0 n d r ((yIter (r 0) n (y + 1) (ch, pd, yr, Wd)).2.2.2) ((yIter (r 0) n (y + 1) (ch, pd, yr, Wd)).1) ((yIter (r 0) n (y + 1) (ch, pd, yr, Wd)).2.1) ((yIter (r 0) n (y + 1) (ch, pd, yr, Wd)).2.2.1) (WT d (r 0)) ++ ((u2, .inl (cI, 3, .inl (numF yr ch pd))) :: (u1, .inl (cI, 70, .inl (rowsF Wd))) :: R)) := hD
          refine lv_iinc (v := (nI (y + 1))) (lv' := [(3, .int (nI (y + 1))), (2, .ref u2), (1, .ref u1), (0, .ref (M 0))]) hx hb dX4_lasts_42 hl (k := 0) rfl (nI_1 y) (by decide) rfl (fun ls hl => ?_)
          refine lv_goto (tgt := 23) hx hb dX4_lasts_45 (by decide) ?_
          exact ih (y + 1) (by omega) hf H locs hP hD hS ls (lv_sub hl [0, 1, 2, 3] rfl)
  refine lv_aload_n hx hb dX4_lasts_0 rfl (lv_at hl 0 rfl) ?_
  refine lv_iconst (v := 0) hx hb dX4_lasts_1 (by decide) ?_
  refine va_put (D := (dC, dI)) (ci := 4) (v := .int 0) (ty := .int) (C := RX4) (T := TX4) (N := 7) hx hb hts (by decide +kernel) tyX4 tyX4_ok nmX4 hown hKK.1 hP hD hS 0 rfl rfl 0 (by decide) (hts (.fieldLink RX4 28 "WidowPenniesModel" "thrown" "I") (by decide +kernel)) (fun _ h9 => h9) rfl (by decide +kernel) rfl rfl (Nat.le_of_ble_eq_true rfl) dX4_lasts_2 (fun H locs hP hD hS => ?_)
  have hP : va_P (dC, dI) vwCl (mw cI M 0 n d r Wd ch pd yr (WT d (r 0)) ++ R) H := hP
  have hD : va_D A (mw cI M 0 n d r Wd ch pd yr (WT d (r 0)) ++ R) := hD
  refine lv_aload_n hx hb dX4_lasts_5 rfl (lv_at hl 0 rfl) ?_
  refine va_get (D := (dC, dI)) (ci := 4) (v := .ref (M 3)) (C := RX4) (T := TX4) (N := 7) hx hb hts (by decide +kernel) hown hKK.1 hP 0 rfl rfl 4 (by decide) (hts (.fieldLink RX4 16 "WidowPenniesModel" "rows" "[I") (by decide +kernel)) (fun _ h9 => h9) rfl dX4_lasts_6 ?_
  refine wr_r (runS1 (As := [.ref (M 3)]) (rest := []) ⟨hx, hb, hml, hown, hts⟩ (met70_X4_copy l dC dI cI cW (mw cI M 0 n d r Wd ch pd yr (WT d (r 0)) ++ R) 3 (M 3) (rowsF Wd) rfl _) (va_cwS 1 hts gX4_lasts_X4_copy rfl rfl rfl (by decide +kernel) ⟨Nat.le_of_ble_eq_true rfl, Nat.le_of_ble_eq_true rfl⟩) hKK hP hD rfl hl.1 (Nat.le_of_ble_eq_true rfl) rfl dX4_lasts_9 ⟨Nat.le_of_ble_eq_true rfl, Nat.le_of_ble_eq_true rfl⟩) hD hS hA (fun u1 H locs hP hD hS => ?_)
  have hP := va_P_perm (perm_tail (mw cI M 0 n d r Wd ch pd yr (WT d (r 0))) R (u1, .inl (cI, 70, .inl (rowsF Wd)))) hP
  have hD := va_D_perm (perm_tail (mw cI M 0 n d r Wd ch pd yr (WT d (r 0))) R (u1, .inl (cI, 70, .inl (rowsF Wd)))) hD
  have hP : va_P (dC, dI) vwCl (mw cI M 0 n d r Wd ch pd yr (WT d (r 0)) ++ ((u1, .inl (cI, 70, .inl (rowsF Wd))) :: R)) H := hP
  have hD : va_D A (mw cI M 0 n d r Wd ch pd yr (WT d (r 0)) ++ ((u1, .inl (cI, 70, .inl (rowsF Wd))) :: R)) := hD
  refine lv_astore_n (lv' := [(1, .ref u1), (0, .ref (M 0))]) hx hb dX4_lasts_12 rfl hl (by decide) rfl (fun ls hl => ?_)
  refine lv_aload_n hx hb dX4_lasts_13 rfl (lv_at hl 1 rfl) ?_
  refine va_get (D := (dC, dI)) (ci := 4) (v := .ref (M 4)) (C := RX4) (T := TX4) (N := 7) hx hb hts (by decide +kernel) hown hKK.1 hP 0 rfl rfl 5 (by decide) (hts (.fieldLink RX4 19 "WidowPenniesModel" "numbers" "[I") (by decide +kernel)) (fun _ h9 => h9) rfl dX4_lasts_14 ?_
  refine wr_r (runS1 (As := [.ref (M 4)]) (rest := []) ⟨hx, hb, hml, hown, hts⟩ (met3_X4_copy l dC dI cI cW (mw cI M 0 n d r Wd ch pd yr (WT d (r 0)) ++ ((u1, .inl (cI, 70, .inl (rowsF Wd))) :: R)) 4 (M 4) (numF yr ch pd) rfl _) (va_cwS 1 hts gX4_lasts_X4_copy rfl rfl rfl (by decide +kernel) ⟨Nat.le_of_ble_eq_true rfl, Nat.le_of_ble_eq_true rfl⟩) hKK hP hD rfl hl.1 (Nat.le_of_ble_eq_true rfl) rfl dX4_lasts_17 ⟨Nat.le_of_ble_eq_true rfl, Nat.le_of_ble_eq_true rfl⟩) hD hS hA (fun u2 H locs hP hD hS => ?_)
  have hP := va_P_perm (perm_tail (mw cI M 0 n d r Wd ch pd yr (WT d (r 0))) ((u1, .inl (cI, 70, .inl (rowsF Wd))) :: R) (u2, .inl (cI, 3, .inl (numF yr ch pd)))) hP
  have hD := va_D_perm (perm_tail (mw cI M 0 n d r Wd ch pd yr (WT d (r 0))) ((u1, .inl (cI, 70, .inl (rowsF Wd))) :: R) (u2, .inl (cI, 3, .inl (numF yr ch pd)))) hD
  have hP : va_P (dC, dI) vwCl (mw cI M 0 n d r Wd ch pd yr (WT d (r 0)) ++ ((u2, .inl (cI, 3, .inl (numF yr ch pd))) :: ((u1, .inl (cI, 70, .inl (rowsF Wd))) :: R))) H := hP
  have hD : va_D A (mw cI M 0 n d r Wd ch pd yr (WT d (r 0)) ++ ((u2, .inl (cI, 3, .inl (numF yr ch pd))) :: ((u1, .inl (cI, 70, .inl (rowsF Wd))) :: R))) := hD
  refine lv_astore_n (lv' := [(2, .ref u2), (1, .ref u1), (0, .ref (M 0))]) hx hb dX4_lasts_20 rfl hl (by decide) rfl (fun ls hl => ?_)
  refine lv_iconst (v := 0) hx hb dX4_lasts_21 (by decide) ?_
  refine lv_istore_n (lv' := [(3, .int 0), (2, .ref u2), (1, .ref u1), (0, .ref (M 0))]) hx hb dX4_lasts_22 rfl hl (by decide) rfl (fun ls hl => ?_)
  exact key _ _ 61 0 (by omega) rfl _ _ hP hD hS ls (lv_sub hl [0, 1, 2, 3] rfl)
set_option maxHeartbeats 4000000 in
set_option maxRecDepth 100000 in
theorem met_X4_even (l : Launch) (dC : Nat → ClassId) (dI : Nat → Nat → Nat) (cI cW : ClassId) (t : Nat) (M : Nat → Nat) (th : Int32) (n : Nat) (d r : Nat → Int32) (Wd : Nat → Nat → Int32) (ch pd yr : Int32) (R : va_W) (hn : n ≤ 10) (hok : ∀ k, k < n → okW (Wd k)) (hr0 : 0 ≤ r 0 ∧ r 0 ≤ 200) (sz : Nat) : Met l yX4_even wsX4_even ({ frames := 4, cells := 0, slots := 0, locals := 86 }) (PreH dC dI cI cW t [.ref (M 0)] (mw cI M th n d r Wd ch pd yr (WT d (r 0)) ++ R) sz) (Qi1 dC dI (fun z => z = evR (evS d n ch Wd)) (mw cI M th n d r Wd ch pd yr (WT d (r 0)) ++ R) (mw cI M 0 n d r Wd ch pd yr (WT d (r 0)) ++ R) sz) 0 0 (va_A (mw cI M th n d r Wd ch pd yr (WT d (r 0)) ++ R) sz) := by
  refine Met.ofW (cc := cX4_even) (maxL := 4) (ret := (some .int)) (by decide) rfl ?_
  intro p e s m args below meth c s₁ B hml hv
  obtain ⟨rfl, hsz, hP, hD0, hKK, hHG⟩ := hv
  subst hsz
  have hx := B.exec
  have hb := B.bytes
  have hr := B.returns
  have hts := atoms_spec (ws := wsX4_even) B.pre
  have hown : s.vm.findClass RX4 = some m.cls := findClass_of_methodNamed B.named
  have hlocks := B.notSynchronized
  have hD := hD0.self (sz := s.heap.size)
  generalize hAe : va_A (mw cI M th n d r Wd ch pd yr (WT d (r 0)) ++ R) s.heap.size = A at hD ⊢
  rw [hAe] at hHG
  have hA : ∀ q : Nat, s.heap.size ≤ q → A q := fun q h => by rw [← hAe]; exact Or.inr h
  have hS : va_S A s.heap s.heap [] := va_S.rf
  have hl := lv_entry ([.ref (M 0)]) (n := 4) (Nat.le_of_ble_eq_true rfl)
  rw [lg_entry_eq]
  generalize (lg_sl ([.ref (M 0)]) ++ List.replicate (4 - (lg_sl ([.ref (M 0)])).length) Slot.unset).toArray = ls at hl ⊢
  have hl : lv_has ls 4 [(0, .ref (M 0))] := hl
  have hE : evS d n ch Wd ≤ 201 := evS_rng d n ch Wd
  have hi0 := (hi_of hr0).1
  have hend : ∀ (rr : Nat → Int32) (best : Int32), upd rr 0 (r 0) = r → (∀ j, ¬ (j < 1581 ∧ j % 51 < 50) → WT d (rr 0) j = 0) → best = evR (evS d n ch Wd) → ∀ (H : Heap) (locs : List Loc), va_P (dC, dI) vwCl (mw cI M 0 n d rr Wd ch pd yr (WT d (rr 0)) ++ R) H → va_D A (mw cI M 0 n d rr Wd ch pd yr (WT d (rr 0)) ++ R) → va_S A s.heap H locs → ∀ ls : Array Slot, ∀ t9 : Int32, lv_has ls 4 [(3, .int t9), (2, .int best), (1, .int (r 0)), (0, .ref (M 0))] → W p l e (headSpec wsX4_even ({ frames := 4, cells := 0, slots := 0, locals := 86 })).room s m (([.ref (M 0)] : List Value).toArray) below meth c H locs 0 0 (MQ below (Qi1 dC dI (fun z => z = evR (evS d n ch Wd)) (mw cI M th n d r Wd ch pd yr (WT d (r 0)) ++ R) (mw cI M 0 n d r Wd ch pd yr (WT d (r 0)) ++ R) s.heap.size) ([.ref (M 0)] : List Value).toArray s 0 0 A) (F0 m 62 ls []) := by
    intro rr best hrr hz9 hbest H locs hP hD hS ls t9 hl
    refine lv_aload_n hx hb dX4_even_62 rfl (lv_at hl 3 rfl) ?_
    refine va_get (D := (dC, dI)) (ci := 4) (v := .ref (M 1)) (C := RX4) (T := TX4) (N := 7) hx hb hts (by decide +kernel) hown hKK.1 hP 0 rfl rfl 2 (by decide) (hts (.fieldLink RX4 7 "WidowPenniesModel" "rates" "[I") (by decide +kernel)) (fun _ h9 => h9) rfl dX4_even_63 ?_
    refine lv_iconst (v := 0) hx hb dX4_even_66 (by decide) ?_
    refine lv_iload_n hx hb dX4_even_67 rfl (lv_at hl 2 rfl) ?_
    refine va_iast hx hb hKK.1 hP hD hS 1 0 rfl rfl (vp_in_nI (n := 0) (by omega) (by omega)) dX4_even_68 (fun H locs hP hD hS => ?_)
    rw [show (0 : Int32).toNatClampNeg = 0 from rfl, hrr] at hP hD
    have hP : va_P (dC, dI) vwCl (mw cI M 0 n d r Wd ch pd yr (WT d (rr 0)) ++ R) H := hP
    have hD : va_D A (mw cI M 0 n d r Wd ch pd yr (WT d (rr 0)) ++ R) := hD
    refine lv_aload_n hx hb dX4_even_69 rfl (lv_at hl 3 rfl) ?_
    refine wr_v (runV1 (As := []) (rest := []) ⟨hx, hb, hml, hown, hts⟩ (met_X4_reckon l dC dI cI cW M 0 n d r Wd ch pd yr (WT d (rr 0)) R hz9 hi0 _) (cwV 0 hts gX4_even_X4_reckon rfl rfl rfl (by decide +kernel) ⟨Nat.le_of_ble_eq_true rfl, Nat.le_of_ble_eq_true rfl⟩) hKK hP hD 4 0 rfl rfl rfl hl.1 (Nat.le_of_ble_eq_true rfl) rfl dX4_even_70 ⟨Nat.zero_le _, Nat.zero_le _⟩) hD hS hA (fun H locs hP hD hS => ?_)
    have hP : va_P (dC, dI) vwCl (mw cI M 0 n d r Wd ch pd yr (WT d (r 0)) ++ R) H := hP
    have hD : va_D A (mw cI M 0 n d r Wd ch pd yr (WT d (r 0)) ++ R) := hD
    refine lv_iload_n hx hb dX4_even_73 rfl (lv_at hl 1 rfl) ?_
    have hP9 : va_P (dC, dI) vwCl (mw cI M 0 n d r Wd ch pd yr (WT d (r 0)) ++ R) _ := hP
    have hD9 : va_D A (mw cI M 0 n d r Wd ch pd yr (WT d (r 0)) ++ R) := hD
    have hz : best = evR (evS d n ch Wd) := hbest
    exact W.iret (v := best) hx hb hr (fun t ht hW => ⟨⟨_, (), rfl, hz, by rw [ht]; exact hP9, by rw [hAe]; exact hD9⟩, by rw [hAe]; exact hS.F ht⟩) hS.2.2 dX4_even_74
  have key : ∀ (m9 j : Nat), j + m9 = 201 → fstS (fun i => decide (sm (kptF d (nI i) Wd) n ≤ ch)) m9 j = evS d n ch Wd → ∀ rr : Nat → Int32, upd rr 0 (r 0) = r → ∀ (H : Heap) (locs : List Loc), va_P (dC, dI) vwCl (mw cI M 0 n d rr Wd ch pd yr (WT d (rr 0)) ++ R) H → va_D A (mw cI M 0 n d rr Wd ch pd yr (WT d (rr 0)) ++ R) → va_S A s.heap H locs → ∀ ls : Array Slot, lv_has ls 4 [(3, .int (nI j)), (2, .int (-1)), (1, .int (r 0)), (0, .ref (M 0))] → W p l e (headSpec wsX4_even ({ frames := 4, cells := 0, slots := 0, locals := 86 })).room s m (([.ref (M 0)] : List Value).toArray) below meth c H locs 0 0 (MQ below (Qi1 dC dI (fun z => z = evR (evS d n ch Wd)) (mw cI M th n d r Wd ch pd yr (WT d (r 0)) ++ R) (mw cI M 0 n d r Wd ch pd yr (WT d (r 0)) ++ R) s.heap.size) ([.ref (M 0)] : List Value).toArray s 0 0 A) (F0 m 16 ls []) := by
    intro m9
    induction m9 with
    | zero =>
      intro j hj hf rr hrr H locs hP hD hS ls hl
      have hj1 : j = 201 := by omega
      subst hj1
      refine lv_iload_n hx hb dX4_even_16 rfl (lv_at hl 0 rfl) ?_
      refine va_gets (v := .ref t) hx hb hHG.1 hS hown (hts (.fieldLink RX4 75 "WidowPenniesModel" "HIGH" "[I") (by decide +kernel)) (fun _ h9 => h9) dX4_even_17 ?_
      refine lv_iconst (v := 0) hx hb dX4_even_20 (by decide) ?_
      refine va_ti (v := .int (highF 0)) hx hb hHG.2 hS (vp_in_nI (n := 0) (by omega) (by omega)) rfl dX4_even_21 ?_
      refine lv_icmp_gt (tgt := 62) hx hb dX4_even_22 (by decide) (fun c_1 => ?_) (fun c_1 => ?_)
      · exact hend rr (-1) (hrr) (WT_zero d _) (by rw [← hf]; rfl) _ _ hP hD hS ls _ (lv_sub hl [0, 1, 2, 3] rfl)
      · exact absurd (by decide) c_1
    | succ m9 ih =>
      intro j hj hf rr hrr H locs hP hD hS ls hl
      refine lv_iload_n hx hb dX4_even_16 rfl (lv_at hl 0 rfl) ?_
      refine va_gets (v := .ref t) hx hb hHG.1 hS hown (hts (.fieldLink RX4 75 "WidowPenniesModel" "HIGH" "[I") (by decide +kernel)) (fun _ h9 => h9) dX4_even_17 ?_
      refine lv_iconst (v := 0) hx hb dX4_even_20 (by decide) ?_
      refine va_ti (v := .int (highF 0)) hx hb hHG.2 hS (vp_in_nI (n := 0) (by omega) (by omega)) rfl dX4_even_21 ?_
      refine lv_icmp_gt (tgt := 62) hx hb dX4_even_22 (by decide) (fun c_1 => ?_) (fun c_1 => ?_)
      · exact absurd c_1 (fun q9 => absurd ((lt_nI (a := 200) (by omega)).mp q9) (by omega))
      · refine lv_iload_n hx hb dX4_even_25 rfl (lv_at hl 1 rfl) ?_
        refine lv_iconst (v := (-1)) hx hb dX4_even_26 (by decide) ?_
        refine lv_icmp_ne (tgt := 62) hx hb dX4_even_27 (by decide) (fun c_2 => ?_) (fun c_2 => ?_)
        · exact absurd rfl c_2
        · refine lv_aload_n hx hb dX4_even_30 rfl (lv_at hl 3 rfl) ?_
          refine va_get (D := (dC, dI)) (ci := 4) (v := .ref (M 1)) (C := RX4) (T := TX4) (N := 7) hx hb hts (by decide +kernel) hown hKK.1 hP 0 rfl rfl 2 (by decide) (hts (.fieldLink RX4 7 "WidowPenniesModel" "rates" "[I") (by decide +kernel)) (fun _ h9 => h9) rfl dX4_even_31 ?_
          refine lv_iconst (v := 0) hx hb dX4_even_34 (by decide) ?_
          refine lv_iload_n hx hb dX4_even_35 rfl (lv_at hl 0 rfl) ?_
          refine va_iast hx hb hKK.1 hP hD hS 1 0 rfl rfl (vp_in_nI (n := 0) (by omega) (by omega)) dX4_even_36 (fun H locs hP hD hS => ?_)
          rw [show (0 : Int32).toNatClampNeg = 0 from rfl] at hP hD
          have hP : va_P (dC, dI) vwCl (mw cI M 0 n d (upd rr 0 (nI j)) Wd ch pd yr (WT d (rr 0)) ++ R) H := hP
          have hD : va_D A (mw cI M 0 n d (upd rr 0 (nI j)) Wd ch pd yr (WT d (rr 0)) ++ R) := hD
          refine lv_aload_n hx hb dX4_even_37 rfl (lv_at hl 3 rfl) ?_
          refine wr_v (runV1 (As := []) (rest := []) ⟨hx, hb, hml, hown, hts⟩ (met_X4_reckon l dC dI cI cW M 0 n d (upd rr 0 (nI j)) Wd ch pd yr (WT d (rr 0)) R (WT_zero d _) ((hi_of (in_200 (show j ≤ 200 by omega))).1) _) (cwV 0 hts gX4_even_X4_reckon rfl rfl rfl (by decide +kernel) ⟨Nat.le_of_ble_eq_true rfl, Nat.le_of_ble_eq_true rfl⟩) hKK hP hD 4 0 rfl rfl rfl hl.1 (Nat.le_of_ble_eq_true rfl) rfl dX4_even_38 ⟨Nat.zero_le _, Nat.zero_le _⟩) hD hS hA (fun H locs hP hD hS => ?_)
          have hP : va_P (dC, dI) vwCl (mw cI M 0 n d (upd rr 0 (nI j)) Wd ch pd yr (WT d ((upd rr 0 (nI j)) 0)) ++ R) H := hP
          have hD : va_D A (mw cI M 0 n d (upd rr 0 (nI j)) Wd ch pd yr (WT d ((upd rr 0 (nI j)) 0)) ++ R) := hD
          refine lv_aload_n hx hb dX4_even_41 rfl (lv_at hl 3 rfl) ?_
          refine va_get (D := (dC, dI)) (ci := 4) (v := .ref (M 4)) (C := RX4) (T := TX4) (N := 7) hx hb hts (by decide +kernel) hown hKK.1 hP 0 rfl rfl 5 (by decide) (hts (.fieldLink RX4 19 "WidowPenniesModel" "numbers" "[I") (by decide +kernel)) (fun _ h9 => h9) rfl dX4_even_42 ?_
          refine lv_iconst (v := 1) hx hb dX4_even_45 (by decide) ?_
          refine va_iald hx hb hKK.1 hP 4 0 rfl rfl (vp_in_nI (n := 1) (by omega) (by omega)) dX4_even_46 ?_
          rw [show (numF yr ch pd) (1 : Int32).toNatClampNeg = (numF yr ch pd) 1 from rfl]
          refine lv_aload_n hx hb dX4_even_47 rfl (lv_at hl 3 rfl) ?_
          refine rd_i (runV0 (As := []) (rest := [.int ((numF yr ch pd) 1)]) ⟨hx, hb, hml, hown, hts⟩ (met_X4_keptForAll l dC dI cI cW M 0 n d (upd rr 0 (nI j)) Wd ch pd yr hn hok) (cwV 0 hts gX4_even_X4_keptForAll rfl rfl rfl (by decide +kernel) ⟨Nat.le_of_ble_eq_true rfl, Nat.le_of_ble_eq_true rfl⟩) hKK (ws_left hP) 4 0 rfl rfl rfl hl.1 (Nat.le_of_ble_eq_true rfl) rfl dX4_even_48 ⟨Nat.zero_le _, Nat.zero_le _⟩) (fun r_3 hr_3 => ?_)
          subst hr_3
          refine lv_icmp_lt (tgt := 56) hx hb dX4_even_51 (by decide) (fun c_4 => ?_) (fun c_4 => ?_)
          · have hf : fstS (fun i => decide (sm (kptF d (nI i) Wd) n ≤ ch)) m9 (j + 1) = evS d n ch Wd := by rw [← hf, fstS, if_neg (by simp only [decide_eq_true_eq]; exact Int32.not_le.mpr c_4)]
            refine lv_iinc (v := (nI (j + 1))) (lv' := [(3, .int (nI (j + 1))), (2, .int (-1)), (1, .int (r 0)), (0, .ref (M 0))]) hx hb dX4_even_56 hl (k := 0) rfl (nI_1 j) (by decide) rfl (fun ls hl => ?_)
            refine lv_goto (tgt := 16) hx hb dX4_even_59 (by decide) ?_
            exact ih (j + 1) (by omega) hf (upd rr 0 (nI j)) (by rw [upd_upd]; exact hrr) H locs hP hD hS ls (lv_sub hl [0, 1, 2, 3] rfl)
          · have hf : j = evS d n ch Wd := by rw [← hf, fstS, if_pos (by simp only [decide_eq_true_eq]; exact Int32.not_lt.mp c_4)]
            refine lv_iload_n hx hb dX4_even_54 rfl (lv_at hl 0 rfl) ?_
            refine lv_istore_n (lv' := [(2, .int (nI j)), (3, .int (nI j)), (1, .int (r 0)), (0, .ref (M 0))]) hx hb dX4_even_55 rfl hl (by decide) rfl (fun ls hl => ?_)
            refine lv_iinc (v := (nI (j + 1))) (lv' := [(3, .int (nI (j + 1))), (2, .int (nI j)), (1, .int (r 0)), (0, .ref (M 0))]) hx hb dX4_even_56 hl (k := 1) rfl (nI_1 j) (by decide) rfl (fun ls hl => ?_)
            refine lv_goto (tgt := 16) hx hb dX4_even_59 (by decide) ?_
            refine lv_iload_n hx hb dX4_even_16 rfl (lv_at hl 0 rfl) ?_
            refine va_gets (v := .ref t) hx hb hHG.1 hS hown (hts (.fieldLink RX4 75 "WidowPenniesModel" "HIGH" "[I") (by decide +kernel)) (fun _ h9 => h9) dX4_even_17 ?_
            refine lv_iconst (v := 0) hx hb dX4_even_20 (by decide) ?_
            refine va_ti (v := .int (highF 0)) hx hb hHG.2 hS (vp_in_nI (n := 0) (by omega) (by omega)) rfl dX4_even_21 ?_
            refine lv_icmp_gt (tgt := 62) hx hb dX4_even_22 (by decide) (fun c_105 => ?_) (fun c_105 => ?_)
            · exact hend (upd rr 0 (nI j)) (nI j) (by rw [upd_upd]; exact hrr) (WT_zero d _) (by rw [← hf, evR, if_neg (by omega)]) _ _ hP hD hS ls _ (lv_sub hl [0, 1, 2, 3] rfl)
            · refine lv_iload_n hx hb dX4_even_25 rfl (lv_at hl 1 rfl) ?_
              refine lv_iconst (v := (-1)) hx hb dX4_even_26 (by decide) ?_
              refine lv_icmp_ne (tgt := 62) hx hb dX4_even_27 (by decide) (fun c_106 => ?_) (fun c_106 => ?_)
              · exact hend (upd rr 0 (nI j)) (nI j) (by rw [upd_upd]; exact hrr) (WT_zero d _) (by rw [← hf, evR, if_neg (by omega)]) _ _ hP hD hS ls _ (lv_sub hl [0, 1, 2, 3] rfl)
              · exact (nI_neg1 (by omega) c_106).elim
  refine lv_aload_n hx hb dX4_even_0 rfl (lv_at hl 0 rfl) ?_
  refine lv_iconst (v := 0) hx hb dX4_even_1 (by decide) ?_
  refine va_put (D := (dC, dI)) (ci := 4) (v := .int 0) (ty := .int) (C := RX4) (T := TX4) (N := 7) hx hb hts (by decide +kernel) tyX4 tyX4_ok nmX4 hown hKK.1 hP hD hS 0 rfl rfl 0 (by decide) (hts (.fieldLink RX4 28 "WidowPenniesModel" "thrown" "I") (by decide +kernel)) (fun _ h9 => h9) rfl (by decide +kernel) rfl rfl (Nat.le_of_ble_eq_true rfl) dX4_even_2 (fun H locs hP hD hS => ?_)
  have hP : va_P (dC, dI) vwCl (mw cI M 0 n d r Wd ch pd yr (WT d (r 0)) ++ R) H := hP
  have hD : va_D A (mw cI M 0 n d r Wd ch pd yr (WT d (r 0)) ++ R) := hD
  refine lv_aload_n hx hb dX4_even_5 rfl (lv_at hl 0 rfl) ?_
  refine va_get (D := (dC, dI)) (ci := 4) (v := .ref (M 1)) (C := RX4) (T := TX4) (N := 7) hx hb hts (by decide +kernel) hown hKK.1 hP 0 rfl rfl 2 (by decide) (hts (.fieldLink RX4 7 "WidowPenniesModel" "rates" "[I") (by decide +kernel)) (fun _ h9 => h9) rfl dX4_even_6 ?_
  refine lv_iconst (v := 0) hx hb dX4_even_9 (by decide) ?_
  refine va_iald hx hb hKK.1 hP 1 0 rfl rfl (vp_in_nI (n := 0) (by omega) (by omega)) dX4_even_10 ?_
  rw [show r (0 : Int32).toNatClampNeg = r 0 from rfl]
  refine lv_istore_n (lv' := [(1, .int (r 0)), (0, .ref (M 0))]) hx hb dX4_even_11 rfl hl (by decide) rfl (fun ls hl => ?_)
  refine lv_iconst (v := (-1)) hx hb dX4_even_12 (by decide) ?_
  refine lv_istore_n (lv' := [(2, .int (-1)), (1, .int (r 0)), (0, .ref (M 0))]) hx hb dX4_even_13 rfl hl (by decide) rfl (fun ls hl => ?_)
  refine lv_iconst (v := 0) hx hb dX4_even_14 (by decide) ?_
  refine lv_istore_n (lv' := [(3, .int 0), (2, .int (-1)), (1, .int (r 0)), (0, .ref (M 0))]) hx hb dX4_even_15 rfl hl (by decide) rfl (fun ls hl => ?_)
  exact key 201 0 (by omega) rfl r (upd_self r 0) _ _ hP hD hS ls (lv_sub hl [0, 1, 2, 3] rfl)
