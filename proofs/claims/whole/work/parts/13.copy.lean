set_option maxHeartbeats 4000000 in
set_option maxRecDepth 100000 in
theorem met_X0_copy (l : Launch) (dC : Nat → ClassId) (dI : Nat → Nat → Nat) (cI cW : ClassId) (X Br Bk : Nat → Nat) (d r : Nat → Int32) (n2 : Nat) (ch2 pd2 pr2 yr2 : Int32) (W2 : Nat → Nat → Int32) (n : Nat) (ch pd pr yr : Int32) (Wd : Nat → Nat → Int32) (R : va_W) (sz : Nat) : Met l yX0_copy wsX0_copy ({ frames := 1, cells := 0, slots := 0, locals := 21 }) (Pre1 dC dI cI cW [.ref (Br 0), .ref (Bk 0)] (tab cI X d r ++ (bk cW X Br n2 ch2 pd2 pr2 yr2 W2 ++ (bk cW X Bk n ch pd pr yr Wd ++ R))) sz) (Qv1 dC dI (tab cI X d r ++ (bk cW X Br n2 ch2 pd2 pr2 yr2 W2 ++ (bk cW X Bk n ch pd pr yr Wd ++ R))) (tab cI X d r ++ (bk cW X Br n ch pd pr yr Wd ++ (bk cW X Bk n ch pd pr yr Wd ++ R))) sz) 0 0 (va_A (tab cI X d r ++ (bk cW X Br n2 ch2 pd2 pr2 yr2 W2 ++ (bk cW X Bk n ch pd pr yr Wd ++ R))) sz) := by
  refine Met.ofW (cc := cX0_copy) (maxL := 3) (ret := none) (by decide) rfl ?_
  intro p e s m args below meth c s₁ B hml hv
  obtain ⟨rfl, hsz, hP, hD0, hKK⟩ := hv
  subst hsz
  have hx := B.exec
  have hb := B.bytes
  have hr := B.returns
  have hts := atoms_spec (ws := wsX0_copy) B.pre
  have hown : s.vm.findClass RX0 = some m.cls := findClass_of_methodNamed B.named
  have hlocks := B.notSynchronized
  have hD := hD0.self (sz := s.heap.size)
  generalize hAe : va_A (tab cI X d r ++ (bk cW X Br n2 ch2 pd2 pr2 yr2 W2 ++ (bk cW X Bk n ch pd pr yr Wd ++ R))) s.heap.size = A at hD ⊢
  have hA : ∀ q : Nat, s.heap.size ≤ q → A q := fun q h => by rw [← hAe]; exact Or.inr h
  have hS : va_S A s.heap s.heap [] := va_S.rf
  have hl := lv_entry ([.ref (Br 0), .ref (Bk 0)]) (n := 3) (Nat.le_of_ble_eq_true rfl)
  rw [lg_entry_eq]
  generalize (lg_sl ([.ref (Br 0), .ref (Bk 0)]) ++ List.replicate (3 - (lg_sl ([.ref (Br 0), .ref (Bk 0)])).length) Slot.unset).toArray = ls at hl ⊢
  have hl : lv_has ls 3 [(0, .ref (Br 0)), (1, .ref (Bk 0))] := hl
  have key : ∀ (m9 j : Nat), j + m9 = 10 → ∀ (H : Heap) (locs : List Loc), va_P (dC, dI) vwCl (tab cI X d r ++ (bk cW X Br n ch pd pr yr (cpW W2 Wd j) ++ (bk cW X Bk n ch pd pr yr Wd ++ R))) H → va_D A (tab cI X d r ++ (bk cW X Br n ch pd pr yr (cpW W2 Wd j) ++ (bk cW X Bk n ch pd pr yr Wd ++ R))) → va_S A s.heap H locs → ∀ ls : Array Slot, lv_has ls 3 [(2, .int (nI j)), (0, .ref (Br 0)), (1, .ref (Bk 0))] → W p l e (headSpec wsX0_copy ({ frames := 1, cells := 0, slots := 0, locals := 21 })).room s m (([.ref (Br 0), .ref (Bk 0)] : List Value).toArray) below meth c H locs 0 0 (MQ below (Qv1 dC dI (tab cI X d r ++ (bk cW X Br n2 ch2 pd2 pr2 yr2 W2 ++ (bk cW X Bk n ch pd pr yr Wd ++ R))) (tab cI X d r ++ (bk cW X Br n ch pd pr yr Wd ++ (bk cW X Bk n ch pd pr yr Wd ++ R))) s.heap.size) ([.ref (Br 0), .ref (Bk 0)] : List Value).toArray s 0 0 A) (F0 m 42 ls []) := by
    intro m9
    induction m9 with
    | zero =>
      intro j hj H locs hP hD hS ls hl
      have hjn : j = 10 := by omega
      subst hjn
      refine lv_iload_n hx hb dX0_copy_42 rfl (lv_at hl 0 rfl) ?_
      refine lv_bipush (v := 10) hx hb dX0_copy_43 (by decide) ?_
      refine lv_icmp_ge (tgt := 69) hx hb dX0_copy_45 (by decide) (fun c_1 => ?_) (fun c_1 => ?_)
      · have hP9 : va_P (dC, dI) vwCl (tab cI X d r ++ (bk cW X Br n ch pd pr yr (cpW W2 Wd 10) ++ (bk cW X Bk n ch pd pr yr Wd ++ R))) _ := hP
        have hD9 : va_D A (tab cI X d r ++ (bk cW X Br n ch pd pr yr (cpW W2 Wd 10) ++ (bk cW X Bk n ch pd pr yr Wd ++ R))) := hD
        rw [bk_cp] at hP9 hD9
        exact W.vret hx hb hr (fun t ht hW => ⟨⟨(), rfl, trivial, by rw [ht]; exact hP9, by rw [hAe]; exact hD9⟩, by rw [hAe]; exact hS.F ht⟩) hS.2.2 dX0_copy_69
      · exact absurd (by decide) c_1
    | succ m9 ih =>
      intro j hj H locs hP hD hS ls hl
      have hj10 : j < 10 := by omega
      refine lv_iload_n hx hb dX0_copy_42 rfl (lv_at hl 0 rfl) ?_
      refine lv_bipush (v := 10) hx hb dX0_copy_43 (by decide) ?_
      refine lv_icmp_ge (tgt := 69) hx hb dX0_copy_45 (by decide) (fun c_1 => ?_) (fun c_1 => ?_)
      · exact absurd c_1 (fun q => absurd ((le_nI (a := 10) (by omega)).mp q) (by omega))
      · refine lv_aload_n hx hb dX0_copy_48 rfl (lv_at hl 1 rfl) ?_
        refine va_get (D := (dC, dI)) (ci := 0) (v := .ref (Br 1)) (C := RX0) (T := TX0) (N := 7) hx hb hts (by decide +kernel) hown hKK.1 hP 3 rfl rfl 1 (by decide) (hts (.fieldLink RX0 17 "WidowPennies$Book" "widows" "[LWidowPennies$Widow;") (by decide +kernel)) (fun _ h9 => h9) rfl dX0_copy_49 ?_
        refine lv_iload_n hx hb dX0_copy_52 rfl (lv_at hl 0 rfl) ?_
        refine va_aldq hx hb hKK.1 hP 4 1 rfl rfl (vp_in_nI hj10 (by omega)) dX0_copy_53 ?_
        rw [show va_rf ((fun k => some (Br (k + 2))) (nI j).toNatClampNeg) = .ref (Br (j + 2)) from by rw [clamp_nI (show j < 2147483648 by omega)]; rfl]
        refine lv_aload_n hx hb dX0_copy_54 rfl (lv_at hl 2 rfl) ?_
        refine va_get (D := (dC, dI)) (ci := 0) (v := .ref (Bk 1)) (C := RX0) (T := TX0) (N := 7) hx hb hts (by decide +kernel) hown hKK.1 hP 15 bw2_obj rfl 1 (by decide) (hts (.fieldLink RX0 17 "WidowPennies$Book" "widows" "[LWidowPennies$Widow;") (by decide +kernel)) (fun _ h9 => h9) rfl dX0_copy_55 ?_
        refine lv_iload_n hx hb dX0_copy_58 rfl (lv_at hl 0 rfl) ?_
        refine va_aldq hx hb hKK.1 hP 16 1 bw2_arr rfl (vp_in_nI hj10 (by omega)) dX0_copy_59 ?_
        rw [show va_rf ((fun k => some (Bk (k + 2))) (nI j).toNatClampNeg) = .ref (Bk (j + 2)) from by rw [clamp_nI (show j < 2147483648 by omega)]; rfl]
        refine wr_v (runV1 (As := [.ref (Bk (j + 2))]) (rest := []) ⟨hx, hb, hml, hown, hts⟩ (met_X2_copy l dC dI cI cW (tab cI X d r ++ (bk cW X Br n ch pd pr yr (cpW W2 Wd j) ++ (bk cW X Bk n ch pd pr yr Wd ++ R))) (j + 5) (Br (j + 2)) ((cpW W2 Wd j) j) (bw_at hj10) (j + 17) (Bk (j + 2)) (Wd j) (bw2_at hj10) (by omega) _) (cwV 1 hts gX0_copy_X2_copy rfl rfl rfl (by decide +kernel) ⟨Nat.le_of_ble_eq_true rfl, Nat.le_of_ble_eq_true rfl⟩) hKK hP hD 2 (j + 5) rfl (bw_at hj10) rfl hl.1 (Nat.le_of_ble_eq_true rfl) rfl dX0_copy_60 ⟨Nat.zero_le _, Nat.zero_le _⟩) hD hS hA (fun H locs hP hD hS => ?_)
        have hP : va_P (dC, dI) vwCl (tab cI X d r ++ (bk cW X Br n ch pd pr yr (cpW W2 Wd (j + 1)) ++ (bk cW X Bk n ch pd pr yr Wd ++ R))) H := by rw [bw_set hj10, cpW_put] at hP; exact hP
        have hD : va_D A (tab cI X d r ++ (bk cW X Br n ch pd pr yr (cpW W2 Wd (j + 1)) ++ (bk cW X Bk n ch pd pr yr Wd ++ R))) := by rw [bw_set hj10, cpW_put] at hD; exact hD
        refine lv_iinc (v := (nI (j + 1))) (lv' := [(2, .int (nI (j + 1))), (0, .ref (Br 0)), (1, .ref (Bk 0))]) hx hb dX0_copy_63 hl (k := 0) rfl (nI_1 j) (by decide) rfl (fun ls hl => ?_)
        refine lv_goto (tgt := 42) hx hb dX0_copy_66 (by decide) ?_
        exact ih (j + 1) (by omega) H locs hP hD hS ls (lv_sub hl [0, 1, 2] rfl)
  refine lv_aload_n hx hb dX0_copy_0 rfl (lv_at hl 0 rfl) ?_
  refine lv_aload_n hx hb dX0_copy_1 rfl (lv_at hl 1 rfl) ?_
  refine va_get (D := (dC, dI)) (ci := 0) (v := .int (nI n)) (C := RX0) (T := TX0) (N := 7) hx hb hts (by decide +kernel) hown hKK.1 hP 15 bw2_obj rfl 2 (by decide) (hts (.fieldLink RX0 22 "WidowPennies$Book" "written" "I") (by decide +kernel)) (fun _ h9 => h9) rfl dX0_copy_2 ?_
  refine va_put (D := (dC, dI)) (ci := 0) (v := .int (nI n)) (ty := .int) (C := RX0) (T := TX0) (N := 7) hx hb hts (by decide +kernel) tyX0 tyX0_ok nmX0 hown hKK.1 hP hD hS 3 rfl rfl 2 (by decide) (hts (.fieldLink RX0 22 "WidowPennies$Book" "written" "I") (by decide +kernel)) (fun _ h9 => h9) rfl (by decide +kernel) rfl rfl (Nat.le_of_ble_eq_true rfl) dX0_copy_5 (fun H locs hP hD hS => ?_)
  have hP : va_P (dC, dI) vwCl (tab cI X d r ++ (bk cW X Br n ch2 pd2 pr2 yr2 W2 ++ (bk cW X Bk n ch pd pr yr Wd ++ R))) H := hP
  have hD : va_D A (tab cI X d r ++ (bk cW X Br n ch2 pd2 pr2 yr2 W2 ++ (bk cW X Bk n ch pd pr yr Wd ++ R))) := hD
  refine lv_aload_n hx hb dX0_copy_8 rfl (lv_at hl 0 rfl) ?_
  refine lv_aload_n hx hb dX0_copy_9 rfl (lv_at hl 1 rfl) ?_
  refine va_get (D := (dC, dI)) (ci := 0) (v := .int ch) (C := RX0) (T := TX0) (N := 7) hx hb hts (by decide +kernel) hown hKK.1 hP 15 bw2_obj rfl 3 (by decide) (hts (.fieldLink RX0 41 "WidowPennies$Book" "chest" "I") (by decide +kernel)) (fun _ h9 => h9) rfl dX0_copy_10 ?_
  refine va_put (D := (dC, dI)) (ci := 0) (v := .int ch) (ty := .int) (C := RX0) (T := TX0) (N := 7) hx hb hts (by decide +kernel) tyX0 tyX0_ok nmX0 hown hKK.1 hP hD hS 3 rfl rfl 3 (by decide) (hts (.fieldLink RX0 41 "WidowPennies$Book" "chest" "I") (by decide +kernel)) (fun _ h9 => h9) rfl (by decide +kernel) rfl rfl (Nat.le_of_ble_eq_true rfl) dX0_copy_13 (fun H locs hP hD hS => ?_)
  have hP : va_P (dC, dI) vwCl (tab cI X d r ++ (bk cW X Br n ch pd2 pr2 yr2 W2 ++ (bk cW X Bk n ch pd pr yr Wd ++ R))) H := hP
  have hD : va_D A (tab cI X d r ++ (bk cW X Br n ch pd2 pr2 yr2 W2 ++ (bk cW X Bk n ch pd pr yr Wd ++ R))) := hD
  refine lv_aload_n hx hb dX0_copy_16 rfl (lv_at hl 0 rfl) ?_
  refine lv_aload_n hx hb dX0_copy_17 rfl (lv_at hl 1 rfl) ?_
  refine va_get (D := (dC, dI)) (ci := 0) (v := .int pd) (C := RX0) (T := TX0) (N := 7) hx hb hts (by decide +kernel) hown hKK.1 hP 15 bw2_obj rfl 4 (by decide) (hts (.fieldLink RX0 45 "WidowPennies$Book" "paidOut" "I") (by decide +kernel)) (fun _ h9 => h9) rfl dX0_copy_18 ?_
  refine va_put (D := (dC, dI)) (ci := 0) (v := .int pd) (ty := .int) (C := RX0) (T := TX0) (N := 7) hx hb hts (by decide +kernel) tyX0 tyX0_ok nmX0 hown hKK.1 hP hD hS 3 rfl rfl 4 (by decide) (hts (.fieldLink RX0 45 "WidowPennies$Book" "paidOut" "I") (by decide +kernel)) (fun _ h9 => h9) rfl (by decide +kernel) rfl rfl (Nat.le_of_ble_eq_true rfl) dX0_copy_21 (fun H locs hP hD hS => ?_)
  have hP : va_P (dC, dI) vwCl (tab cI X d r ++ (bk cW X Br n ch pd pr2 yr2 W2 ++ (bk cW X Bk n ch pd pr yr Wd ++ R))) H := hP
  have hD : va_D A (tab cI X d r ++ (bk cW X Br n ch pd pr2 yr2 W2 ++ (bk cW X Bk n ch pd pr yr Wd ++ R))) := hD
  refine lv_aload_n hx hb dX0_copy_24 rfl (lv_at hl 0 rfl) ?_
  refine lv_aload_n hx hb dX0_copy_25 rfl (lv_at hl 1 rfl) ?_
  refine va_get (D := (dC, dI)) (ci := 0) (v := .int pr) (C := RX0) (T := TX0) (N := 7) hx hb hts (by decide +kernel) hown hKK.1 hP 15 bw2_obj rfl 5 (by decide) (hts (.fieldLink RX0 34 "WidowPennies$Book" "prices" "I") (by decide +kernel)) (fun _ h9 => h9) rfl dX0_copy_26 ?_
  refine va_put (D := (dC, dI)) (ci := 0) (v := .int pr) (ty := .int) (C := RX0) (T := TX0) (N := 7) hx hb hts (by decide +kernel) tyX0 tyX0_ok nmX0 hown hKK.1 hP hD hS 3 rfl rfl 5 (by decide) (hts (.fieldLink RX0 34 "WidowPennies$Book" "prices" "I") (by decide +kernel)) (fun _ h9 => h9) rfl (by decide +kernel) rfl rfl (Nat.le_of_ble_eq_true rfl) dX0_copy_29 (fun H locs hP hD hS => ?_)
  have hP : va_P (dC, dI) vwCl (tab cI X d r ++ (bk cW X Br n ch pd pr yr2 W2 ++ (bk cW X Bk n ch pd pr yr Wd ++ R))) H := hP
  have hD : va_D A (tab cI X d r ++ (bk cW X Br n ch pd pr yr2 W2 ++ (bk cW X Bk n ch pd pr yr Wd ++ R))) := hD
  refine lv_aload_n hx hb dX0_copy_32 rfl (lv_at hl 0 rfl) ?_
  refine lv_aload_n hx hb dX0_copy_33 rfl (lv_at hl 1 rfl) ?_
  refine va_get (D := (dC, dI)) (ci := 0) (v := .int yr) (C := RX0) (T := TX0) (N := 7) hx hb hts (by decide +kernel) hown hKK.1 hP 15 bw2_obj rfl 6 (by decide) (hts (.fieldLink RX0 48 "WidowPennies$Book" "year" "I") (by decide +kernel)) (fun _ h9 => h9) rfl dX0_copy_34 ?_
  refine va_put (D := (dC, dI)) (ci := 0) (v := .int yr) (ty := .int) (C := RX0) (T := TX0) (N := 7) hx hb hts (by decide +kernel) tyX0 tyX0_ok nmX0 hown hKK.1 hP hD hS 3 rfl rfl 6 (by decide) (hts (.fieldLink RX0 48 "WidowPennies$Book" "year" "I") (by decide +kernel)) (fun _ h9 => h9) rfl (by decide +kernel) rfl rfl (Nat.le_of_ble_eq_true rfl) dX0_copy_37 (fun H locs hP hD hS => ?_)
  have hP : va_P (dC, dI) vwCl (tab cI X d r ++ (bk cW X Br n ch pd pr yr W2 ++ (bk cW X Bk n ch pd pr yr Wd ++ R))) H := hP
  have hD : va_D A (tab cI X d r ++ (bk cW X Br n ch pd pr yr W2 ++ (bk cW X Bk n ch pd pr yr Wd ++ R))) := hD
  refine lv_iconst (v := 0) hx hb dX0_copy_40 (by decide) ?_
  refine lv_istore_n (lv' := [(2, .int 0), (0, .ref (Br 0)), (1, .ref (Bk 0))]) hx hb dX0_copy_41 rfl hl (by decide) rfl (fun ls hl => ?_)
  have hP : va_P (dC, dI) vwCl (tab cI X d r ++ (bk cW X Br n ch pd pr yr (cpW W2 Wd 0) ++ (bk cW X Bk n ch pd pr yr Wd ++ R))) H := by rw [cpW_0]; exact hP
  have hD : va_D A (tab cI X d r ++ (bk cW X Br n ch pd pr yr (cpW W2 Wd 0) ++ (bk cW X Bk n ch pd pr yr Wd ++ R))) := by rw [cpW_0]; exact hD
  exact key 10 0 (by omega) _ _ hP hD hS ls (lv_sub hl [0, 1, 2] rfl)
