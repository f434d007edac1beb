set_option maxHeartbeats 4000000 in
set_option maxRecDepth 100000 in
theorem pL0_worth {p : Program} {l : Launch} {e : Env} {s : State} {m : MethodId} {below : List Frame} {meth : Method} {c : Code} {b L : Nat} {xs : Nat → Int32} {dC : Nat → ClassId} {dI : Nat → Nat → Nat} {cI cW cJ : ClassId} {t : Nat} {X Bk Br : Nat → Nat} {o : Nat} (C9 : LC p l s m c b L xs dC dI cI cW cJ t) (i : Nat) (hi9 : i < 512) (hL4 : 4 * i + 4 ≤ L) (hLm : L ≤ 2048) (ih : LOOP p l e s m below meth c b dC dI cI cW cJ X Bk Br o (i + 1)) (M : Nat → Nat) (f0 : Nat → Int64) (th : Int32) (d r : Nat → Int32) (n : Nat) (ch pd pr yr : Int32) (Wd : Nat → Nat → Int32) (n2 : Nat) (ch2 pd2 pr2 yr2 : Int32) (W2 : Nat → Nat → Int32) (hInv : Inv i d r n ch pr Wd) (H : Heap) (locs : List Loc) (hP : va_P (dC, dI) vwCl (tab cI X d r ++ (bk cW X Bk n ch pd pr yr Wd ++ (bk cW X Br n2 ch2 pd2 pr2 yr2 W2 ++ (obj X Bk Br :: (o, .inl (cJ, 1, .inr (.inl f0))) :: mw cI M th n d r Wd ch pd yr (WT d (r 0)))))) H) (hD : va_D (NEW s.heap.size) (tab cI X d r ++ (bk cW X Bk n ch pd pr yr Wd ++ (bk cW X Br n2 ch2 pd2 pr2 yr2 W2 ++ (obj X Bk Br :: (o, .inl (cJ, 1, .inr (.inl f0))) :: mw cI M th n d r Wd ch pd yr (WT d (r 0))))))) (hS : va_S (NEW s.heap.size) s.heap H locs) (ls : Array Slot) (hl : lv_has ls 9 [(4, .int (nI (4 * i))), (0, .ref b), (1, .ref (X 0)), (2, .ref (M 0)), (3, .ref o)]) (ka kb : Nat) (h1 : 50 ≤ ka) (h2 : ka ≤ 99) (h3 : kb ≤ 30) (e1 : xs (4 * i + 1) = nI ka) (e2 : xs (4 * i + 2) = nI kb) : W p l e room_1 s m #[Value.ref b] below meth c H locs (40 + 4 * i) (3000 + 100 * i) (lw_Z below #[Value.ref b] s) (F0 m 508 ls []) := by
  obtain ⟨hx, hb, hml, hown, hts, hX, hbl, hKK, hKJ, hKX0, hHG0, hl0⟩ := C9
  have hA : ∀ q, s.heap.size ≤ q → NEW s.heap.size q := fun q h => h
  have hn := hInv.2.2.1
  have hok := hInv.2.2.2.1
  have hi := hInv.hi.1
  have hi0 := hInv.hi.2
  refine lv_aload_n hx hb dL_law_508 rfl (lv_at hl 2 rfl) ?_
  refine lv_aload_n hx hb dL_law_509 rfl (lv_at hl 1 rfl) ?_
  refine lv_iload hx hb dL_law_510 (lv_at hl 0 rfl) ?_
  refine lv_iconst (v := 1) hx hb dL_law_512 (by decide) ?_
  refine lv_iadd hx hb dL_law_513 ?_
  rw [show ((nI (4 * i)) + 1 : Int32) = nI (4 * i + 1) from nI_add (4 * i) 1]
  refine va_sld hx hb hX hbl (fun h9 => absurd h9 (Nat.not_le.mpr hbl)) hS (vp_in_nI (by omega) (by omega)) dL_law_514 ?_
  rw [clamp_nI (show 4 * i + 1 < 2147483648 by omega)]
  rw [e1]
  refine lv_aload_n hx hb dL_law_515 rfl (lv_at hl 1 rfl) ?_
  refine lv_iload hx hb dL_law_516 (lv_at hl 0 rfl) ?_
  refine lv_iconst (v := 2) hx hb dL_law_518 (by decide) ?_
  refine lv_iadd hx hb dL_law_519 ?_
  rw [show ((nI (4 * i)) + 2 : Int32) = nI (4 * i + 2) from nI_add (4 * i) 2]
  refine va_sld hx hb hX hbl (fun h9 => absurd h9 (Nat.not_le.mpr hbl)) hS (vp_in_nI (by omega) (by omega)) dL_law_520 ?_
  rw [clamp_nI (show 4 * i + 2 < 2147483648 by omega)]
  rw [e2]
  refine lv_aload_n hx hb dL_law_521 rfl (lv_at hl 4 rfl) ?_
  refine wr_i (runSL (As := [.ref (X 0), .int (nI ka), .int (nI kb), .ref o]) (rest := []) ⟨hx, hb, hml, hown, hts⟩ (met_L_worth l dC dI cI cW cJ o f0 X Bk Br d r n ch pd pr yr Wd n2 ch2 pd2 pr2 yr2 W2 (mw cI M th n d r Wd ch pd yr (WT d (r 0))) ka kb h1 h2 h3 hi hi0 _) (vx_cwSW 4 hts gL_law_L_worth rfl rfl rfl (by decide +kernel) ⟨Nat.le_of_ble_eq_true rfl, Nat.le_of_ble_eq_true rfl⟩) hKK hKJ (hKX0.at hS) hP hD rfl hl.1 (Nat.le_of_ble_eq_true rfl) rfl dL_law_522 ⟨(show 40 + 4 * i + 0 ≤ 601024 by omega), (show 3000 + 100 * i + 0 ≤ 7293034 by omega)⟩) hD hS hA (fun r_1 H locs hr_1 hP hD hS => ?_)
  subst hr_1
  have hP : va_P (dC, dI) vwCl (tab cI X d r ++ (bk cW X Bk n ch pd pr yr Wd ++ (bk cW X Br n2 ch2 pd2 pr2 yr2 W2 ++ (obj X Bk Br :: (o, .inl (cJ, 1, .inr (.inl (vp_updL f0 0 (wN d (r 0) (100 - ka) kb).toInt64)))) :: (mw cI M th n d r Wd ch pd yr (WT d (r 0))))))) H := hP
  have hD : va_D (NEW s.heap.size) (tab cI X d r ++ (bk cW X Bk n ch pd pr yr Wd ++ (bk cW X Br n2 ch2 pd2 pr2 yr2 W2 ++ (obj X Bk Br :: (o, .inl (cJ, 1, .inr (.inl (vp_updL f0 0 (wN d (r 0) (100 - ka) kb).toInt64)))) :: (mw cI M th n d r Wd ch pd yr (WT d (r 0))))))) := hD
  have hP := va_P_perm (law_perm _ _ _ _ _ _) hP
  have hD := va_D_perm (law_perm _ _ _ _ _ _) hD
  refine lv_istore (lv' := [(5, .int 0), (4, .int (nI (4 * i))), (0, .ref b), (1, .ref (X 0)), (2, .ref (M 0)), (3, .ref o)]) hx hb dL_law_525 hl (by decide) rfl (fun ls hl => ?_)
  refine lv_aload_n hx hb dL_law_527 rfl (lv_at hl 4 rfl) ?_
  refine lv_aload_n hx hb dL_law_528 rfl (lv_at hl 2 rfl) ?_
  refine lv_iload hx hb dL_law_529 (lv_at hl 1 rfl) ?_
  refine lv_iconst (v := 1) hx hb dL_law_531 (by decide) ?_
  refine lv_iadd hx hb dL_law_532 ?_
  rw [show ((nI (4 * i)) + 1 : Int32) = nI (4 * i + 1) from nI_add (4 * i) 1]
  refine va_sld hx hb hX hbl (fun h9 => absurd h9 (Nat.not_le.mpr hbl)) hS (vp_in_nI (by omega) (by omega)) dL_law_533 ?_
  rw [clamp_nI (show 4 * i + 1 < 2147483648 by omega)]
  rw [e1]
  refine lv_aload_n hx hb dL_law_534 rfl (lv_at hl 2 rfl) ?_
  refine lv_iload hx hb dL_law_535 (lv_at hl 1 rfl) ?_
  refine lv_iconst (v := 2) hx hb dL_law_537 (by decide) ?_
  refine lv_iadd hx hb dL_law_538 ?_
  rw [show ((nI (4 * i)) + 2 : Int32) = nI (4 * i + 2) from nI_add (4 * i) 2]
  refine va_sld hx hb hX hbl (fun h9 => absurd h9 (Nat.not_le.mpr hbl)) hS (vp_in_nI (by omega) (by omega)) dL_law_539 ?_
  rw [clamp_nI (show 4 * i + 2 < 2147483648 by omega)]
  rw [e2]
  refine wr_i (runV1 (As := [.int (nI ka), .int (nI kb)]) (rest := []) ⟨hx, hb, hml, hown, hts⟩ (met_X4_worth l dC dI cI cW M th n d r Wd ch pd yr _ ka kb h1 h2 h3 _) (cwV 2 hts gL_law_X4_worth rfl rfl rfl (by decide +kernel) ⟨Nat.le_of_ble_eq_true rfl, Nat.le_of_ble_eq_true rfl⟩) hKK hP hD 4 0 rfl rfl rfl hl.1 (Nat.le_of_ble_eq_true rfl) rfl dL_law_540 ⟨(show 40 + 4 * i + 0 + 0 ≤ 601024 by omega), (show 3000 + 100 * i + 0 + 0 ≤ 7293034 by omega)⟩) hD hS hA (fun r_2 H locs hr_2 hP hD hS => ?_)
  subst hr_2
  refine lv_istore (lv' := [(6, .int (wN d (r 0) (100 - ka) kb)), (5, .int 0), (4, .int (nI (4 * i))), (0, .ref b), (1, .ref (X 0)), (2, .ref (M 0)), (3, .ref o)]) hx hb dL_law_543 hl (by decide) rfl (fun ls hl => ?_)
  refine lv_aload_n hx hb dL_law_545 rfl (lv_at hl 5 rfl) ?_
  refine rd_i (runV0 (As := []) (rest := []) ⟨hx, hb, hml, hown, hts⟩ (met_X4_thrown l dC dI cI cW _ _ _ _ _ _ _ _ _ _) (cwV 0 hts gL_law_X4_thrown rfl rfl rfl (by decide +kernel) ⟨Nat.le_of_ble_eq_true rfl, Nat.le_of_ble_eq_true rfl⟩) hKK (ws_left hP) 4 0 rfl rfl rfl hl.1 (Nat.le_of_ble_eq_true rfl) rfl dL_law_546 ⟨(show 40 + 4 * i + 0 + 0 ≤ 601024 by omega), (show 3000 + 100 * i + 0 + 0 ≤ 7293034 by omega)⟩) (fun r_3 hr_3 => ?_)
  subst hr_3
  have hP := va_P_perm (law_back _ _ _ _ _ _) hP
  have hD := va_D_perm (law_back _ _ _ _ _ _) hD
  refine lv_iload hx hb dL_law_549 (lv_at hl 1 rfl) ?_
  refine lv_icmp_eq (tgt := 556) hx hb dL_law_551 (by decide) (fun c_5 => ?_) (fun c_5 => ?_)
  · refine lv_iload hx hb dL_law_556 (lv_at hl 1 rfl) ?_
    refine lv_if_ne (tgt := 573) hx hb dL_law_558 (by decide) (fun c_6 => ?_) (fun c_6 => ?_)
    · exact absurd rfl c_6
    · refine lv_aload_n hx hb dL_law_561 rfl (lv_at hl 6 rfl) ?_
      refine lv_iconst (v := 0) hx hb dL_law_562 (by decide) ?_
      refine va_lald hx hb hKJ hP (27 + 1) 0 (cw_at rfl) rfl (vp_in_nI (n := 0) (by omega) (by omega)) dL_law_563 ?_
      rw [show (vp_updL f0 0 (wN d (r 0) (100 - ka) kb).toInt64) (0 : Int32).toNatClampNeg = (wN d (r 0) (100 - ka) kb).toInt64 from rfl]
      refine lv_iload hx hb dL_law_564 (lv_at hl 0 rfl) ?_
      refine lv_i2l hx hb dL_law_566 rfl ?_
      refine lv_lcmpS hx hb dL_law_567 ?_
      refine lv_if_eq (tgt := 573) hx hb dL_law_568 (by decide) (fun c_7 => ?_) (fun c_7 => ?_)
      · refine lv_goto (tgt := 1133) hx hb dL_law_573 (by decide) ?_
        refine lv_iinc (v := (nI (4 * (i + 1)))) (lv' := [(4, .int (nI (4 * (i + 1)))), (6, .int (wN d (r 0) (100 - ka) kb)), (5, .int 0), (0, .ref b), (1, .ref (X 0)), (2, .ref (M 0)), (3, .ref o)]) hx hb dL_law_1133 hl (k := 2) rfl (nI_add (4 * i) 4) (by decide) rfl (fun ls hl => ?_)
        refine lv_goto (tgt := 23) hx hb dL_law_1136 (by decide) ?_
        refine W.widen (k := 40 + 4 * (i + 1)) (n := 3000 + 100 * (i + 1)) (by omega) (by omega) ?_
        exact ih _ _ _ _ _ _ _ _ _ _ _ _ _ _ _ _ _ (hInv.mono (Nat.le_succ i)) H locs hP hD hS ls (lv_sub hl [0, 3, 4, 5, 6] rfl)
      · exact absurd rfl c_7
  · exact absurd rfl c_5
set_option maxHeartbeats 4000000 in
set_option maxRecDepth 100000 in
theorem pL1_worth {p : Program} {l : Launch} {e : Env} {s : State} {m : MethodId} {below : List Frame} {meth : Method} {c : Code} {b L : Nat} {xs : Nat → Int32} {dC : Nat → ClassId} {dI : Nat → Nat → Nat} {cI cW cJ : ClassId} {t : Nat} {X Bk Br : Nat → Nat} {o : Nat} (C9 : LC p l s m c b L xs dC dI cI cW cJ t) (i : Nat) (hi9 : i < 512) (hL4 : 4 * i + 4 ≤ L) (hLm : L ≤ 2048) (ih : LOOP p l e s m below meth c b dC dI cI cW cJ X Bk Br o (i + 1)) (M : Nat → Nat) (f0 : Nat → Int64) (th : Int32) (d r : Nat → Int32) (n : Nat) (ch pd pr yr : Int32) (Wd : Nat → Nat → Int32) (n2 : Nat) (ch2 pd2 pr2 yr2 : Int32) (W2 : Nat → Nat → Int32) (hInv : Inv i d r n ch pr Wd) (H : Heap) (locs : List Loc) (hP : va_P (dC, dI) vwCl (tab cI X d r ++ (bk cW X Bk n ch pd pr yr Wd ++ (bk cW X Br n2 ch2 pd2 pr2 yr2 W2 ++ (obj X Bk Br :: (o, .inl (cJ, 1, .inr (.inl f0))) :: mw cI M th n d r Wd ch pd yr (WT d (r 0)))))) H) (hD : va_D (NEW s.heap.size) (tab cI X d r ++ (bk cW X Bk n ch pd pr yr Wd ++ (bk cW X Br n2 ch2 pd2 pr2 yr2 W2 ++ (obj X Bk Br :: (o, .inl (cJ, 1, .inr (.inl f0))) :: mw cI M th n d r Wd ch pd yr (WT d (r 0))))))) (hS : va_S (NEW s.heap.size) s.heap H locs) (ls : Array Slot) (hl : lv_has ls 9 [(4, .int (nI (4 * i))), (0, .ref b), (1, .ref (X 0)), (2, .ref (M 0)), (3, .ref o)]) (a p9 : Int32) (h9 : ¬ ((50 ≤ a ∧ a ≤ 99) ∧ (0 ≤ p9 ∧ p9 ≤ 30))) (e1 : xs (4 * i + 1) = a) (e2 : xs (4 * i + 2) = p9) : W p l e room_1 s m #[Value.ref b] below meth c H locs (40 + 4 * i) (3000 + 100 * i) (lw_Z below #[Value.ref b] s) (F0 m 508 ls []) := by
  obtain ⟨hx, hb, hml, hown, hts, hX, hbl, hKK, hKJ, hKX0, hHG0, hl0⟩ := C9
  have hA : ∀ q, s.heap.size ≤ q → NEW s.heap.size q := fun q h => h
  have hn := hInv.2.2.1
  have hok := hInv.2.2.2.1
  have hi := hInv.hi.1
  have hi0 := hInv.hi.2
  refine lv_aload_n hx hb dL_law_508 rfl (lv_at hl 2 rfl) ?_
  refine lv_aload_n hx hb dL_law_509 rfl (lv_at hl 1 rfl) ?_
  refine lv_iload hx hb dL_law_510 (lv_at hl 0 rfl) ?_
  refine lv_iconst (v := 1) hx hb dL_law_512 (by decide) ?_
  refine lv_iadd hx hb dL_law_513 ?_
  rw [show ((nI (4 * i)) + 1 : Int32) = nI (4 * i + 1) from nI_add (4 * i) 1]
  refine va_sld hx hb hX hbl (fun h9 => absurd h9 (Nat.not_le.mpr hbl)) hS (vp_in_nI (by omega) (by omega)) dL_law_514 ?_
  rw [clamp_nI (show 4 * i + 1 < 2147483648 by omega)]
  rw [e1]
  refine lv_aload_n hx hb dL_law_515 rfl (lv_at hl 1 rfl) ?_
  refine lv_iload hx hb dL_law_516 (lv_at hl 0 rfl) ?_
  refine lv_iconst (v := 2) hx hb dL_law_518 (by decide) ?_
  refine lv_iadd hx hb dL_law_519 ?_
  rw [show ((nI (4 * i)) + 2 : Int32) = nI (4 * i + 2) from nI_add (4 * i) 2]
  refine va_sld hx hb hX hbl (fun h9 => absurd h9 (Nat.not_le.mpr hbl)) hS (vp_in_nI (by omega) (by omega)) dL_law_520 ?_
  rw [clamp_nI (show 4 * i + 2 < 2147483648 by omega)]
  rw [e2]
  refine lv_aload_n hx hb dL_law_521 rfl (lv_at hl 4 rfl) ?_
  refine wr_i (runSL (As := [.ref (X 0), .int a, .int p9, .ref o]) (rest := []) ⟨hx, hb, hml, hown, hts⟩ (bad1_L_worth l dC dI cI cW hl0 cJ o f0 X Bk Br d r n ch pd pr yr Wd n2 ch2 pd2 pr2 yr2 W2 (mw cI M th n d r Wd ch pd yr (WT d (r 0))) a p9 h9 _) (vx_cwSW 4 hts gL_law_L_worth rfl rfl rfl (by decide +kernel) ⟨Nat.le_of_ble_eq_true rfl, Nat.le_of_ble_eq_true rfl⟩) hKK hKJ (hKX0.at hS) hP hD rfl hl.1 (Nat.le_of_ble_eq_true rfl) rfl dL_law_522 ⟨(show 40 + 4 * i + 1 ≤ 601024 by omega), (show 3000 + 100 * i + 6 ≤ 7293034 by omega)⟩) hD hS hA (fun r_1 H locs hr_1 hP hD hS => ?_)
  subst hr_1
  have hP : va_P (dC, dI) vwCl (tab cI X d r ++ (bk cW X Bk n ch pd pr yr Wd ++ (bk cW X Br n2 ch2 pd2 pr2 yr2 W2 ++ (obj X Bk Br :: (o, .inl (cJ, 1, .inr (.inl f0))) :: (mw cI M th n d r Wd ch pd yr (WT d (r 0))))))) H := hP
  have hD : va_D (NEW s.heap.size) (tab cI X d r ++ (bk cW X Bk n ch pd pr yr Wd ++ (bk cW X Br n2 ch2 pd2 pr2 yr2 W2 ++ (obj X Bk Br :: (o, .inl (cJ, 1, .inr (.inl f0))) :: (mw cI M th n d r Wd ch pd yr (WT d (r 0))))))) := hD
  have hP := va_P_perm (law_perm _ _ _ _ _ _) hP
  have hD := va_D_perm (law_perm _ _ _ _ _ _) hD
  refine lv_istore (lv' := [(5, .int 1), (4, .int (nI (4 * i))), (0, .ref b), (1, .ref (X 0)), (2, .ref (M 0)), (3, .ref o)]) hx hb dL_law_525 hl (by decide) rfl (fun ls hl => ?_)
  refine lv_aload_n hx hb dL_law_527 rfl (lv_at hl 4 rfl) ?_
  refine lv_aload_n hx hb dL_law_528 rfl (lv_at hl 2 rfl) ?_
  refine lv_iload hx hb dL_law_529 (lv_at hl 1 rfl) ?_
  refine lv_iconst (v := 1) hx hb dL_law_531 (by decide) ?_
  refine lv_iadd hx hb dL_law_532 ?_
  rw [show ((nI (4 * i)) + 1 : Int32) = nI (4 * i + 1) from nI_add (4 * i) 1]
  refine va_sld hx hb hX hbl (fun h9 => absurd h9 (Nat.not_le.mpr hbl)) hS (vp_in_nI (by omega) (by omega)) dL_law_533 ?_
  rw [clamp_nI (show 4 * i + 1 < 2147483648 by omega)]
  rw [e1]
  refine lv_aload_n hx hb dL_law_534 rfl (lv_at hl 2 rfl) ?_
  refine lv_iload hx hb dL_law_535 (lv_at hl 1 rfl) ?_
  refine lv_iconst (v := 2) hx hb dL_law_537 (by decide) ?_
  refine lv_iadd hx hb dL_law_538 ?_
  rw [show ((nI (4 * i)) + 2 : Int32) = nI (4 * i + 2) from nI_add (4 * i) 2]
  refine va_sld hx hb hX hbl (fun h9 => absurd h9 (Nat.not_le.mpr hbl)) hS (vp_in_nI (by omega) (by omega)) dL_law_539 ?_
  rw [clamp_nI (show 4 * i + 2 < 2147483648 by omega)]
  rw [e2]
  refine wr_i (runV1 (As := [.int a, .int p9]) (rest := []) ⟨hx, hb, hml, hown, hts⟩ (met1_X4_worth l dC dI cI cW M th n d r Wd ch pd yr _ a p9 h9 _) (cwV 2 hts gL_law_X4_worth rfl rfl rfl (by decide +kernel) ⟨Nat.le_of_ble_eq_true rfl, Nat.le_of_ble_eq_true rfl⟩) hKK hP hD 4 0 rfl rfl rfl hl.1 (Nat.le_of_ble_eq_true rfl) rfl dL_law_540 ⟨(show 40 + 4 * i + 1 + 0 ≤ 601024 by omega), (show 3000 + 100 * i + 6 + 0 ≤ 7293034 by omega)⟩) hD hS hA (fun r_2 H locs hr_2 hP hD hS => ?_)
  subst hr_2
  refine lv_istore (lv' := [(6, .int 0), (5, .int 1), (4, .int (nI (4 * i))), (0, .ref b), (1, .ref (X 0)), (2, .ref (M 0)), (3, .ref o)]) hx hb dL_law_543 hl (by decide) rfl (fun ls hl => ?_)
  refine lv_aload_n hx hb dL_law_545 rfl (lv_at hl 5 rfl) ?_
  refine rd_i (runV0 (As := []) (rest := []) ⟨hx, hb, hml, hown, hts⟩ (met_X4_thrown l dC dI cI cW _ _ _ _ _ _ _ _ _ _) (cwV 0 hts gL_law_X4_thrown rfl rfl rfl (by decide +kernel) ⟨Nat.le_of_ble_eq_true rfl, Nat.le_of_ble_eq_true rfl⟩) hKK (ws_left hP) 4 0 rfl rfl rfl hl.1 (Nat.le_of_ble_eq_true rfl) rfl dL_law_546 ⟨(show 40 + 4 * i + 1 + 0 ≤ 601024 by omega), (show 3000 + 100 * i + 6 + 0 ≤ 7293034 by omega)⟩) (fun r_3 hr_3 => ?_)
  subst hr_3
  have hP := va_P_perm (law_back _ _ _ _ _ _) hP
  have hD := va_D_perm (law_back _ _ _ _ _ _) hD
  refine lv_iload hx hb dL_law_549 (lv_at hl 1 rfl) ?_
  refine lv_icmp_eq (tgt := 556) hx hb dL_law_551 (by decide) (fun c_5 => ?_) (fun c_5 => ?_)
  · refine lv_iload hx hb dL_law_556 (lv_at hl 1 rfl) ?_
    refine lv_if_ne (tgt := 573) hx hb dL_law_558 (by decide) (fun c_6 => ?_) (fun c_6 => ?_)
    · refine lv_goto (tgt := 1133) hx hb dL_law_573 (by decide) ?_
      refine lv_iinc (v := (nI (4 * (i + 1)))) (lv' := [(4, .int (nI (4 * (i + 1)))), (6, .int 0), (5, .int 1), (0, .ref b), (1, .ref (X 0)), (2, .ref (M 0)), (3, .ref o)]) hx hb dL_law_1133 hl (k := 2) rfl (nI_add (4 * i) 4) (by decide) rfl (fun ls hl => ?_)
      refine lv_goto (tgt := 23) hx hb dL_law_1136 (by decide) ?_
      refine W.widen (k := 40 + 4 * (i + 1)) (n := 3000 + 100 * (i + 1)) (by omega) (by omega) ?_
      exact ih _ _ _ _ _ _ _ _ _ _ _ _ _ _ _ _ _ (hInv.mono (Nat.le_succ i)) H locs hP hD hS ls (lv_sub hl [0, 3, 4, 5, 6] rfl)
    · exact absurd c_6 (by decide)
  · exact absurd rfl c_5
set_option maxHeartbeats 4000000 in
set_option maxRecDepth 100000 in
theorem pL0_price {p : Program} {l : Launch} {e : Env} {s : State} {m : MethodId} {below : List Frame} {meth : Method} {c : Code} {b L : Nat} {xs : Nat → Int32} {dC : Nat → ClassId} {dI : Nat → Nat → Nat} {cI cW cJ : ClassId} {t : Nat} {X Bk Br : Nat → Nat} {o : Nat} (C9 : LC p l s m c b L xs dC dI cI cW cJ t) (i : Nat) (hi9 : i < 512) (hL4 : 4 * i + 4 ≤ L) (hLm : L ≤ 2048) (ih : LOOP p l e s m below meth c b dC dI cI cW cJ X Bk Br o (i + 1)) (M : Nat → Nat) (f0 : Nat → Int64) (th : Int32) (d r : Nat → Int32) (n : Nat) (ch pd pr yr : Int32) (Wd : Nat → Nat → Int32) (n2 : Nat) (ch2 pd2 pr2 yr2 : Int32) (W2 : Nat → Nat → Int32) (hInv : Inv i d r n ch pr Wd) (H : Heap) (locs : List Loc) (hP : va_P (dC, dI) vwCl (tab cI X d r ++ (bk cW X Bk n ch pd pr yr Wd ++ (bk cW X Br n2 ch2 pd2 pr2 yr2 W2 ++ (obj X Bk Br :: (o, .inl (cJ, 1, .inr (.inl f0))) :: mw cI M th n d r Wd ch pd yr (WT d (r 0)))))) H) (hD : va_D (NEW s.heap.size) (tab cI X d r ++ (bk cW X Bk n ch pd pr yr Wd ++ (bk cW X Br n2 ch2 pd2 pr2 yr2 W2 ++ (obj X Bk Br :: (o, .inl (cJ, 1, .inr (.inl f0))) :: mw cI M th n d r Wd ch pd yr (WT d (r 0))))))) (hS : va_S (NEW s.heap.size) s.heap H locs) (ls : Array Slot) (hl : lv_has ls 9 [(4, .int (nI (4 * i))), (0, .ref b), (1, .ref (X 0)), (2, .ref (M 0)), (3, .ref o)]) (ka : Nat) (x : Int32) (kb : Nat) (h1 : 50 ≤ ka) (h2 : ka ≤ 99) (hx9 : 1 ≤ x ∧ x ≤ 999) (h3 : kb ≤ 30) (e1 : xs (4 * i + 1) = nI ka) (e2 : xs (4 * i + 2) = x) (e3 : xs (4 * i + 3) = nI kb) : W p l e room_1 s m #[Value.ref b] below meth c H locs (40 + 4 * i) (3000 + 100 * i) (lw_Z below #[Value.ref b] s) (F0 m 576 ls []) := by
  obtain ⟨hx, hb, hml, hown, hts, hX, hbl, hKK, hKJ, hKX0, hHG0, hl0⟩ := C9
  have hA : ∀ q, s.heap.size ≤ q → NEW s.heap.size q := fun q h => h
  have hn := hInv.2.2.1
  have hok := hInv.2.2.2.1
  have hi := hInv.hi.1
  have hi0 := hInv.hi.2
  refine lv_aload_n hx hb dL_law_576 rfl (lv_at hl 2 rfl) ?_
  refine lv_aload_n hx hb dL_law_577 rfl (lv_at hl 1 rfl) ?_
  refine lv_iload hx hb dL_law_578 (lv_at hl 0 rfl) ?_
  refine lv_iconst (v := 1) hx hb dL_law_580 (by decide) ?_
  refine lv_iadd hx hb dL_law_581 ?_
  rw [show ((nI (4 * i)) + 1 : Int32) = nI (4 * i + 1) from nI_add (4 * i) 1]
  refine va_sld hx hb hX hbl (fun h9 => absurd h9 (Nat.not_le.mpr hbl)) hS (vp_in_nI (by omega) (by omega)) dL_law_582 ?_
  rw [clamp_nI (show 4 * i + 1 < 2147483648 by omega)]
  rw [e1]
  refine lv_aload_n hx hb dL_law_583 rfl (lv_at hl 1 rfl) ?_
  refine lv_iload hx hb dL_law_584 (lv_at hl 0 rfl) ?_
  refine lv_iconst (v := 2) hx hb dL_law_586 (by decide) ?_
  refine lv_iadd hx hb dL_law_587 ?_
  rw [show ((nI (4 * i)) + 2 : Int32) = nI (4 * i + 2) from nI_add (4 * i) 2]
  refine va_sld hx hb hX hbl (fun h9 => absurd h9 (Nat.not_le.mpr hbl)) hS (vp_in_nI (by omega) (by omega)) dL_law_588 ?_
  rw [clamp_nI (show 4 * i + 2 < 2147483648 by omega)]
  rw [e2]
  refine lv_aload_n hx hb dL_law_589 rfl (lv_at hl 1 rfl) ?_
  refine lv_iload hx hb dL_law_590 (lv_at hl 0 rfl) ?_
  refine lv_iconst (v := 3) hx hb dL_law_592 (by decide) ?_
  refine lv_iadd hx hb dL_law_593 ?_
  rw [show ((nI (4 * i)) + 3 : Int32) = nI (4 * i + 3) from nI_add (4 * i) 3]
  refine va_sld hx hb hX hbl (fun h9 => absurd h9 (Nat.not_le.mpr hbl)) hS (vp_in_nI (by omega) (by omega)) dL_law_594 ?_
  rw [clamp_nI (show 4 * i + 3 < 2147483648 by omega)]
  rw [e3]
  refine lv_aload_n hx hb dL_law_595 rfl (lv_at hl 4 rfl) ?_
  refine wr_i (runSL (As := [.ref (X 0), .int (nI ka), .int x, .int (nI kb), .ref o]) (rest := []) ⟨hx, hb, hml, hown, hts⟩ (met_L_price l dC dI cI cW cJ o f0 X Bk Br d r n ch pd pr yr Wd n2 ch2 pd2 pr2 yr2 W2 (mw cI M th n d r Wd ch pd yr (WT d (r 0))) ka x kb h1 h2 hx9 h3 hi hi0 _) (vx_cwSW 5 hts gL_law_L_price rfl rfl rfl (by decide +kernel) ⟨Nat.le_of_ble_eq_true rfl, Nat.le_of_ble_eq_true rfl⟩) hKK hKJ (hKX0.at hS) hP hD rfl hl.1 (Nat.le_of_ble_eq_true rfl) rfl dL_law_596 ⟨(show 40 + 4 * i + 0 ≤ 601024 by omega), (show 3000 + 100 * i + 0 ≤ 7293034 by omega)⟩) hD hS hA (fun r_1 H locs hr_1 hP hD hS => ?_)
  subst hr_1
  have hP : va_P (dC, dI) vwCl (tab cI X d r ++ (bk cW X Bk n ch pd pr yr Wd ++ (bk cW X Br n2 ch2 pd2 pr2 yr2 W2 ++ (obj X Bk Br :: (o, .inl (cJ, 1, .inr (.inl (vp_updL f0 0 (priceS (r 1) x (wN d (r 0) (100 - ka) kb)).toInt64)))) :: (mw cI M th n d r Wd ch pd yr (WT d (r 0))))))) H := hP
  have hD : va_D (NEW s.heap.size) (tab cI X d r ++ (bk cW X Bk n ch pd pr yr Wd ++ (bk cW X Br n2 ch2 pd2 pr2 yr2 W2 ++ (obj X Bk Br :: (o, .inl (cJ, 1, .inr (.inl (vp_updL f0 0 (priceS (r 1) x (wN d (r 0) (100 - ka) kb)).toInt64)))) :: (mw cI M th n d r Wd ch pd yr (WT d (r 0))))))) := hD
  have hP := va_P_perm (law_perm _ _ _ _ _ _) hP
  have hD := va_D_perm (law_perm _ _ _ _ _ _) hD
  refine lv_istore (lv' := [(5, .int 0), (4, .int (nI (4 * i))), (0, .ref b), (1, .ref (X 0)), (2, .ref (M 0)), (3, .ref o)]) hx hb dL_law_599 hl (by decide) rfl (fun ls hl => ?_)
  refine lv_aload_n hx hb dL_law_601 rfl (lv_at hl 4 rfl) ?_
  refine lv_aload_n hx hb dL_law_602 rfl (lv_at hl 2 rfl) ?_
  refine lv_iload hx hb dL_law_603 (lv_at hl 1 rfl) ?_
  refine lv_iconst (v := 1) hx hb dL_law_605 (by decide) ?_
  refine lv_iadd hx hb dL_law_606 ?_
  rw [show ((nI (4 * i)) + 1 : Int32) = nI (4 * i + 1) from nI_add (4 * i) 1]
  refine va_sld hx hb hX hbl (fun h9 => absurd h9 (Nat.not_le.mpr hbl)) hS (vp_in_nI (by omega) (by omega)) dL_law_607 ?_
  rw [clamp_nI (show 4 * i + 1 < 2147483648 by omega)]
  rw [e1]
  refine lv_aload_n hx hb dL_law_608 rfl (lv_at hl 2 rfl) ?_
  refine lv_iload hx hb dL_law_609 (lv_at hl 1 rfl) ?_
  refine lv_iconst (v := 2) hx hb dL_law_611 (by decide) ?_
  refine lv_iadd hx hb dL_law_612 ?_
  rw [show ((nI (4 * i)) + 2 : Int32) = nI (4 * i + 2) from nI_add (4 * i) 2]
  refine va_sld hx hb hX hbl (fun h9 => absurd h9 (Nat.not_le.mpr hbl)) hS (vp_in_nI (by omega) (by omega)) dL_law_613 ?_
  rw [clamp_nI (show 4 * i + 2 < 2147483648 by omega)]
  rw [e2]
  refine lv_aload_n hx hb dL_law_614 rfl (lv_at hl 2 rfl) ?_
  refine lv_iload hx hb dL_law_615 (lv_at hl 1 rfl) ?_
  refine lv_iconst (v := 3) hx hb dL_law_617 (by decide) ?_
  refine lv_iadd hx hb dL_law_618 ?_
  rw [show ((nI (4 * i)) + 3 : Int32) = nI (4 * i + 3) from nI_add (4 * i) 3]
  refine va_sld hx hb hX hbl (fun h9 => absurd h9 (Nat.not_le.mpr hbl)) hS (vp_in_nI (by omega) (by omega)) dL_law_619 ?_
  rw [clamp_nI (show 4 * i + 3 < 2147483648 by omega)]
  rw [e3]
  refine wr_i (runV1 (As := [.int (nI ka), .int x, .int (nI kb)]) (rest := []) ⟨hx, hb, hml, hown, hts⟩ (met_X4_price l dC dI cI cW M th n d r Wd ch pd yr _ ka x kb h1 h2 hx9 h3 _) (cwV 3 hts gL_law_X4_price rfl rfl rfl (by decide +kernel) ⟨Nat.le_of_ble_eq_true rfl, Nat.le_of_ble_eq_true rfl⟩) hKK hP hD 4 0 rfl rfl rfl hl.1 (Nat.le_of_ble_eq_true rfl) rfl dL_law_620 ⟨(show 40 + 4 * i + 0 + 0 ≤ 601024 by omega), (show 3000 + 100 * i + 0 + 0 ≤ 7293034 by omega)⟩) hD hS hA (fun r_2 H locs hr_2 hP hD hS => ?_)
  subst hr_2
  refine lv_istore (lv' := [(6, .int (priceS (r 1) x (wN d (r 0) (100 - ka) kb))), (5, .int 0), (4, .int (nI (4 * i))), (0, .ref b), (1, .ref (X 0)), (2, .ref (M 0)), (3, .ref o)]) hx hb dL_law_623 hl (by decide) rfl (fun ls hl => ?_)
  refine lv_aload_n hx hb dL_law_625 rfl (lv_at hl 5 rfl) ?_
  refine rd_i (runV0 (As := []) (rest := []) ⟨hx, hb, hml, hown, hts⟩ (met_X4_thrown l dC dI cI cW _ _ _ _ _ _ _ _ _ _) (cwV 0 hts gL_law_X4_thrown rfl rfl rfl (by decide +kernel) ⟨Nat.le_of_ble_eq_true rfl, Nat.le_of_ble_eq_true rfl⟩) hKK (ws_left hP) 4 0 rfl rfl rfl hl.1 (Nat.le_of_ble_eq_true rfl) rfl dL_law_626 ⟨(show 40 + 4 * i + 0 + 0 ≤ 601024 by omega), (show 3000 + 100 * i + 0 + 0 ≤ 7293034 by omega)⟩) (fun r_3 hr_3 => ?_)
  subst hr_3
  have hP := va_P_perm (law_back _ _ _ _ _ _) hP
  have hD := va_D_perm (law_back _ _ _ _ _ _) hD
  refine lv_iload hx hb dL_law_629 (lv_at hl 1 rfl) ?_
  refine lv_icmp_eq (tgt := 636) hx hb dL_law_631 (by decide) (fun c_7 => ?_) (fun c_7 => ?_)
  · refine lv_iload hx hb dL_law_636 (lv_at hl 1 rfl) ?_
    refine lv_if_ne (tgt := 653) hx hb dL_law_638 (by decide) (fun c_8 => ?_) (fun c_8 => ?_)
    · exact absurd rfl c_8
    · refine lv_aload_n hx hb dL_law_641 rfl (lv_at hl 6 rfl) ?_
      refine lv_iconst (v := 0) hx hb dL_law_642 (by decide) ?_
      refine va_lald hx hb hKJ hP (27 + 1) 0 (cw_at rfl) rfl (vp_in_nI (n := 0) (by omega) (by omega)) dL_law_643 ?_
      rw [show (vp_updL f0 0 (priceS (r 1) x (wN d (r 0) (100 - ka) kb)).toInt64) (0 : Int32).toNatClampNeg = (priceS (r 1) x (wN d (r 0) (100 - ka) kb)).toInt64 from rfl]
      refine lv_iload hx hb dL_law_644 (lv_at hl 0 rfl) ?_
      refine lv_i2l hx hb dL_law_646 rfl ?_
      refine lv_lcmpS hx hb dL_law_647 ?_
      refine lv_if_eq (tgt := 653) hx hb dL_law_648 (by decide) (fun c_9 => ?_) (fun c_9 => ?_)
      · refine lv_goto (tgt := 1133) hx hb dL_law_653 (by decide) ?_
        refine lv_iinc (v := (nI (4 * (i + 1)))) (lv' := [(4, .int (nI (4 * (i + 1)))), (6, .int (priceS (r 1) x (wN d (r 0) (100 - ka) kb))), (5, .int 0), (0, .ref b), (1, .ref (X 0)), (2, .ref (M 0)), (3, .ref o)]) hx hb dL_law_1133 hl (k := 2) rfl (nI_add (4 * i) 4) (by decide) rfl (fun ls hl => ?_)
        refine lv_goto (tgt := 23) hx hb dL_law_1136 (by decide) ?_
        refine W.widen (k := 40 + 4 * (i + 1)) (n := 3000 + 100 * (i + 1)) (by omega) (by omega) ?_
        exact ih _ _ _ _ _ _ _ _ _ _ _ _ _ _ _ _ _ (hInv.mono (Nat.le_succ i)) H locs hP hD hS ls (lv_sub hl [0, 3, 4, 5, 6] rfl)
      · exact absurd rfl c_9
  · exact absurd rfl c_7
set_option maxHeartbeats 4000000 in
set_option maxRecDepth 100000 in
theorem pL1_price {p : Program} {l : Launch} {e : Env} {s : State} {m : MethodId} {below : List Frame} {meth : Method} {c : Code} {b L : Nat} {xs : Nat → Int32} {dC : Nat → ClassId} {dI : Nat → Nat → Nat} {cI cW cJ : ClassId} {t : Nat} {X Bk Br : Nat → Nat} {o : Nat} (C9 : LC p l s m c b L xs dC dI cI cW cJ t) (i : Nat) (hi9 : i < 512) (hL4 : 4 * i + 4 ≤ L) (hLm : L ≤ 2048) (ih : LOOP p l e s m below meth c b dC dI cI cW cJ X Bk Br o (i + 1)) (M : Nat → Nat) (f0 : Nat → Int64) (th : Int32) (d r : Nat → Int32) (n : Nat) (ch pd pr yr : Int32) (Wd : Nat → Nat → Int32) (n2 : Nat) (ch2 pd2 pr2 yr2 : Int32) (W2 : Nat → Nat → Int32) (hInv : Inv i d r n ch pr Wd) (H : Heap) (locs : List Loc) (hP : va_P (dC, dI) vwCl (tab cI X d r ++ (bk cW X Bk n ch pd pr yr Wd ++ (bk cW X Br n2 ch2 pd2 pr2 yr2 W2 ++ (obj X Bk Br :: (o, .inl (cJ, 1, .inr (.inl f0))) :: mw cI M th n d r Wd ch pd yr (WT d (r 0)))))) H) (hD : va_D (NEW s.heap.size) (tab cI X d r ++ (bk cW X Bk n ch pd pr yr Wd ++ (bk cW X Br n2 ch2 pd2 pr2 yr2 W2 ++ (obj X Bk Br :: (o, .inl (cJ, 1, .inr (.inl f0))) :: mw cI M th n d r Wd ch pd yr (WT d (r 0))))))) (hS : va_S (NEW s.heap.size) s.heap H locs) (ls : Array Slot) (hl : lv_has ls 9 [(4, .int (nI (4 * i))), (0, .ref b), (1, .ref (X 0)), (2, .ref (M 0)), (3, .ref o)]) (a x p9 : Int32) (h9 : ¬ ((50 ≤ a ∧ a ≤ 99) ∧ (1 ≤ x ∧ x ≤ 999) ∧ (0 ≤ p9 ∧ p9 ≤ 30))) (e1 : xs (4 * i + 1) = a) (e2 : xs (4 * i + 2) = x) (e3 : xs (4 * i + 3) = p9) : W p l e room_1 s m #[Value.ref b] below meth c H locs (40 + 4 * i) (3000 + 100 * i) (lw_Z below #[Value.ref b] s) (F0 m 576 ls []) := by
  obtain ⟨hx, hb, hml, hown, hts, hX, hbl, hKK, hKJ, hKX0, hHG0, hl0⟩ := C9
  have hA : ∀ q, s.heap.size ≤ q → NEW s.heap.size q := fun q h => h
  have hn := hInv.2.2.1
  have hok := hInv.2.2.2.1
  have hi := hInv.hi.1
  have hi0 := hInv.hi.2
  refine lv_aload_n hx hb dL_law_576 rfl (lv_at hl 2 rfl) ?_
  refine lv_aload_n hx hb dL_law_577 rfl (lv_at hl 1 rfl) ?_
  refine lv_iload hx hb dL_law_578 (lv_at hl 0 rfl) ?_
  refine lv_iconst (v := 1) hx hb dL_law_580 (by decide) ?_
  refine lv_iadd hx hb dL_law_581 ?_
  rw [show ((nI (4 * i)) + 1 : Int32) = nI (4 * i + 1) from nI_add (4 * i) 1]
  refine va_sld hx hb hX hbl (fun h9 => absurd h9 (Nat.not_le.mpr hbl)) hS (vp_in_nI (by omega) (by omega)) dL_law_582 ?_
  rw [clamp_nI (show 4 * i + 1 < 2147483648 by omega)]
  rw [e1]
  refine lv_aload_n hx hb dL_law_583 rfl (lv_at hl 1 rfl) ?_
  refine lv_iload hx hb dL_law_584 (lv_at hl 0 rfl) ?_
  refine lv_iconst (v := 2) hx hb dL_law_586 (by decide) ?_
  refine lv_iadd hx hb dL_law_587 ?_
  rw [show ((nI (4 * i)) + 2 : Int32) = nI (4 * i + 2) from nI_add (4 * i) 2]
  refine va_sld hx hb hX hbl (fun h9 => absurd h9 (Nat.not_le.mpr hbl)) hS (vp_in_nI (by omega) (by omega)) dL_law_588 ?_
  rw [clamp_nI (show 4 * i + 2 < 2147483648 by omega)]
  rw [e2]
  refine lv_aload_n hx hb dL_law_589 rfl (lv_at hl 1 rfl) ?_
  refine lv_iload hx hb dL_law_590 (lv_at hl 0 rfl) ?_
  refine lv_iconst (v := 3) hx hb dL_law_592 (by decide) ?_
  refine lv_iadd hx hb dL_law_593 ?_
  rw [show ((nI (4 * i)) + 3 : Int32) = nI (4 * i + 3) from nI_add (4 * i) 3]
  refine va_sld hx hb hX hbl (fun h9 => absurd h9 (Nat.not_le.mpr hbl)) hS (vp_in_nI (by omega) (by omega)) dL_law_594 ?_
  rw [clamp_nI (show 4 * i + 3 < 2147483648 by omega)]
  rw [e3]
  refine lv_aload_n hx hb dL_law_595 rfl (lv_at hl 4 rfl) ?_
  refine wr_i (runSL (As := [.ref (X 0), .int a, .int x, .int p9, .ref o]) (rest := []) ⟨hx, hb, hml, hown, hts⟩ (bad1_L_price l dC dI cI cW hl0 cJ o f0 X Bk Br d r n ch pd pr yr Wd n2 ch2 pd2 pr2 yr2 W2 (mw cI M th n d r Wd ch pd yr (WT d (r 0))) a x p9 h9 _) (vx_cwSW 5 hts gL_law_L_price rfl rfl rfl (by decide +kernel) ⟨Nat.le_of_ble_eq_true rfl, Nat.le_of_ble_eq_true rfl⟩) hKK hKJ (hKX0.at hS) hP hD rfl hl.1 (Nat.le_of_ble_eq_true rfl) rfl dL_law_596 ⟨(show 40 + 4 * i + 1 ≤ 601024 by omega), (show 3000 + 100 * i + 6 ≤ 7293034 by omega)⟩) hD hS hA (fun r_1 H locs hr_1 hP hD hS => ?_)
  subst hr_1
  have hP : va_P (dC, dI) vwCl (tab cI X d r ++ (bk cW X Bk n ch pd pr yr Wd ++ (bk cW X Br n2 ch2 pd2 pr2 yr2 W2 ++ (obj X Bk Br :: (o, .inl (cJ, 1, .inr (.inl f0))) :: (mw cI M th n d r Wd ch pd yr (WT d (r 0))))))) H := hP
  have hD : va_D (NEW s.heap.size) (tab cI X d r ++ (bk cW X Bk n ch pd pr yr Wd ++ (bk cW X Br n2 ch2 pd2 pr2 yr2 W2 ++ (obj X Bk Br :: (o, .inl (cJ, 1, .inr (.inl f0))) :: (mw cI M th n d r Wd ch pd yr (WT d (r 0))))))) := hD
  have hP := va_P_perm (law_perm _ _ _ _ _ _) hP
  have hD := va_D_perm (law_perm _ _ _ _ _ _) hD
  refine lv_istore (lv' := [(5, .int 1), (4, .int (nI (4 * i))), (0, .ref b), (1, .ref (X 0)), (2, .ref (M 0)), (3, .ref o)]) hx hb dL_law_599 hl (by decide) rfl (fun ls hl => ?_)
  refine lv_aload_n hx hb dL_law_601 rfl (lv_at hl 4 rfl) ?_
  refine lv_aload_n hx hb dL_law_602 rfl (lv_at hl 2 rfl) ?_
  refine lv_iload hx hb dL_law_603 (lv_at hl 1 rfl) ?_
  refine lv_iconst (v := 1) hx hb dL_law_605 (by decide) ?_
  refine lv_iadd hx hb dL_law_606 ?_
  rw [show ((nI (4 * i)) + 1 : Int32) = nI (4 * i + 1) from nI_add (4 * i) 1]
  refine va_sld hx hb hX hbl (fun h9 => absurd h9 (Nat.not_le.mpr hbl)) hS (vp_in_nI (by omega) (by omega)) dL_law_607 ?_
  rw [clamp_nI (show 4 * i + 1 < 2147483648 by omega)]
  rw [e1]
  refine lv_aload_n hx hb dL_law_608 rfl (lv_at hl 2 rfl) ?_
  refine lv_iload hx hb dL_law_609 (lv_at hl 1 rfl) ?_
  refine lv_iconst (v := 2) hx hb dL_law_611 (by decide) ?_
  refine lv_iadd hx hb dL_law_612 ?_
  rw [show ((nI (4 * i)) + 2 : Int32) = nI (4 * i + 2) from nI_add (4 * i) 2]
  refine va_sld hx hb hX hbl (fun h9 => absurd h9 (Nat.not_le.mpr hbl)) hS (vp_in_nI (by omega) (by omega)) dL_law_613 ?_
  rw [clamp_nI (show 4 * i + 2 < 2147483648 by omega)]
  rw [e2]
  refine lv_aload_n hx hb dL_law_614 rfl (lv_at hl 2 rfl) ?_
  refine lv_iload hx hb dL_law_615 (lv_at hl 1 rfl) ?_
  refine lv_iconst (v := 3) hx hb dL_law_617 (by decide) ?_
  refine lv_iadd hx hb dL_law_618 ?_
  rw [show ((nI (4 * i)) + 3 : Int32) = nI (4 * i + 3) from nI_add (4 * i) 3]
  refine va_sld hx hb hX hbl (fun h9 => absurd h9 (Nat.not_le.mpr hbl)) hS (vp_in_nI (by omega) (by omega)) dL_law_619 ?_
  rw [clamp_nI (show 4 * i + 3 < 2147483648 by omega)]
  rw [e3]
  refine wr_i (runV1 (As := [.int a, .int x, .int p9]) (rest := []) ⟨hx, hb, hml, hown, hts⟩ (met1_X4_price l dC dI cI cW M th n d r Wd ch pd yr _ a x p9 h9 _) (cwV 3 hts gL_law_X4_price rfl rfl rfl (by decide +kernel) ⟨Nat.le_of_ble_eq_true rfl, Nat.le_of_ble_eq_true rfl⟩) hKK hP hD 4 0 rfl rfl rfl hl.1 (Nat.le_of_ble_eq_true rfl) rfl dL_law_620 ⟨(show 40 + 4 * i + 1 + 0 ≤ 601024 by omega), (show 3000 + 100 * i + 6 + 0 ≤ 7293034 by omega)⟩) hD hS hA (fun r_2 H locs hr_2 hP hD hS => ?_)
  subst hr_2
  refine lv_istore (lv' := [(6, .int 0), (5, .int 1), (4, .int (nI (4 * i))), (0, .ref b), (1, .ref (X 0)), (2, .ref (M 0)), (3, .ref o)]) hx hb dL_law_623 hl (by decide) rfl (fun ls hl => ?_)
  refine lv_aload_n hx hb dL_law_625 rfl (lv_at hl 5 rfl) ?_
  refine rd_i (runV0 (As := []) (rest := []) ⟨hx, hb, hml, hown, hts⟩ (met_X4_thrown l dC dI cI cW _ _ _ _ _ _ _ _ _ _) (cwV 0 hts gL_law_X4_thrown rfl rfl rfl (by decide +kernel) ⟨Nat.le_of_ble_eq_true rfl, Nat.le_of_ble_eq_true rfl⟩) hKK (ws_left hP) 4 0 rfl rfl rfl hl.1 (Nat.le_of_ble_eq_true rfl) rfl dL_law_626 ⟨(show 40 + 4 * i + 1 + 0 ≤ 601024 by omega), (show 3000 + 100 * i + 6 + 0 ≤ 7293034 by omega)⟩) (fun r_3 hr_3 => ?_)
  subst hr_3
  have hP := va_P_perm (law_back _ _ _ _ _ _) hP
  have hD := va_D_perm (law_back _ _ _ _ _ _) hD
  refine lv_iload hx hb dL_law_629 (lv_at hl 1 rfl) ?_
  refine lv_icmp_eq (tgt := 636) hx hb dL_law_631 (by decide) (fun c_7 => ?_) (fun c_7 => ?_)
  · refine lv_iload hx hb dL_law_636 (lv_at hl 1 rfl) ?_
    refine lv_if_ne (tgt := 653) hx hb dL_law_638 (by decide) (fun c_8 => ?_) (fun c_8 => ?_)
    · refine lv_goto (tgt := 1133) hx hb dL_law_653 (by decide) ?_
      refine lv_iinc (v := (nI (4 * (i + 1)))) (lv' := [(4, .int (nI (4 * (i + 1)))), (6, .int 0), (5, .int 1), (0, .ref b), (1, .ref (X 0)), (2, .ref (M 0)), (3, .ref o)]) hx hb dL_law_1133 hl (k := 2) rfl (nI_add (4 * i) 4) (by decide) rfl (fun ls hl => ?_)
      refine lv_goto (tgt := 23) hx hb dL_law_1136 (by decide) ?_
      refine W.widen (k := 40 + 4 * (i + 1)) (n := 3000 + 100 * (i + 1)) (by omega) (by omega) ?_
      exact ih _ _ _ _ _ _ _ _ _ _ _ _ _ _ _ _ _ (hInv.mono (Nat.le_succ i)) H locs hP hD hS ls (lv_sub hl [0, 3, 4, 5, 6] rfl)
    · exact absurd c_8 (by decide)
  · exact absurd rfl c_7
set_option maxHeartbeats 4000000 in
set_option maxRecDepth 100000 in
theorem pL0_told {p : Program} {l : Launch} {e : Env} {s : State} {m : MethodId} {below : List Frame} {meth : Method} {c : Code} {b L : Nat} {xs : Nat → Int32} {dC : Nat → ClassId} {dI : Nat → Nat → Nat} {cI cW cJ : ClassId} {t : Nat} {X Bk Br : Nat → Nat} {o : Nat} (C9 : LC p l s m c b L xs dC dI cI cW cJ t) (i : Nat) (hi9 : i < 512) (hL4 : 4 * i + 4 ≤ L) (hLm : L ≤ 2048) (ih : LOOP p l e s m below meth c b dC dI cI cW cJ X Bk Br o (i + 1)) (M : Nat → Nat) (f0 : Nat → Int64) (th : Int32) (d r : Nat → Int32) (n : Nat) (ch pd pr yr : Int32) (Wd : Nat → Nat → Int32) (n2 : Nat) (ch2 pd2 pr2 yr2 : Int32) (W2 : Nat → Nat → Int32) (hInv : Inv i d r n ch pr Wd) (H : Heap) (locs : List Loc) (hP : va_P (dC, dI) vwCl (tab cI X d r ++ (bk cW X Bk n ch pd pr yr Wd ++ (bk cW X Br n2 ch2 pd2 pr2 yr2 W2 ++ (obj X Bk Br :: (o, .inl (cJ, 1, .inr (.inl f0))) :: mw cI M th n d r Wd ch pd yr (WT d (r 0)))))) H) (hD : va_D (NEW s.heap.size) (tab cI X d r ++ (bk cW X Bk n ch pd pr yr Wd ++ (bk cW X Br n2 ch2 pd2 pr2 yr2 W2 ++ (obj X Bk Br :: (o, .inl (cJ, 1, .inr (.inl f0))) :: mw cI M th n d r Wd ch pd yr (WT d (r 0))))))) (hS : va_S (NEW s.heap.size) s.heap H locs) (ls : Array Slot) (hl : lv_has ls 9 [(4, .int (nI (4 * i))), (0, .ref b), (1, .ref (X 0)), (2, .ref (M 0)), (3, .ref o)]) (k f : Nat) (hk : k < n) (hf : f < 9) (e1 : xs (4 * i + 1) = nI k) (e2 : xs (4 * i + 2) = nI f) : W p l e room_1 s m #[Value.ref b] below meth c H locs (40 + 4 * i) (3000 + 100 * i) (lw_Z below #[Value.ref b] s) (F0 m 656 ls []) := by
  obtain ⟨hx, hb, hml, hown, hts, hX, hbl, hKK, hKJ, hKX0, hHG0, hl0⟩ := C9
  have hA : ∀ q, s.heap.size ≤ q → NEW s.heap.size q := fun q h => h
  have hn := hInv.2.2.1
  have hok := hInv.2.2.2.1
  have hi := hInv.hi.1
  have hi0 := hInv.hi.2
  refine lv_aload_n hx hb dL_law_656 rfl (lv_at hl 2 rfl) ?_
  refine lv_aload_n hx hb dL_law_657 rfl (lv_at hl 1 rfl) ?_
  refine lv_iload hx hb dL_law_658 (lv_at hl 0 rfl) ?_
  refine lv_iconst (v := 1) hx hb dL_law_660 (by decide) ?_
  refine lv_iadd hx hb dL_law_661 ?_
  rw [show ((nI (4 * i)) + 1 : Int32) = nI (4 * i + 1) from nI_add (4 * i) 1]
  refine va_sld hx hb hX hbl (fun h9 => absurd h9 (Nat.not_le.mpr hbl)) hS (vp_in_nI (by omega) (by omega)) dL_law_662 ?_
  rw [clamp_nI (show 4 * i + 1 < 2147483648 by omega)]
  rw [e1]
  refine lv_aload_n hx hb dL_law_663 rfl (lv_at hl 1 rfl) ?_
  refine lv_iload hx hb dL_law_664 (lv_at hl 0 rfl) ?_
  refine lv_iconst (v := 2) hx hb dL_law_666 (by decide) ?_
  refine lv_iadd hx hb dL_law_667 ?_
  rw [show ((nI (4 * i)) + 2 : Int32) = nI (4 * i + 2) from nI_add (4 * i) 2]
  refine va_sld hx hb hX hbl (fun h9 => absurd h9 (Nat.not_le.mpr hbl)) hS (vp_in_nI (by omega) (by omega)) dL_law_668 ?_
  rw [clamp_nI (show 4 * i + 2 < 2147483648 by omega)]
  rw [e2]
  refine lv_aload_n hx hb dL_law_669 rfl (lv_at hl 4 rfl) ?_
  refine wr_i (runSL (As := [.ref (X 0), .int (nI k), .int (nI f), .ref o]) (rest := []) ⟨hx, hb, hml, hown, hts⟩ (met_L_told l dC dI cI cW cJ o f0 X Bk Br d r n ch pd pr yr Wd n2 ch2 pd2 pr2 yr2 W2 (mw cI M th n d r Wd ch pd yr (WT d (r 0))) hn hok k f hk hf hi hi0 _) (vx_cwSW 4 hts gL_law_L_told rfl rfl rfl (by decide +kernel) ⟨Nat.le_of_ble_eq_true rfl, Nat.le_of_ble_eq_true rfl⟩) hKK hKJ (hKX0.at hS) hP hD rfl hl.1 (Nat.le_of_ble_eq_true rfl) rfl dL_law_670 ⟨(show 40 + 4 * i + 0 ≤ 601024 by omega), (show 3000 + 100 * i + 0 ≤ 7293034 by omega)⟩) hD hS hA (fun r_1 H locs hr_1 hP hD hS => ?_)
  subst hr_1
  have hP : va_P (dC, dI) vwCl (tab cI X d r ++ (bk cW X Bk n ch pd pr yr Wd ++ (bk cW X Br n2 ch2 pd2 pr2 yr2 W2 ++ (obj X Bk Br :: (o, .inl (cJ, 1, .inr (.inl (vp_updL f0 0 (tellS d r (Wd k) f).toInt64)))) :: (mw cI M th n d r Wd ch pd yr (WT d (r 0))))))) H := hP
  have hD : va_D (NEW s.heap.size) (tab cI X d r ++ (bk cW X Bk n ch pd pr yr Wd ++ (bk cW X Br n2 ch2 pd2 pr2 yr2 W2 ++ (obj X Bk Br :: (o, .inl (cJ, 1, .inr (.inl (vp_updL f0 0 (tellS d r (Wd k) f).toInt64)))) :: (mw cI M th n d r Wd ch pd yr (WT d (r 0))))))) := hD
  have hP := va_P_perm (law_perm _ _ _ _ _ _) hP
  have hD := va_D_perm (law_perm _ _ _ _ _ _) hD
  refine lv_istore (lv' := [(5, .int 0), (4, .int (nI (4 * i))), (0, .ref b), (1, .ref (X 0)), (2, .ref (M 0)), (3, .ref o)]) hx hb dL_law_673 hl (by decide) rfl (fun ls hl => ?_)
  refine lv_aload_n hx hb dL_law_675 rfl (lv_at hl 4 rfl) ?_
  refine lv_aload_n hx hb dL_law_676 rfl (lv_at hl 2 rfl) ?_
  refine lv_iload hx hb dL_law_677 (lv_at hl 1 rfl) ?_
  refine lv_iconst (v := 1) hx hb dL_law_679 (by decide) ?_
  refine lv_iadd hx hb dL_law_680 ?_
  rw [show ((nI (4 * i)) + 1 : Int32) = nI (4 * i + 1) from nI_add (4 * i) 1]
  refine va_sld hx hb hX hbl (fun h9 => absurd h9 (Nat.not_le.mpr hbl)) hS (vp_in_nI (by omega) (by omega)) dL_law_681 ?_
  rw [clamp_nI (show 4 * i + 1 < 2147483648 by omega)]
  rw [e1]
  refine lv_aload_n hx hb dL_law_682 rfl (lv_at hl 2 rfl) ?_
  refine lv_iload hx hb dL_law_683 (lv_at hl 1 rfl) ?_
  refine lv_iconst (v := 2) hx hb dL_law_685 (by decide) ?_
  refine lv_iadd hx hb dL_law_686 ?_
  rw [show ((nI (4 * i)) + 2 : Int32) = nI (4 * i + 2) from nI_add (4 * i) 2]
  refine va_sld hx hb hX hbl (fun h9 => absurd h9 (Nat.not_le.mpr hbl)) hS (vp_in_nI (by omega) (by omega)) dL_law_687 ?_
  rw [clamp_nI (show 4 * i + 2 < 2147483648 by omega)]
  rw [e2]
  refine wr_i (runV1 (As := [.int (nI k), .int (nI f)]) (rest := []) ⟨hx, hb, hml, hown, hts⟩ (met_X4_told l dC dI cI cW M th n d r Wd ch pd yr _ hn hok k f hk hf _) (cwV 2 hts gL_law_X4_told rfl rfl rfl (by decide +kernel) ⟨Nat.le_of_ble_eq_true rfl, Nat.le_of_ble_eq_true rfl⟩) hKK hP hD 4 0 rfl rfl rfl hl.1 (Nat.le_of_ble_eq_true rfl) rfl dL_law_688 ⟨(show 40 + 4 * i + 0 + 0 ≤ 601024 by omega), (show 3000 + 100 * i + 0 + 0 ≤ 7293034 by omega)⟩) hD hS hA (fun r_2 H locs hr_2 hP hD hS => ?_)
  subst hr_2
  refine lv_istore (lv' := [(6, .int (tellS d r (Wd k) f)), (5, .int 0), (4, .int (nI (4 * i))), (0, .ref b), (1, .ref (X 0)), (2, .ref (M 0)), (3, .ref o)]) hx hb dL_law_691 hl (by decide) rfl (fun ls hl => ?_)
  refine lv_aload_n hx hb dL_law_693 rfl (lv_at hl 5 rfl) ?_
  refine rd_i (runV0 (As := []) (rest := []) ⟨hx, hb, hml, hown, hts⟩ (met_X4_thrown l dC dI cI cW _ _ _ _ _ _ _ _ _ _) (cwV 0 hts gL_law_X4_thrown rfl rfl rfl (by decide +kernel) ⟨Nat.le_of_ble_eq_true rfl, Nat.le_of_ble_eq_true rfl⟩) hKK (ws_left hP) 4 0 rfl rfl rfl hl.1 (Nat.le_of_ble_eq_true rfl) rfl dL_law_694 ⟨(show 40 + 4 * i + 0 + 0 ≤ 601024 by omega), (show 3000 + 100 * i + 0 + 0 ≤ 7293034 by omega)⟩) (fun r_3 hr_3 => ?_)
  subst hr_3
  have hP := va_P_perm (law_back _ _ _ _ _ _) hP
  have hD := va_D_perm (law_back _ _ _ _ _ _) hD
  refine lv_iload hx hb dL_law_697 (lv_at hl 1 rfl) ?_
  refine lv_icmp_eq (tgt := 704) hx hb dL_law_699 (by decide) (fun c_5 => ?_) (fun c_5 => ?_)
  · refine lv_iload hx hb dL_law_704 (lv_at hl 1 rfl) ?_
    refine lv_if_ne (tgt := 721) hx hb dL_law_706 (by decide) (fun c_6 => ?_) (fun c_6 => ?_)
    · exact absurd rfl c_6
    · refine lv_aload_n hx hb dL_law_709 rfl (lv_at hl 6 rfl) ?_
      refine lv_iconst (v := 0) hx hb dL_law_710 (by decide) ?_
      refine va_lald hx hb hKJ hP (27 + 1) 0 (cw_at rfl) rfl (vp_in_nI (n := 0) (by omega) (by omega)) dL_law_711 ?_
      rw [show (vp_updL f0 0 (tellS d r (Wd k) f).toInt64) (0 : Int32).toNatClampNeg = (tellS d r (Wd k) f).toInt64 from rfl]
      refine lv_iload hx hb dL_law_712 (lv_at hl 0 rfl) ?_
      refine lv_i2l hx hb dL_law_714 rfl ?_
      refine lv_lcmpS hx hb dL_law_715 ?_
      refine lv_if_eq (tgt := 721) hx hb dL_law_716 (by decide) (fun c_7 => ?_) (fun c_7 => ?_)
      · refine lv_goto (tgt := 1133) hx hb dL_law_721 (by decide) ?_
        refine lv_iinc (v := (nI (4 * (i + 1)))) (lv' := [(4, .int (nI (4 * (i + 1)))), (6, .int (tellS d r (Wd k) f)), (5, .int 0), (0, .ref b), (1, .ref (X 0)), (2, .ref (M 0)), (3, .ref o)]) hx hb dL_law_1133 hl (k := 2) rfl (nI_add (4 * i) 4) (by decide) rfl (fun ls hl => ?_)
        refine lv_goto (tgt := 23) hx hb dL_law_1136 (by decide) ?_
        refine W.widen (k := 40 + 4 * (i + 1)) (n := 3000 + 100 * (i + 1)) (by omega) (by omega) ?_
        exact ih _ _ _ _ _ _ _ _ _ _ _ _ _ _ _ _ _ (hInv.mono (Nat.le_succ i)) H locs hP hD hS ls (lv_sub hl [0, 3, 4, 5, 6] rfl)
      · exact absurd rfl c_7
  · exact absurd rfl c_5
set_option maxHeartbeats 4000000 in
set_option maxRecDepth 100000 in
theorem pL1_told {p : Program} {l : Launch} {e : Env} {s : State} {m : MethodId} {below : List Frame} {meth : Method} {c : Code} {b L : Nat} {xs : Nat → Int32} {dC : Nat → ClassId} {dI : Nat → Nat → Nat} {cI cW cJ : ClassId} {t : Nat} {X Bk Br : Nat → Nat} {o : Nat} (C9 : LC p l s m c b L xs dC dI cI cW cJ t) (i : Nat) (hi9 : i < 512) (hL4 : 4 * i + 4 ≤ L) (hLm : L ≤ 2048) (ih : LOOP p l e s m below meth c b dC dI cI cW cJ X Bk Br o (i + 1)) (M : Nat → Nat) (f0 : Nat → Int64) (th : Int32) (d r : Nat → Int32) (n : Nat) (ch pd pr yr : Int32) (Wd : Nat → Nat → Int32) (n2 : Nat) (ch2 pd2 pr2 yr2 : Int32) (W2 : Nat → Nat → Int32) (hInv : Inv i d r n ch pr Wd) (H : Heap) (locs : List Loc) (hP : va_P (dC, dI) vwCl (tab cI X d r ++ (bk cW X Bk n ch pd pr yr Wd ++ (bk cW X Br n2 ch2 pd2 pr2 yr2 W2 ++ (obj X Bk Br :: (o, .inl (cJ, 1, .inr (.inl f0))) :: mw cI M th n d r Wd ch pd yr (WT d (r 0)))))) H) (hD : va_D (NEW s.heap.size) (tab cI X d r ++ (bk cW X Bk n ch pd pr yr Wd ++ (bk cW X Br n2 ch2 pd2 pr2 yr2 W2 ++ (obj X Bk Br :: (o, .inl (cJ, 1, .inr (.inl f0))) :: mw cI M th n d r Wd ch pd yr (WT d (r 0))))))) (hS : va_S (NEW s.heap.size) s.heap H locs) (ls : Array Slot) (hl : lv_has ls 9 [(4, .int (nI (4 * i))), (0, .ref b), (1, .ref (X 0)), (2, .ref (M 0)), (3, .ref o)]) (a f : Int32) (h9 : ¬ ((0 ≤ a ∧ a < nI n) ∧ (0 ≤ f ∧ f ≤ 8))) (e1 : xs (4 * i + 1) = a) (e2 : xs (4 * i + 2) = f) : W p l e room_1 s m #[Value.ref b] below meth c H locs (40 + 4 * i) (3000 + 100 * i) (lw_Z below #[Value.ref b] s) (F0 m 656 ls []) := by
  obtain ⟨hx, hb, hml, hown, hts, hX, hbl, hKK, hKJ, hKX0, hHG0, hl0⟩ := C9
  have hA : ∀ q, s.heap.size ≤ q → NEW s.heap.size q := fun q h => h
  have hn := hInv.2.2.1
  have hok := hInv.2.2.2.1
  have hi := hInv.hi.1
  have hi0 := hInv.hi.2
  refine lv_aload_n hx hb dL_law_656 rfl (lv_at hl 2 rfl) ?_
  refine lv_aload_n hx hb dL_law_657 rfl (lv_at hl 1 rfl) ?_
  refine lv_iload hx hb dL_law_658 (lv_at hl 0 rfl) ?_
  refine lv_iconst (v := 1) hx hb dL_law_660 (by decide) ?_
  refine lv_iadd hx hb dL_law_661 ?_
  rw [show ((nI (4 * i)) + 1 : Int32) = nI (4 * i + 1) from nI_add (4 * i) 1]
  refine va_sld hx hb hX hbl (fun h9 => absurd h9 (Nat.not_le.mpr hbl)) hS (vp_in_nI (by omega) (by omega)) dL_law_662 ?_
  rw [clamp_nI (show 4 * i + 1 < 2147483648 by omega)]
  rw [e1]
  refine lv_aload_n hx hb dL_law_663 rfl (lv_at hl 1 rfl) ?_
  refine lv_iload hx hb dL_law_664 (lv_at hl 0 rfl) ?_
  refine lv_iconst (v := 2) hx hb dL_law_666 (by decide) ?_
  refine lv_iadd hx hb dL_law_667 ?_
  rw [show ((nI (4 * i)) + 2 : Int32) = nI (4 * i + 2) from nI_add (4 * i) 2]
  refine va_sld hx hb hX hbl (fun h9 => absurd h9 (Nat.not_le.mpr hbl)) hS (vp_in_nI (by omega) (by omega)) dL_law_668 ?_
  rw [clamp_nI (show 4 * i + 2 < 2147483648 by omega)]
  rw [e2]
  refine lv_aload_n hx hb dL_law_669 rfl (lv_at hl 4 rfl) ?_
  refine wr_i (runSL (As := [.ref (X 0), .int a, .int f, .ref o]) (rest := []) ⟨hx, hb, hml, hown, hts⟩ (bad1_L_told l dC dI cI cW hl0 cJ o f0 X Bk Br d r n ch pd pr yr Wd n2 ch2 pd2 pr2 yr2 W2 (mw cI M th n d r Wd ch pd yr (WT d (r 0))) a f h9 _) (vx_cwSW 4 hts gL_law_L_told rfl rfl rfl (by decide +kernel) ⟨Nat.le_of_ble_eq_true rfl, Nat.le_of_ble_eq_true rfl⟩) hKK hKJ (hKX0.at hS) hP hD rfl hl.1 (Nat.le_of_ble_eq_true rfl) rfl dL_law_670 ⟨(show 40 + 4 * i + 1 ≤ 601024 by omega), (show 3000 + 100 * i + 6 ≤ 7293034 by omega)⟩) hD hS hA (fun r_1 H locs hr_1 hP hD hS => ?_)
  subst hr_1
  have hP : va_P (dC, dI) vwCl (tab cI X d r ++ (bk cW X Bk n ch pd pr yr Wd ++ (bk cW X Br n2 ch2 pd2 pr2 yr2 W2 ++ (obj X Bk Br :: (o, .inl (cJ, 1, .inr (.inl f0))) :: (mw cI M th n d r Wd ch pd yr (WT d (r 0))))))) H := hP
  have hD : va_D (NEW s.heap.size) (tab cI X d r ++ (bk cW X Bk n ch pd pr yr Wd ++ (bk cW X Br n2 ch2 pd2 pr2 yr2 W2 ++ (obj X Bk Br :: (o, .inl (cJ, 1, .inr (.inl f0))) :: (mw cI M th n d r Wd ch pd yr (WT d (r 0))))))) := hD
  have hP := va_P_perm (law_perm _ _ _ _ _ _) hP
  have hD := va_D_perm (law_perm _ _ _ _ _ _) hD
  refine lv_istore (lv' := [(5, .int 1), (4, .int (nI (4 * i))), (0, .ref b), (1, .ref (X 0)), (2, .ref (M 0)), (3, .ref o)]) hx hb dL_law_673 hl (by decide) rfl (fun ls hl => ?_)
  refine lv_aload_n hx hb dL_law_675 rfl (lv_at hl 4 rfl) ?_
  refine lv_aload_n hx hb dL_law_676 rfl (lv_at hl 2 rfl) ?_
  refine lv_iload hx hb dL_law_677 (lv_at hl 1 rfl) ?_
  refine lv_iconst (v := 1) hx hb dL_law_679 (by decide) ?_
  refine lv_iadd hx hb dL_law_680 ?_
  rw [show ((nI (4 * i)) + 1 : Int32) = nI (4 * i + 1) from nI_add (4 * i) 1]
  refine va_sld hx hb hX hbl (fun h9 => absurd h9 (Nat.not_le.mpr hbl)) hS (vp_in_nI (by omega) (by omega)) dL_law_681 ?_
  rw [clamp_nI (show 4 * i + 1 < 2147483648 by omega)]
  rw [e1]
  refine lv_aload_n hx hb dL_law_682 rfl (lv_at hl 2 rfl) ?_
  refine lv_iload hx hb dL_law_683 (lv_at hl 1 rfl) ?_
  refine lv_iconst (v := 2) hx hb dL_law_685 (by decide) ?_
  refine lv_iadd hx hb dL_law_686 ?_
  rw [show ((nI (4 * i)) + 2 : Int32) = nI (4 * i + 2) from nI_add (4 * i) 2]
  refine va_sld hx hb hX hbl (fun h9 => absurd h9 (Nat.not_le.mpr hbl)) hS (vp_in_nI (by omega) (by omega)) dL_law_687 ?_
  rw [clamp_nI (show 4 * i + 2 < 2147483648 by omega)]
  rw [e2]
  refine wr_i (runV1 (As := [.int a, .int f]) (rest := []) ⟨hx, hb, hml, hown, hts⟩ (met1_X4_told l dC dI cI cW M th n d r Wd ch pd yr _ hn a f h9 _) (cwV 2 hts gL_law_X4_told rfl rfl rfl (by decide +kernel) ⟨Nat.le_of_ble_eq_true rfl, Nat.le_of_ble_eq_true rfl⟩) hKK hP hD 4 0 rfl rfl rfl hl.1 (Nat.le_of_ble_eq_true rfl) rfl dL_law_688 ⟨(show 40 + 4 * i + 1 + 0 ≤ 601024 by omega), (show 3000 + 100 * i + 6 + 0 ≤ 7293034 by omega)⟩) hD hS hA (fun r_2 H locs hr_2 hP hD hS => ?_)
  subst hr_2
  refine lv_istore (lv' := [(6, .int 0), (5, .int 1), (4, .int (nI (4 * i))), (0, .ref b), (1, .ref (X 0)), (2, .ref (M 0)), (3, .ref o)]) hx hb dL_law_691 hl (by decide) rfl (fun ls hl => ?_)
  refine lv_aload_n hx hb dL_law_693 rfl (lv_at hl 5 rfl) ?_
  refine rd_i (runV0 (As := []) (rest := []) ⟨hx, hb, hml, hown, hts⟩ (met_X4_thrown l dC dI cI cW _ _ _ _ _ _ _ _ _ _) (cwV 0 hts gL_law_X4_thrown rfl rfl rfl (by decide +kernel) ⟨Nat.le_of_ble_eq_true rfl, Nat.le_of_ble_eq_true rfl⟩) hKK (ws_left hP) 4 0 rfl rfl rfl hl.1 (Nat.le_of_ble_eq_true rfl) rfl dL_law_694 ⟨(show 40 + 4 * i + 1 + 0 ≤ 601024 by omega), (show 3000 + 100 * i + 6 + 0 ≤ 7293034 by omega)⟩) (fun r_3 hr_3 => ?_)
  subst hr_3
  have hP := va_P_perm (law_back _ _ _ _ _ _) hP
  have hD := va_D_perm (law_back _ _ _ _ _ _) hD
  refine lv_iload hx hb dL_law_697 (lv_at hl 1 rfl) ?_
  refine lv_icmp_eq (tgt := 704) hx hb dL_law_699 (by decide) (fun c_5 => ?_) (fun c_5 => ?_)
  · refine lv_iload hx hb dL_law_704 (lv_at hl 1 rfl) ?_
    refine lv_if_ne (tgt := 721) hx hb dL_law_706 (by decide) (fun c_6 => ?_) (fun c_6 => ?_)
    · refine lv_goto (tgt := 1133) hx hb dL_law_721 (by decide) ?_
      refine lv_iinc (v := (nI (4 * (i + 1)))) (lv' := [(4, .int (nI (4 * (i + 1)))), (6, .int 0), (5, .int 1), (0, .ref b), (1, .ref (X 0)), (2, .ref (M 0)), (3, .ref o)]) hx hb dL_law_1133 hl (k := 2) rfl (nI_add (4 * i) 4) (by decide) rfl (fun ls hl => ?_)
      refine lv_goto (tgt := 23) hx hb dL_law_1136 (by decide) ?_
      refine W.widen (k := 40 + 4 * (i + 1)) (n := 3000 + 100 * (i + 1)) (by omega) (by omega) ?_
      exact ih _ _ _ _ _ _ _ _ _ _ _ _ _ _ _ _ _ (hInv.mono (Nat.le_succ i)) H locs hP hD hS ls (lv_sub hl [0, 3, 4, 5, 6] rfl)
    · exact absurd c_6 (by decide)
  · exact absurd rfl c_5
set_option maxHeartbeats 4000000 in
set_option maxRecDepth 100000 in
theorem pL0_count {p : Program} {l : Launch} {e : Env} {s : State} {m : MethodId} {below : List Frame} {meth : Method} {c : Code} {b L : Nat} {xs : Nat → Int32} {dC : Nat → ClassId} {dI : Nat → Nat → Nat} {cI cW cJ : ClassId} {t : Nat} {X Bk Br : Nat → Nat} {o : Nat} (C9 : LC p l s m c b L xs dC dI cI cW cJ t) (i : Nat) (hi9 : i < 512) (hL4 : 4 * i + 4 ≤ L) (hLm : L ≤ 2048) (ih : LOOP p l e s m below meth c b dC dI cI cW cJ X Bk Br o (i + 1)) (M : Nat → Nat) (f0 : Nat → Int64) (th : Int32) (d r : Nat → Int32) (n : Nat) (ch pd pr yr : Int32) (Wd : Nat → Nat → Int32) (n2 : Nat) (ch2 pd2 pr2 yr2 : Int32) (W2 : Nat → Nat → Int32) (hInv : Inv i d r n ch pr Wd) (H : Heap) (locs : List Loc) (hP : va_P (dC, dI) vwCl (tab cI X d r ++ (bk cW X Bk n ch pd pr yr Wd ++ (bk cW X Br n2 ch2 pd2 pr2 yr2 W2 ++ (obj X Bk Br :: (o, .inl (cJ, 1, .inr (.inl f0))) :: mw cI M th n d r Wd ch pd yr (WT d (r 0)))))) H) (hD : va_D (NEW s.heap.size) (tab cI X d r ++ (bk cW X Bk n ch pd pr yr Wd ++ (bk cW X Br n2 ch2 pd2 pr2 yr2 W2 ++ (obj X Bk Br :: (o, .inl (cJ, 1, .inr (.inl f0))) :: mw cI M th n d r Wd ch pd yr (WT d (r 0))))))) (hS : va_S (NEW s.heap.size) s.heap H locs) (ls : Array Slot) (hl : lv_has ls 9 [(4, .int (nI (4 * i))), (0, .ref b), (1, .ref (X 0)), (2, .ref (M 0)), (3, .ref o)]) (k : Nat) (hk : k < 9) (e1 : xs (4 * i + 1) = nI k) : W p l e room_1 s m #[Value.ref b] below meth c H locs (40 + 4 * i) (3000 + 100 * i) (lw_Z below #[Value.ref b] s) (F0 m 724 ls []) := by
  obtain ⟨hx, hb, hml, hown, hts, hX, hbl, hKK, hKJ, hKX0, hHG0, hl0⟩ := C9
  have hA : ∀ q, s.heap.size ≤ q → NEW s.heap.size q := fun q h => h
  have hn := hInv.2.2.1
  have hok := hInv.2.2.2.1
  have hi := hInv.hi.1
  have hi0 := hInv.hi.2
  refine lv_aload_n hx hb dL_law_724 rfl (lv_at hl 2 rfl) ?_
  refine lv_aload_n hx hb dL_law_725 rfl (lv_at hl 1 rfl) ?_
  refine lv_iload hx hb dL_law_726 (lv_at hl 0 rfl) ?_
  refine lv_iconst (v := 1) hx hb dL_law_728 (by decide) ?_
  refine lv_iadd hx hb dL_law_729 ?_
  rw [show ((nI (4 * i)) + 1 : Int32) = nI (4 * i + 1) from nI_add (4 * i) 1]
  refine va_sld hx hb hX hbl (fun h9 => absurd h9 (Nat.not_le.mpr hbl)) hS (vp_in_nI (by omega) (by omega)) dL_law_730 ?_
  rw [clamp_nI (show 4 * i + 1 < 2147483648 by omega)]
  rw [e1]
  refine lv_aload_n hx hb dL_law_731 rfl (lv_at hl 4 rfl) ?_
  refine wr_i (runSL (As := [.ref (X 0), .int (nI k), .ref o]) (rest := []) ⟨hx, hb, hml, hown, hts⟩ (met_L_count l dC dI cI cW cJ o f0 X Bk Br d r n ch pd pr yr Wd n2 ch2 pd2 pr2 yr2 W2 (mw cI M th n d r Wd ch pd yr (WT d (r 0))) hn hok k hk hi hi0 _) (vx_cwSW 3 hts gL_law_L_count rfl rfl rfl (by decide +kernel) ⟨Nat.le_of_ble_eq_true rfl, Nat.le_of_ble_eq_true rfl⟩) hKK hKJ (hKX0.at hS) hP hD rfl hl.1 (Nat.le_of_ble_eq_true rfl) rfl dL_law_732 ⟨(show 40 + 4 * i + 0 ≤ 601024 by omega), (show 3000 + 100 * i + 0 ≤ 7293034 by omega)⟩) hD hS hA (fun r_1 H locs hr_1 hP hD hS => ?_)
  subst hr_1
  have hP : va_P (dC, dI) vwCl (tab cI X d r ++ (bk cW X Bk n ch pd pr yr Wd ++ (bk cW X Br n2 ch2 pd2 pr2 yr2 W2 ++ (obj X Bk Br :: (o, .inl (cJ, 1, .inr (.inl (vp_updL f0 0 (countS d r n ch pd pr yr Wd k).toInt64)))) :: (mw cI M th n d r Wd ch pd yr (WT d (r 0))))))) H := hP
  have hD : va_D (NEW s.heap.size) (tab cI X d r ++ (bk cW X Bk n ch pd pr yr Wd ++ (bk cW X Br n2 ch2 pd2 pr2 yr2 W2 ++ (obj X Bk Br :: (o, .inl (cJ, 1, .inr (.inl (vp_updL f0 0 (countS d r n ch pd pr yr Wd k).toInt64)))) :: (mw cI M th n d r Wd ch pd yr (WT d (r 0))))))) := hD
  have hP := va_P_perm (law_perm _ _ _ _ _ _) hP
  have hD := va_D_perm (law_perm _ _ _ _ _ _) hD
  refine lv_istore (lv' := [(5, .int 0), (4, .int (nI (4 * i))), (0, .ref b), (1, .ref (X 0)), (2, .ref (M 0)), (3, .ref o)]) hx hb dL_law_735 hl (by decide) rfl (fun ls hl => ?_)
  refine lv_aload_n hx hb dL_law_737 rfl (lv_at hl 4 rfl) ?_
  refine lv_aload_n hx hb dL_law_738 rfl (lv_at hl 2 rfl) ?_
  refine lv_iload hx hb dL_law_739 (lv_at hl 1 rfl) ?_
  refine lv_iconst (v := 1) hx hb dL_law_741 (by decide) ?_
  refine lv_iadd hx hb dL_law_742 ?_
  rw [show ((nI (4 * i)) + 1 : Int32) = nI (4 * i + 1) from nI_add (4 * i) 1]
  refine va_sld hx hb hX hbl (fun h9 => absurd h9 (Nat.not_le.mpr hbl)) hS (vp_in_nI (by omega) (by omega)) dL_law_743 ?_
  rw [clamp_nI (show 4 * i + 1 < 2147483648 by omega)]
  rw [e1]
  refine wr_i (runV1 (As := [.int (nI k)]) (rest := []) ⟨hx, hb, hml, hown, hts⟩ (met_X4_count l dC dI cI cW M th n d r Wd ch pd yr _ hn hok k hk _) (cwV 1 hts gL_law_X4_count rfl rfl rfl (by decide +kernel) ⟨Nat.le_of_ble_eq_true rfl, Nat.le_of_ble_eq_true rfl⟩) hKK hP hD 4 0 rfl rfl rfl hl.1 (Nat.le_of_ble_eq_true rfl) rfl dL_law_744 ⟨(show 40 + 4 * i + 0 + 0 ≤ 601024 by omega), (show 3000 + 100 * i + 0 + 0 ≤ 7293034 by omega)⟩) hD hS hA (fun r_2 H locs hr_2 hP hD hS => ?_)
  subst hr_2
  rw [show (countS d r n ch pd (sm (prcF Wd) n) yr Wd k : Int32) = countS d r n ch pd pr yr Wd k from by rw [← hInv.2.2.2.2.1]]
  refine lv_istore (lv' := [(6, .int (countS d r n ch pd pr yr Wd k)), (5, .int 0), (4, .int (nI (4 * i))), (0, .ref b), (1, .ref (X 0)), (2, .ref (M 0)), (3, .ref o)]) hx hb dL_law_747 hl (by decide) rfl (fun ls hl => ?_)
  refine lv_aload_n hx hb dL_law_749 rfl (lv_at hl 5 rfl) ?_
  refine rd_i (runV0 (As := []) (rest := []) ⟨hx, hb, hml, hown, hts⟩ (met_X4_thrown l dC dI cI cW _ _ _ _ _ _ _ _ _ _) (cwV 0 hts gL_law_X4_thrown rfl rfl rfl (by decide +kernel) ⟨Nat.le_of_ble_eq_true rfl, Nat.le_of_ble_eq_true rfl⟩) hKK (ws_left hP) 4 0 rfl rfl rfl hl.1 (Nat.le_of_ble_eq_true rfl) rfl dL_law_750 ⟨(show 40 + 4 * i + 0 + 0 ≤ 601024 by omega), (show 3000 + 100 * i + 0 + 0 ≤ 7293034 by omega)⟩) (fun r_3 hr_3 => ?_)
  subst hr_3
  have hP := va_P_perm (law_back _ _ _ _ _ _) hP
  have hD := va_D_perm (law_back _ _ _ _ _ _) hD
  refine lv_iload hx hb dL_law_753 (lv_at hl 1 rfl) ?_
  refine lv_icmp_eq (tgt := 760) hx hb dL_law_755 (by decide) (fun c_4 => ?_) (fun c_4 => ?_)
  · refine lv_iload hx hb dL_law_760 (lv_at hl 1 rfl) ?_
    refine lv_if_ne (tgt := 777) hx hb dL_law_762 (by decide) (fun c_5 => ?_) (fun c_5 => ?_)
    · exact absurd rfl c_5
    · refine lv_aload_n hx hb dL_law_765 rfl (lv_at hl 6 rfl) ?_
      refine lv_iconst (v := 0) hx hb dL_law_766 (by decide) ?_
      refine va_lald hx hb hKJ hP (27 + 1) 0 (cw_at rfl) rfl (vp_in_nI (n := 0) (by omega) (by omega)) dL_law_767 ?_
      rw [show (vp_updL f0 0 (countS d r n ch pd pr yr Wd k).toInt64) (0 : Int32).toNatClampNeg = (countS d r n ch pd pr yr Wd k).toInt64 from rfl]
      refine lv_iload hx hb dL_law_768 (lv_at hl 0 rfl) ?_
      refine lv_i2l hx hb dL_law_770 rfl ?_
      refine lv_lcmpS hx hb dL_law_771 ?_
      refine lv_if_eq (tgt := 777) hx hb dL_law_772 (by decide) (fun c_6 => ?_) (fun c_6 => ?_)
      · refine lv_goto (tgt := 1133) hx hb dL_law_777 (by decide) ?_
        refine lv_iinc (v := (nI (4 * (i + 1)))) (lv' := [(4, .int (nI (4 * (i + 1)))), (6, .int (countS d r n ch pd pr yr Wd k)), (5, .int 0), (0, .ref b), (1, .ref (X 0)), (2, .ref (M 0)), (3, .ref o)]) hx hb dL_law_1133 hl (k := 2) rfl (nI_add (4 * i) 4) (by decide) rfl (fun ls hl => ?_)
        refine lv_goto (tgt := 23) hx hb dL_law_1136 (by decide) ?_
        refine W.widen (k := 40 + 4 * (i + 1)) (n := 3000 + 100 * (i + 1)) (by omega) (by omega) ?_
        exact ih _ _ _ _ _ _ _ _ _ _ _ _ _ _ _ _ _ (hInv.mono (Nat.le_succ i)) H locs hP hD hS ls (lv_sub hl [0, 3, 4, 5, 6] rfl)
      · exact absurd rfl c_6
  · exact absurd rfl c_4
set_option maxHeartbeats 4000000 in
set_option maxRecDepth 100000 in
theorem pL1_count {p : Program} {l : Launch} {e : Env} {s : State} {m : MethodId} {below : List Frame} {meth : Method} {c : Code} {b L : Nat} {xs : Nat → Int32} {dC : Nat → ClassId} {dI : Nat → Nat → Nat} {cI cW cJ : ClassId} {t : Nat} {X Bk Br : Nat → Nat} {o : Nat} (C9 : LC p l s m c b L xs dC dI cI cW cJ t) (i : Nat) (hi9 : i < 512) (hL4 : 4 * i + 4 ≤ L) (hLm : L ≤ 2048) (ih : LOOP p l e s m below meth c b dC dI cI cW cJ X Bk Br o (i + 1)) (M : Nat → Nat) (f0 : Nat → Int64) (th : Int32) (d r : Nat → Int32) (n : Nat) (ch pd pr yr : Int32) (Wd : Nat → Nat → Int32) (n2 : Nat) (ch2 pd2 pr2 yr2 : Int32) (W2 : Nat → Nat → Int32) (hInv : Inv i d r n ch pr Wd) (H : Heap) (locs : List Loc) (hP : va_P (dC, dI) vwCl (tab cI X d r ++ (bk cW X Bk n ch pd pr yr Wd ++ (bk cW X Br n2 ch2 pd2 pr2 yr2 W2 ++ (obj X Bk Br :: (o, .inl (cJ, 1, .inr (.inl f0))) :: mw cI M th n d r Wd ch pd yr (WT d (r 0)))))) H) (hD : va_D (NEW s.heap.size) (tab cI X d r ++ (bk cW X Bk n ch pd pr yr Wd ++ (bk cW X Br n2 ch2 pd2 pr2 yr2 W2 ++ (obj X Bk Br :: (o, .inl (cJ, 1, .inr (.inl f0))) :: mw cI M th n d r Wd ch pd yr (WT d (r 0))))))) (hS : va_S (NEW s.heap.size) s.heap H locs) (ls : Array Slot) (hl : lv_has ls 9 [(4, .int (nI (4 * i))), (0, .ref b), (1, .ref (X 0)), (2, .ref (M 0)), (3, .ref o)]) (f : Int32) (h9 : ¬ (0 ≤ f ∧ f ≤ 8)) (e1 : xs (4 * i + 1) = f) : W p l e room_1 s m #[Value.ref b] below meth c H locs (40 + 4 * i) (3000 + 100 * i) (lw_Z below #[Value.ref b] s) (F0 m 724 ls []) := by
  obtain ⟨hx, hb, hml, hown, hts, hX, hbl, hKK, hKJ, hKX0, hHG0, hl0⟩ := C9
  have hA : ∀ q, s.heap.size ≤ q → NEW s.heap.size q := fun q h => h
  have hn := hInv.2.2.1
  have hok := hInv.2.2.2.1
  have hi := hInv.hi.1
  have hi0 := hInv.hi.2
  refine lv_aload_n hx hb dL_law_724 rfl (lv_at hl 2 rfl) ?_
  refine lv_aload_n hx hb dL_law_725 rfl (lv_at hl 1 rfl) ?_
  refine lv_iload hx hb dL_law_726 (lv_at hl 0 rfl) ?_
  refine lv_iconst (v := 1) hx hb dL_law_728 (by decide) ?_
  refine lv_iadd hx hb dL_law_729 ?_
  rw [show ((nI (4 * i)) + 1 : Int32) = nI (4 * i + 1) from nI_add (4 * i) 1]
  refine va_sld hx hb hX hbl (fun h9 => absurd h9 (Nat.not_le.mpr hbl)) hS (vp_in_nI (by omega) (by omega)) dL_law_730 ?_
  rw [clamp_nI (show 4 * i + 1 < 2147483648 by omega)]
  rw [e1]
  refine lv_aload_n hx hb dL_law_731 rfl (lv_at hl 4 rfl) ?_
  refine wr_i (runSL (As := [.ref (X 0), .int f, .ref o]) (rest := []) ⟨hx, hb, hml, hown, hts⟩ (bad1_L_count l dC dI cI cW hl0 cJ o f0 X Bk Br d r n ch pd pr yr Wd n2 ch2 pd2 pr2 yr2 W2 (mw cI M th n d r Wd ch pd yr (WT d (r 0))) f h9 _) (vx_cwSW 3 hts gL_law_L_count rfl rfl rfl (by decide +kernel) ⟨Nat.le_of_ble_eq_true rfl, Nat.le_of_ble_eq_true rfl⟩) hKK hKJ (hKX0.at hS) hP hD rfl hl.1 (Nat.le_of_ble_eq_true rfl) rfl dL_law_732 ⟨(show 40 + 4 * i + 1 ≤ 601024 by omega), (show 3000 + 100 * i + 6 ≤ 7293034 by omega)⟩) hD hS hA (fun r_1 H locs hr_1 hP hD hS => ?_)
  subst hr_1
  have hP : va_P (dC, dI) vwCl (tab cI X d r ++ (bk cW X Bk n ch pd pr yr Wd ++ (bk cW X Br n2 ch2 pd2 pr2 yr2 W2 ++ (obj X Bk Br :: (o, .inl (cJ, 1, .inr (.inl f0))) :: (mw cI M th n d r Wd ch pd yr (WT d (r 0))))))) H := hP
  have hD : va_D (NEW s.heap.size) (tab cI X d r ++ (bk cW X Bk n ch pd pr yr Wd ++ (bk cW X Br n2 ch2 pd2 pr2 yr2 W2 ++ (obj X Bk Br :: (o, .inl (cJ, 1, .inr (.inl f0))) :: (mw cI M th n d r Wd ch pd yr (WT d (r 0))))))) := hD
  have hP := va_P_perm (law_perm _ _ _ _ _ _) hP
  have hD := va_D_perm (law_perm _ _ _ _ _ _) hD
  refine lv_istore (lv' := [(5, .int 1), (4, .int (nI (4 * i))), (0, .ref b), (1, .ref (X 0)), (2, .ref (M 0)), (3, .ref o)]) hx hb dL_law_735 hl (by decide) rfl (fun ls hl => ?_)
  refine lv_aload_n hx hb dL_law_737 rfl (lv_at hl 4 rfl) ?_
  refine lv_aload_n hx hb dL_law_738 rfl (lv_at hl 2 rfl) ?_
  refine lv_iload hx hb dL_law_739 (lv_at hl 1 rfl) ?_
  refine lv_iconst (v := 1) hx hb dL_law_741 (by decide) ?_
  refine lv_iadd hx hb dL_law_742 ?_
  rw [show ((nI (4 * i)) + 1 : Int32) = nI (4 * i + 1) from nI_add (4 * i) 1]
  refine va_sld hx hb hX hbl (fun h9 => absurd h9 (Nat.not_le.mpr hbl)) hS (vp_in_nI (by omega) (by omega)) dL_law_743 ?_
  rw [clamp_nI (show 4 * i + 1 < 2147483648 by omega)]
  rw [e1]
  refine wr_i (runV1 (As := [.int f]) (rest := []) ⟨hx, hb, hml, hown, hts⟩ (met1_X4_count l dC dI cI cW M th n d r Wd ch pd yr _ f h9 _) (cwV 1 hts gL_law_X4_count rfl rfl rfl (by decide +kernel) ⟨Nat.le_of_ble_eq_true rfl, Nat.le_of_ble_eq_true rfl⟩) hKK hP hD 4 0 rfl rfl rfl hl.1 (Nat.le_of_ble_eq_true rfl) rfl dL_law_744 ⟨(show 40 + 4 * i + 1 + 0 ≤ 601024 by omega), (show 3000 + 100 * i + 6 + 0 ≤ 7293034 by omega)⟩) hD hS hA (fun r_2 H locs hr_2 hP hD hS => ?_)
  subst hr_2
  refine lv_istore (lv' := [(6, .int 0), (5, .int 1), (4, .int (nI (4 * i))), (0, .ref b), (1, .ref (X 0)), (2, .ref (M 0)), (3, .ref o)]) hx hb dL_law_747 hl (by decide) rfl (fun ls hl => ?_)
  refine lv_aload_n hx hb dL_law_749 rfl (lv_at hl 5 rfl) ?_
  refine rd_i (runV0 (As := []) (rest := []) ⟨hx, hb, hml, hown, hts⟩ (met_X4_thrown l dC dI cI cW _ _ _ _ _ _ _ _ _ _) (cwV 0 hts gL_law_X4_thrown rfl rfl rfl (by decide +kernel) ⟨Nat.le_of_ble_eq_true rfl, Nat.le_of_ble_eq_true rfl⟩) hKK (ws_left hP) 4 0 rfl rfl rfl hl.1 (Nat.le_of_ble_eq_true rfl) rfl dL_law_750 ⟨(show 40 + 4 * i + 1 + 0 ≤ 601024 by omega), (show 3000 + 100 * i + 6 + 0 ≤ 7293034 by omega)⟩) (fun r_3 hr_3 => ?_)
  subst hr_3
  have hP := va_P_perm (law_back _ _ _ _ _ _) hP
  have hD := va_D_perm (law_back _ _ _ _ _ _) hD
  refine lv_iload hx hb dL_law_753 (lv_at hl 1 rfl) ?_
  refine lv_icmp_eq (tgt := 760) hx hb dL_law_755 (by decide) (fun c_3 => ?_) (fun c_3 => ?_)
  · refine lv_iload hx hb dL_law_760 (lv_at hl 1 rfl) ?_
    refine lv_if_ne (tgt := 777) hx hb dL_law_762 (by decide) (fun c_4 => ?_) (fun c_4 => ?_)
    · refine lv_goto (tgt := 1133) hx hb dL_law_777 (by decide) ?_
      refine lv_iinc (v := (nI (4 * (i + 1)))) (lv' := [(4, .int (nI (4 * (i + 1)))), (6, .int 0), (5, .int 1), (0, .ref b), (1, .ref (X 0)), (2, .ref (M 0)), (3, .ref o)]) hx hb dL_law_1133 hl (k := 2) rfl (nI_add (4 * i) 4) (by decide) rfl (fun ls hl => ?_)
      refine lv_goto (tgt := 23) hx hb dL_law_1136 (by decide) ?_
      refine W.widen (k := 40 + 4 * (i + 1)) (n := 3000 + 100 * (i + 1)) (by omega) (by omega) ?_
      exact ih _ _ _ _ _ _ _ _ _ _ _ _ _ _ _ _ _ (hInv.mono (Nat.le_succ i)) H locs hP hD hS ls (lv_sub hl [0, 3, 4, 5, 6] rfl)
    · exact absurd c_4 (by decide)
  · exact absurd rfl c_3
set_option maxHeartbeats 4000000 in
set_option maxRecDepth 100000 in
theorem pL0_alive {p : Program} {l : Launch} {e : Env} {s : State} {m : MethodId} {below : List Frame} {meth : Method} {c : Code} {b L : Nat} {xs : Nat → Int32} {dC : Nat → ClassId} {dI : Nat → Nat → Nat} {cI cW cJ : ClassId} {t : Nat} {X Bk Br : Nat → Nat} {o : Nat} (C9 : LC p l s m c b L xs dC dI cI cW cJ t) (i : Nat) (hi9 : i < 512) (hL4 : 4 * i + 4 ≤ L) (hLm : L ≤ 2048) (ih : LOOP p l e s m below meth c b dC dI cI cW cJ X Bk Br o (i + 1)) (M : Nat → Nat) (f0 : Nat → Int64) (th : Int32) (d r : Nat → Int32) (n : Nat) (ch pd pr yr : Int32) (Wd : Nat → Nat → Int32) (n2 : Nat) (ch2 pd2 pr2 yr2 : Int32) (W2 : Nat → Nat → Int32) (hInv : Inv i d r n ch pr Wd) (H : Heap) (locs : List Loc) (hP : va_P (dC, dI) vwCl (tab cI X d r ++ (bk cW X Bk n ch pd pr yr Wd ++ (bk cW X Br n2 ch2 pd2 pr2 yr2 W2 ++ (obj X Bk Br :: (o, .inl (cJ, 1, .inr (.inl f0))) :: mw cI M th n d r Wd ch pd yr (WT d (r 0)))))) H) (hD : va_D (NEW s.heap.size) (tab cI X d r ++ (bk cW X Bk n ch pd pr yr Wd ++ (bk cW X Br n2 ch2 pd2 pr2 yr2 W2 ++ (obj X Bk Br :: (o, .inl (cJ, 1, .inr (.inl f0))) :: mw cI M th n d r Wd ch pd yr (WT d (r 0))))))) (hS : va_S (NEW s.heap.size) s.heap H locs) (ls : Array Slot) (hl : lv_has ls 9 [(4, .int (nI (4 * i))), (0, .ref b), (1, .ref (X 0)), (2, .ref (M 0)), (3, .ref o)]) (ka y : Nat) (h1 : 50 ≤ ka) (h2 : ka ≤ 99) (h3 : y ≤ 60) (e1 : xs (4 * i + 1) = nI ka) (e2 : xs (4 * i + 2) = nI y) : W p l e room_1 s m #[Value.ref b] below meth c H locs (40 + 4 * i) (3000 + 100 * i) (lw_Z below #[Value.ref b] s) (F0 m 780 ls []) := by
  obtain ⟨hx, hb, hml, hown, hts, hX, hbl, hKK, hKJ, hKX0, hHG0, hl0⟩ := C9
  have hA : ∀ q, s.heap.size ≤ q → NEW s.heap.size q := fun q h => h
  have hn := hInv.2.2.1
  have hok := hInv.2.2.2.1
  have hi := hInv.hi.1
  have hi0 := hInv.hi.2
  refine lv_aload_n hx hb dL_law_780 rfl (lv_at hl 2 rfl) ?_
  refine lv_aload_n hx hb dL_law_781 rfl (lv_at hl 1 rfl) ?_
  refine lv_iload hx hb dL_law_782 (lv_at hl 0 rfl) ?_
  refine lv_iconst (v := 1) hx hb dL_law_784 (by decide) ?_
  refine lv_iadd hx hb dL_law_785 ?_
  rw [show ((nI (4 * i)) + 1 : Int32) = nI (4 * i + 1) from nI_add (4 * i) 1]
  refine va_sld hx hb hX hbl (fun h9 => absurd h9 (Nat.not_le.mpr hbl)) hS (vp_in_nI (by omega) (by omega)) dL_law_786 ?_
  rw [clamp_nI (show 4 * i + 1 < 2147483648 by omega)]
  rw [e1]
  refine lv_aload_n hx hb dL_law_787 rfl (lv_at hl 1 rfl) ?_
  refine lv_iload hx hb dL_law_788 (lv_at hl 0 rfl) ?_
  refine lv_iconst (v := 2) hx hb dL_law_790 (by decide) ?_
  refine lv_iadd hx hb dL_law_791 ?_
  rw [show ((nI (4 * i)) + 2 : Int32) = nI (4 * i + 2) from nI_add (4 * i) 2]
  refine va_sld hx hb hX hbl (fun h9 => absurd h9 (Nat.not_le.mpr hbl)) hS (vp_in_nI (by omega) (by omega)) dL_law_792 ?_
  rw [clamp_nI (show 4 * i + 2 < 2147483648 by omega)]
  rw [e2]
  refine lv_aload_n hx hb dL_law_793 rfl (lv_at hl 4 rfl) ?_
  refine wr_i (runSL (As := [.ref (X 0), .int (nI ka), .int (nI y), .ref o]) (rest := []) ⟨hx, hb, hml, hown, hts⟩ (met_L_alive l dC dI cI cW cJ o f0 X Bk Br d r n ch pd pr yr Wd n2 ch2 pd2 pr2 yr2 W2 (mw cI M th n d r Wd ch pd yr (WT d (r 0))) ka y h1 h2 h3 _) (vx_cwSW 4 hts gL_law_L_alive rfl rfl rfl (by decide +kernel) ⟨Nat.le_of_ble_eq_true rfl, Nat.le_of_ble_eq_true rfl⟩) hKK hKJ (hKX0.at hS) hP hD rfl hl.1 (Nat.le_of_ble_eq_true rfl) rfl dL_law_794 ⟨(show 40 + 4 * i + 0 ≤ 601024 by omega), (show 3000 + 100 * i + 0 ≤ 7293034 by omega)⟩) hD hS hA (fun r_1 H locs hr_1 hP hD hS => ?_)
  subst hr_1
  have hP : va_P (dC, dI) vwCl (tab cI X d r ++ (bk cW X Bk n ch pd pr yr Wd ++ (bk cW X Br n2 ch2 pd2 pr2 yr2 W2 ++ (obj X Bk Br :: (o, .inl (cJ, 1, .inr (.inl (vp_updL f0 0 (if 99 < ka + y then 0 else aliveS d (ka - 50) y).toInt64)))) :: (mw cI M th n d r Wd ch pd yr (WT d (r 0))))))) H := hP
  have hD : va_D (NEW s.heap.size) (tab cI X d r ++ (bk cW X Bk n ch pd pr yr Wd ++ (bk cW X Br n2 ch2 pd2 pr2 yr2 W2 ++ (obj X Bk Br :: (o, .inl (cJ, 1, .inr (.inl (vp_updL f0 0 (if 99 < ka + y then 0 else aliveS d (ka - 50) y).toInt64)))) :: (mw cI M th n d r Wd ch pd yr (WT d (r 0))))))) := hD
  have hP := va_P_perm (law_perm _ _ _ _ _ _) hP
  have hD := va_D_perm (law_perm _ _ _ _ _ _) hD
  refine lv_istore (lv' := [(5, .int 0), (4, .int (nI (4 * i))), (0, .ref b), (1, .ref (X 0)), (2, .ref (M 0)), (3, .ref o)]) hx hb dL_law_797 hl (by decide) rfl (fun ls hl => ?_)
  refine lv_aload_n hx hb dL_law_799 rfl (lv_at hl 4 rfl) ?_
  refine lv_aload_n hx hb dL_law_800 rfl (lv_at hl 2 rfl) ?_
  refine lv_iload hx hb dL_law_801 (lv_at hl 1 rfl) ?_
  refine lv_iconst (v := 1) hx hb dL_law_803 (by decide) ?_
  refine lv_iadd hx hb dL_law_804 ?_
  rw [show ((nI (4 * i)) + 1 : Int32) = nI (4 * i + 1) from nI_add (4 * i) 1]
  refine va_sld hx hb hX hbl (fun h9 => absurd h9 (Nat.not_le.mpr hbl)) hS (vp_in_nI (by omega) (by omega)) dL_law_805 ?_
  rw [clamp_nI (show 4 * i + 1 < 2147483648 by omega)]
  rw [e1]
  refine lv_aload_n hx hb dL_law_806 rfl (lv_at hl 2 rfl) ?_
  refine lv_iload hx hb dL_law_807 (lv_at hl 1 rfl) ?_
  refine lv_iconst (v := 2) hx hb dL_law_809 (by decide) ?_
  refine lv_iadd hx hb dL_law_810 ?_
  rw [show ((nI (4 * i)) + 2 : Int32) = nI (4 * i + 2) from nI_add (4 * i) 2]
  refine va_sld hx hb hX hbl (fun h9 => absurd h9 (Nat.not_le.mpr hbl)) hS (vp_in_nI (by omega) (by omega)) dL_law_811 ?_
  rw [clamp_nI (show 4 * i + 2 < 2147483648 by omega)]
  rw [e2]
  refine wr_i (runV1 (As := [.int (nI ka), .int (nI y)]) (rest := []) ⟨hx, hb, hml, hown, hts⟩ (met_X4_alive l dC dI cI cW M th n d r Wd ch pd yr _ ka y h1 h2 h3 _) (cwV 2 hts gL_law_X4_alive rfl rfl rfl (by decide +kernel) ⟨Nat.le_of_ble_eq_true rfl, Nat.le_of_ble_eq_true rfl⟩) hKK hP hD 4 0 rfl rfl rfl hl.1 (Nat.le_of_ble_eq_true rfl) rfl dL_law_812 ⟨(show 40 + 4 * i + 0 + 0 ≤ 601024 by omega), (show 3000 + 100 * i + 0 + 0 ≤ 7293034 by omega)⟩) hD hS hA (fun r_2 H locs hr_2 hP hD hS => ?_)
  subst hr_2
  refine lv_istore (lv' := [(6, .int (if 99 < ka + y then 0 else aliveS d (ka - 50) y)), (5, .int 0), (4, .int (nI (4 * i))), (0, .ref b), (1, .ref (X 0)), (2, .ref (M 0)), (3, .ref o)]) hx hb dL_law_815 hl (by decide) rfl (fun ls hl => ?_)
  refine lv_aload_n hx hb dL_law_817 rfl (lv_at hl 5 rfl) ?_
  refine rd_i (runV0 (As := []) (rest := []) ⟨hx, hb, hml, hown, hts⟩ (met_X4_thrown l dC dI cI cW _ _ _ _ _ _ _ _ _ _) (cwV 0 hts gL_law_X4_thrown rfl rfl rfl (by decide +kernel) ⟨Nat.le_of_ble_eq_true rfl, Nat.le_of_ble_eq_true rfl⟩) hKK (ws_left hP) 4 0 rfl rfl rfl hl.1 (Nat.le_of_ble_eq_true rfl) rfl dL_law_818 ⟨(show 40 + 4 * i + 0 + 0 ≤ 601024 by omega), (show 3000 + 100 * i + 0 + 0 ≤ 7293034 by omega)⟩) (fun r_3 hr_3 => ?_)
  subst hr_3
  have hP := va_P_perm (law_back _ _ _ _ _ _) hP
  have hD := va_D_perm (law_back _ _ _ _ _ _) hD
  refine lv_iload hx hb dL_law_821 (lv_at hl 1 rfl) ?_
  refine lv_icmp_eq (tgt := 828) hx hb dL_law_823 (by decide) (fun c_5 => ?_) (fun c_5 => ?_)
  · refine lv_iload hx hb dL_law_828 (lv_at hl 1 rfl) ?_
    refine lv_if_ne (tgt := 845) hx hb dL_law_830 (by decide) (fun c_6 => ?_) (fun c_6 => ?_)
    · exact absurd rfl c_6
    · refine lv_aload_n hx hb dL_law_833 rfl (lv_at hl 6 rfl) ?_
      refine lv_iconst (v := 0) hx hb dL_law_834 (by decide) ?_
      refine va_lald hx hb hKJ hP (27 + 1) 0 (cw_at rfl) rfl (vp_in_nI (n := 0) (by omega) (by omega)) dL_law_835 ?_
      rw [show (vp_updL f0 0 (if 99 < ka + y then 0 else aliveS d (ka - 50) y).toInt64) (0 : Int32).toNatClampNeg = (if 99 < ka + y then 0 else aliveS d (ka - 50) y).toInt64 from rfl]
      refine lv_iload hx hb dL_law_836 (lv_at hl 0 rfl) ?_
      refine lv_i2l hx hb dL_law_838 rfl ?_
      refine lv_lcmpS hx hb dL_law_839 ?_
      refine lv_if_eq (tgt := 845) hx hb dL_law_840 (by decide) (fun c_7 => ?_) (fun c_7 => ?_)
      · refine lv_goto (tgt := 1133) hx hb dL_law_845 (by decide) ?_
        refine lv_iinc (v := (nI (4 * (i + 1)))) (lv' := [(4, .int (nI (4 * (i + 1)))), (6, .int (if 99 < ka + y then 0 else aliveS d (ka - 50) y)), (5, .int 0), (0, .ref b), (1, .ref (X 0)), (2, .ref (M 0)), (3, .ref o)]) hx hb dL_law_1133 hl (k := 2) rfl (nI_add (4 * i) 4) (by decide) rfl (fun ls hl => ?_)
        refine lv_goto (tgt := 23) hx hb dL_law_1136 (by decide) ?_
        refine W.widen (k := 40 + 4 * (i + 1)) (n := 3000 + 100 * (i + 1)) (by omega) (by omega) ?_
        exact ih _ _ _ _ _ _ _ _ _ _ _ _ _ _ _ _ _ (hInv.mono (Nat.le_succ i)) H locs hP hD hS ls (lv_sub hl [0, 3, 4, 5, 6] rfl)
      · exact absurd rfl c_7
  · exact absurd rfl c_5
set_option maxHeartbeats 4000000 in
set_option maxRecDepth 100000 in
theorem pL1_alive {p : Program} {l : Launch} {e : Env} {s : State} {m : MethodId} {below : List Frame} {meth : Method} {c : Code} {b L : Nat} {xs : Nat → Int32} {dC : Nat → ClassId} {dI : Nat → Nat → Nat} {cI cW cJ : ClassId} {t : Nat} {X Bk Br : Nat → Nat} {o : Nat} (C9 : LC p l s m c b L xs dC dI cI cW cJ t) (i : Nat) (hi9 : i < 512) (hL4 : 4 * i + 4 ≤ L) (hLm : L ≤ 2048) (ih : LOOP p l e s m below meth c b dC dI cI cW cJ X Bk Br o (i + 1)) (M : Nat → Nat) (f0 : Nat → Int64) (th : Int32) (d r : Nat → Int32) (n : Nat) (ch pd pr yr : Int32) (Wd : Nat → Nat → Int32) (n2 : Nat) (ch2 pd2 pr2 yr2 : Int32) (W2 : Nat → Nat → Int32) (hInv : Inv i d r n ch pr Wd) (H : Heap) (locs : List Loc) (hP : va_P (dC, dI) vwCl (tab cI X d r ++ (bk cW X Bk n ch pd pr yr Wd ++ (bk cW X Br n2 ch2 pd2 pr2 yr2 W2 ++ (obj X Bk Br :: (o, .inl (cJ, 1, .inr (.inl f0))) :: mw cI M th n d r Wd ch pd yr (WT d (r 0)))))) H) (hD : va_D (NEW s.heap.size) (tab cI X d r ++ (bk cW X Bk n ch pd pr yr Wd ++ (bk cW X Br n2 ch2 pd2 pr2 yr2 W2 ++ (obj X Bk Br :: (o, .inl (cJ, 1, .inr (.inl f0))) :: mw cI M th n d r Wd ch pd yr (WT d (r 0))))))) (hS : va_S (NEW s.heap.size) s.heap H locs) (ls : Array Slot) (hl : lv_has ls 9 [(4, .int (nI (4 * i))), (0, .ref b), (1, .ref (X 0)), (2, .ref (M 0)), (3, .ref o)]) (a y : Int32) (h9 : ¬ ((50 ≤ a ∧ a ≤ 99) ∧ (0 ≤ y ∧ y ≤ 60))) (e1 : xs (4 * i + 1) = a) (e2 : xs (4 * i + 2) = y) : W p l e room_1 s m #[Value.ref b] below meth c H locs (40 + 4 * i) (3000 + 100 * i) (lw_Z below #[Value.ref b] s) (F0 m 780 ls []) := by
  obtain ⟨hx, hb, hml, hown, hts, hX, hbl, hKK, hKJ, hKX0, hHG0, hl0⟩ := C9
  have hA : ∀ q, s.heap.size ≤ q → NEW s.heap.size q := fun q h => h
  have hn := hInv.2.2.1
  have hok := hInv.2.2.2.1
  have hi := hInv.hi.1
  have hi0 := hInv.hi.2
  refine lv_aload_n hx hb dL_law_780 rfl (lv_at hl 2 rfl) ?_
  refine lv_aload_n hx hb dL_law_781 rfl (lv_at hl 1 rfl) ?_
  refine lv_iload hx hb dL_law_782 (lv_at hl 0 rfl) ?_
  refine lv_iconst (v := 1) hx hb dL_law_784 (by decide) ?_
  refine lv_iadd hx hb dL_law_785 ?_
  rw [show ((nI (4 * i)) + 1 : Int32) = nI (4 * i + 1) from nI_add (4 * i) 1]
  refine va_sld hx hb hX hbl (fun h9 => absurd h9 (Nat.not_le.mpr hbl)) hS (vp_in_nI (by omega) (by omega)) dL_law_786 ?_
  rw [clamp_nI (show 4 * i + 1 < 2147483648 by omega)]
  rw [e1]
  refine lv_aload_n hx hb dL_law_787 rfl (lv_at hl 1 rfl) ?_
  refine lv_iload hx hb dL_law_788 (lv_at hl 0 rfl) ?_
  refine lv_iconst (v := 2) hx hb dL_law_790 (by decide) ?_
  refine lv_iadd hx hb dL_law_791 ?_
  rw [show ((nI (4 * i)) + 2 : Int32) = nI (4 * i + 2) from nI_add (4 * i) 2]
  refine va_sld hx hb hX hbl (fun h9 => absurd h9 (Nat.not_le.mpr hbl)) hS (vp_in_nI (by omega) (by omega)) dL_law_792 ?_
  rw [clamp_nI (show 4 * i + 2 < 2147483648 by omega)]
  rw [e2]
  refine lv_aload_n hx hb dL_law_793 rfl (lv_at hl 4 rfl) ?_
  refine wr_i (runSL (As := [.ref (X 0), .int a, .int y, .ref o]) (rest := []) ⟨hx, hb, hml, hown, hts⟩ (bad1_L_alive l dC dI cI cW hl0 cJ o f0 X Bk Br d r n ch pd pr yr Wd n2 ch2 pd2 pr2 yr2 W2 (mw cI M th n d r Wd ch pd yr (WT d (r 0))) a y h9 _) (vx_cwSW 4 hts gL_law_L_alive rfl rfl rfl (by decide +kernel) ⟨Nat.le_of_ble_eq_true rfl, Nat.le_of_ble_eq_true rfl⟩) hKK hKJ (hKX0.at hS) hP hD rfl hl.1 (Nat.le_of_ble_eq_true rfl) rfl dL_law_794 ⟨(show 40 + 4 * i + 1 ≤ 601024 by omega), (show 3000 + 100 * i + 6 ≤ 7293034 by omega)⟩) hD hS hA (fun r_1 H locs hr_1 hP hD hS => ?_)
  subst hr_1
  have hP : va_P (dC, dI) vwCl (tab cI X d r ++ (bk cW X Bk n ch pd pr yr Wd ++ (bk cW X Br n2 ch2 pd2 pr2 yr2 W2 ++ (obj X Bk Br :: (o, .inl (cJ, 1, .inr (.inl f0))) :: (mw cI M th n d r Wd ch pd yr (WT d (r 0))))))) H := hP
  have hD : va_D (NEW s.heap.size) (tab cI X d r ++ (bk cW X Bk n ch pd pr yr Wd ++ (bk cW X Br n2 ch2 pd2 pr2 yr2 W2 ++ (obj X Bk Br :: (o, .inl (cJ, 1, .inr (.inl f0))) :: (mw cI M th n d r Wd ch pd yr (WT d (r 0))))))) := hD
  have hP := va_P_perm (law_perm _ _ _ _ _ _) hP
  have hD := va_D_perm (law_perm _ _ _ _ _ _) hD
  refine lv_istore (lv' := [(5, .int 1), (4, .int (nI (4 * i))), (0, .ref b), (1, .ref (X 0)), (2, .ref (M 0)), (3, .ref o)]) hx hb dL_law_797 hl (by decide) rfl (fun ls hl => ?_)
  refine lv_aload_n hx hb dL_law_799 rfl (lv_at hl 4 rfl) ?_
  refine lv_aload_n hx hb dL_law_800 rfl (lv_at hl 2 rfl) ?_
  refine lv_iload hx hb dL_law_801 (lv_at hl 1 rfl) ?_
  refine lv_iconst (v := 1) hx hb dL_law_803 (by decide) ?_
  refine lv_iadd hx hb dL_law_804 ?_
  rw [show ((nI (4 * i)) + 1 : Int32) = nI (4 * i + 1) from nI_add (4 * i) 1]
  refine va_sld hx hb hX hbl (fun h9 => absurd h9 (Nat.not_le.mpr hbl)) hS (vp_in_nI (by omega) (by omega)) dL_law_805 ?_
  rw [clamp_nI (show 4 * i + 1 < 2147483648 by omega)]
  rw [e1]
  refine lv_aload_n hx hb dL_law_806 rfl (lv_at hl 2 rfl) ?_
  refine lv_iload hx hb dL_law_807 (lv_at hl 1 rfl) ?_
  refine lv_iconst (v := 2) hx hb dL_law_809 (by decide) ?_
  refine lv_iadd hx hb dL_law_810 ?_
  rw [show ((nI (4 * i)) + 2 : Int32) = nI (4 * i + 2) from nI_add (4 * i) 2]
  refine va_sld hx hb hX hbl (fun h9 => absurd h9 (Nat.not_le.mpr hbl)) hS (vp_in_nI (by omega) (by omega)) dL_law_811 ?_
  rw [clamp_nI (show 4 * i + 2 < 2147483648 by omega)]
  rw [e2]
  refine wr_i (runV1 (As := [.int a, .int y]) (rest := []) ⟨hx, hb, hml, hown, hts⟩ (met1_X4_alive l dC dI cI cW M th n d r Wd ch pd yr _ a y h9 _) (cwV 2 hts gL_law_X4_alive rfl rfl rfl (by decide +kernel) ⟨Nat.le_of_ble_eq_true rfl, Nat.le_of_ble_eq_true rfl⟩) hKK hP hD 4 0 rfl rfl rfl hl.1 (Nat.le_of_ble_eq_true rfl) rfl dL_law_812 ⟨(show 40 + 4 * i + 1 + 0 ≤ 601024 by omega), (show 3000 + 100 * i + 6 + 0 ≤ 7293034 by omega)⟩) hD hS hA (fun r_2 H locs hr_2 hP hD hS => ?_)
  subst hr_2
  refine lv_istore (lv' := [(6, .int 0), (5, .int 1), (4, .int (nI (4 * i))), (0, .ref b), (1, .ref (X 0)), (2, .ref (M 0)), (3, .ref o)]) hx hb dL_law_815 hl (by decide) rfl (fun ls hl => ?_)
  refine lv_aload_n hx hb dL_law_817 rfl (lv_at hl 5 rfl) ?_
  refine rd_i (runV0 (As := []) (rest := []) ⟨hx, hb, hml, hown, hts⟩ (met_X4_thrown l dC dI cI cW _ _ _ _ _ _ _ _ _ _) (cwV 0 hts gL_law_X4_thrown rfl rfl rfl (by decide +kernel) ⟨Nat.le_of_ble_eq_true rfl, Nat.le_of_ble_eq_true rfl⟩) hKK (ws_left hP) 4 0 rfl rfl rfl hl.1 (Nat.le_of_ble_eq_true rfl) rfl dL_law_818 ⟨(show 40 + 4 * i + 1 + 0 ≤ 601024 by omega), (show 3000 + 100 * i + 6 + 0 ≤ 7293034 by omega)⟩) (fun r_3 hr_3 => ?_)
  subst hr_3
  have hP := va_P_perm (law_back _ _ _ _ _ _) hP
  have hD := va_D_perm (law_back _ _ _ _ _ _) hD
  refine lv_iload hx hb dL_law_821 (lv_at hl 1 rfl) ?_
  refine lv_icmp_eq (tgt := 828) hx hb dL_law_823 (by decide) (fun c_5 => ?_) (fun c_5 => ?_)
  · refine lv_iload hx hb dL_law_828 (lv_at hl 1 rfl) ?_
    refine lv_if_ne (tgt := 845) hx hb dL_law_830 (by decide) (fun c_6 => ?_) (fun c_6 => ?_)
    · refine lv_goto (tgt := 1133) hx hb dL_law_845 (by decide) ?_
      refine lv_iinc (v := (nI (4 * (i + 1)))) (lv' := [(4, .int (nI (4 * (i + 1)))), (6, .int 0), (5, .int 1), (0, .ref b), (1, .ref (X 0)), (2, .ref (M 0)), (3, .ref o)]) hx hb dL_law_1133 hl (k := 2) rfl (nI_add (4 * i) 4) (by decide) rfl (fun ls hl => ?_)
      refine lv_goto (tgt := 23) hx hb dL_law_1136 (by decide) ?_
      refine W.widen (k := 40 + 4 * (i + 1)) (n := 3000 + 100 * (i + 1)) (by omega) (by omega) ?_
      exact ih _ _ _ _ _ _ _ _ _ _ _ _ _ _ _ _ _ (hInv.mono (Nat.le_succ i)) H locs hP hD hS ls (lv_sub hl [0, 3, 4, 5, 6] rfl)
    · exact absurd c_6 (by decide)
  · exact absurd rfl c_5
set_option maxHeartbeats 4000000 in
set_option maxRecDepth 100000 in
theorem pL0_pass {p : Program} {l : Launch} {e : Env} {s : State} {m : MethodId} {below : List Frame} {meth : Method} {c : Code} {b L : Nat} {xs : Nat → Int32} {dC : Nat → ClassId} {dI : Nat → Nat → Nat} {cI cW cJ : ClassId} {t : Nat} {X Bk Br : Nat → Nat} {o : Nat} (C9 : LC p l s m c b L xs dC dI cI cW cJ t) (i : Nat) (hi9 : i < 512) (hL4 : 4 * i + 4 ≤ L) (hLm : L ≤ 2048) (ih : LOOP p l e s m below meth c b dC dI cI cW cJ X Bk Br o (i + 1)) (M : Nat → Nat) (f0 : Nat → Int64) (th : Int32) (d r : Nat → Int32) (n : Nat) (ch pd pr yr : Int32) (Wd : Nat → Nat → Int32) (n2 : Nat) (ch2 pd2 pr2 yr2 : Int32) (W2 : Nat → Nat → Int32) (hInv : Inv i d r n ch pr Wd) (H : Heap) (locs : List Loc) (hP : va_P (dC, dI) vwCl (tab cI X d r ++ (bk cW X Bk n ch pd pr yr Wd ++ (bk cW X Br n2 ch2 pd2 pr2 yr2 W2 ++ (obj X Bk Br :: (o, .inl (cJ, 1, .inr (.inl f0))) :: mw cI M th n d r Wd ch pd yr (WT d (r 0)))))) H) (hD : va_D (NEW s.heap.size) (tab cI X d r ++ (bk cW X Bk n ch pd pr yr Wd ++ (bk cW X Br n2 ch2 pd2 pr2 yr2 W2 ++ (obj X Bk Br :: (o, .inl (cJ, 1, .inr (.inl f0))) :: mw cI M th n d r Wd ch pd yr (WT d (r 0))))))) (hS : va_S (NEW s.heap.size) s.heap H locs) (ls : Array Slot) (hl : lv_has ls 9 [(4, .int (nI (4 * i))), (0, .ref b), (1, .ref (X 0)), (2, .ref (M 0)), (3, .ref o)]) (y : Nat) (h1 : 1 ≤ y) (h2 : y ≤ 50) (e1 : xs (4 * i + 1) = nI y) : W p l e room_1 s m #[Value.ref b] below meth c H locs (40 + 4 * i) (3000 + 100 * i) (lw_Z below #[Value.ref b] s) (F0 m 848 ls []) := by
  obtain ⟨hx, hb, hml, hown, hts, hX, hbl, hKK, hKJ, hKX0, hHG0, hl0⟩ := C9
  have hA : ∀ q, s.heap.size ≤ q → NEW s.heap.size q := fun q h => h
  have hn := hInv.2.2.1
  have hok := hInv.2.2.2.1
  have hi := hInv.hi.1
  have hi0 := hInv.hi.2
  have hY := hInv.years (pd := pd) (yr := yr) (Nat.le_of_lt hi9)
  have hI := fun (j : Nat) (hj : j < y) => hY.1 j (by omega)
  refine lv_aload_n hx hb dL_law_848 rfl (lv_at hl 2 rfl) ?_
  refine lv_aload_n hx hb dL_law_849 rfl (lv_at hl 1 rfl) ?_
  refine lv_iload hx hb dL_law_850 (lv_at hl 0 rfl) ?_
  refine lv_iconst (v := 1) hx hb dL_law_852 (by decide) ?_
  refine lv_iadd hx hb dL_law_853 ?_
  rw [show ((nI (4 * i)) + 1 : Int32) = nI (4 * i + 1) from nI_add (4 * i) 1]
  refine va_sld hx hb hX hbl (fun h9 => absurd h9 (Nat.not_le.mpr hbl)) hS (vp_in_nI (by omega) (by omega)) dL_law_854 ?_
  rw [clamp_nI (show 4 * i + 1 < 2147483648 by omega)]
  rw [e1]
  refine lv_aload_n hx hb dL_law_855 rfl (lv_at hl 4 rfl) ?_
  refine wr_i (runSL (As := [.ref (X 0), .int (nI y), .ref o]) (rest := []) ⟨hx, hb, hml, hown, hts⟩ (met_L_pass l dC dI cI cW cJ o f0 X Bk Br d r n ch pd pr yr Wd n2 ch2 pd2 pr2 yr2 W2 (mw cI M th n d r Wd ch pd yr (WT d (r 0))) hn hok y h1 h2 hi hi0 _) (vx_cwSW 3 hts gL_law_L_pass rfl rfl rfl (by decide +kernel) ⟨Nat.le_of_ble_eq_true rfl, Nat.le_of_ble_eq_true rfl⟩) hKK hKJ (hKX0.at hS) hP hD rfl hl.1 (Nat.le_of_ble_eq_true rfl) rfl dL_law_856 ⟨(show 40 + 4 * i + 0 ≤ 601024 by omega), (show 3000 + 100 * i + 0 ≤ 7293034 by omega)⟩) hD hS hA (fun r_1 H locs hr_1 hP hD hS => ?_)
  subst hr_1
  have hP : va_P (dC, dI) vwCl (tab cI X d r ++ (bk cW X Bk n ((yIter (r 0) n y (ch, pd, yr, Wd)).1) ((yIter (r 0) n y (ch, pd, yr, Wd)).2.1) pr ((yIter (r 0) n y (ch, pd, yr, Wd)).2.2.1) ((yIter (r 0) n y (ch, pd, yr, Wd)).2.2.2) ++ (bk cW X Br n2 ch2 pd2 pr2 yr2 W2 ++ (obj X Bk Br :: (o, .inl (cJ, 1, .inr (.inl (vp_updL f0 0 ((yIter (r 0) n y (ch, pd, yr, Wd)).2.1 - pd).toInt64)))) :: (mw cI M th n d r Wd ch pd yr (WT d (r 0))))))) H := hP
  have hD : va_D (NEW s.heap.size) (tab cI X d r ++ (bk cW X Bk n ((yIter (r 0) n y (ch, pd, yr, Wd)).1) ((yIter (r 0) n y (ch, pd, yr, Wd)).2.1) pr ((yIter (r 0) n y (ch, pd, yr, Wd)).2.2.1) ((yIter (r 0) n y (ch, pd, yr, Wd)).2.2.2) ++ (bk cW X Br n2 ch2 pd2 pr2 yr2 W2 ++ (obj X Bk Br :: (o, .inl (cJ, 1, .inr (.inl (vp_updL f0 0 ((yIter (r 0) n y (ch, pd, yr, Wd)).2.1 - pd).toInt64)))) :: (mw cI M th n d r Wd ch pd yr (WT d (r 0))))))) := hD
  have hP := va_P_perm (law_perm _ _ _ _ _ _) hP
  have hD := va_D_perm (law_perm _ _ _ _ _ _) hD
  refine lv_istore (lv' := [(5, .int 0), (4, .int (nI (4 * i))), (0, .ref b), (1, .ref (X 0)), (2, .ref (M 0)), (3, .ref o)]) hx hb dL_law_859 hl (by decide) rfl (fun ls hl => ?_)
  refine lv_aload_n hx hb dL_law_861 rfl (lv_at hl 4 rfl) ?_
  refine lv_aload_n hx hb dL_law_862 rfl (lv_at hl 2 rfl) ?_
  refine lv_iload hx hb dL_law_863 (lv_at hl 1 rfl) ?_
  refine lv_iconst (v := 1) hx hb dL_law_865 (by decide) ?_
  refine lv_iadd hx hb dL_law_866 ?_
  rw [show ((nI (4 * i)) + 1 : Int32) = nI (4 * i + 1) from nI_add (4 * i) 1]
  refine va_sld hx hb hX hbl (fun h9 => absurd h9 (Nat.not_le.mpr hbl)) hS (vp_in_nI (by omega) (by omega)) dL_law_867 ?_
  rw [clamp_nI (show 4 * i + 1 < 2147483648 by omega)]
  rw [e1]
  refine wr_i (runV1 (As := [.int (nI y)]) (rest := []) ⟨hx, hb, hml, hown, hts⟩ (met_X4_pass l dC dI cI cW M th n d r Wd ch pd yr _ hn hok y h1 h2 hI _) (cwV 1 hts gL_law_X4_pass rfl rfl rfl (by decide +kernel) ⟨Nat.le_of_ble_eq_true rfl, Nat.le_of_ble_eq_true rfl⟩) hKK hP hD 4 0 rfl rfl rfl hl.1 (Nat.le_of_ble_eq_true rfl) rfl dL_law_868 ⟨(show 40 + 4 * i + 0 + 0 ≤ 601024 by omega), (show 3000 + 100 * i + 0 + 0 ≤ 7293034 by omega)⟩) hD hS hA (fun r_2 H locs hr_2 hP hD hS => ?_)
  subst hr_2
  refine lv_istore (lv' := [(6, .int ((yIter (r 0) n y (ch, pd, yr, Wd)).2.1 - pd)), (5, .int 0), (4, .int (nI (4 * i))), (0, .ref b), (1, .ref (X 0)), (2, .ref (M 0)), (3, .ref o)]) hx hb dL_law_871 hl (by decide) rfl (fun ls hl => ?_)
  refine lv_aload_n hx hb dL_law_873 rfl (lv_at hl 5 rfl) ?_
  refine rd_i (runV0 (As := []) (rest := []) ⟨hx, hb, hml, hown, hts⟩ (met_X4_thrown l dC dI cI cW _ _ _ _ _ _ _ _ _ _) (cwV 0 hts gL_law_X4_thrown rfl rfl rfl (by decide +kernel) ⟨Nat.le_of_ble_eq_true rfl, Nat.le_of_ble_eq_true rfl⟩) hKK (ws_left hP) 4 0 rfl rfl rfl hl.1 (Nat.le_of_ble_eq_true rfl) rfl dL_law_874 ⟨(show 40 + 4 * i + 0 + 0 ≤ 601024 by omega), (show 3000 + 100 * i + 0 + 0 ≤ 7293034 by omega)⟩) (fun r_3 hr_3 => ?_)
  subst hr_3
  have hP := va_P_perm (law_back _ _ _ _ _ _) hP
  have hD := va_D_perm (law_back _ _ _ _ _ _) hD
  refine lv_iload hx hb dL_law_877 (lv_at hl 1 rfl) ?_
  refine lv_icmp_eq (tgt := 884) hx hb dL_law_879 (by decide) (fun c_3 => ?_) (fun c_3 => ?_)
  · refine lv_iload hx hb dL_law_884 (lv_at hl 1 rfl) ?_
    refine lv_if_ne (tgt := 901) hx hb dL_law_886 (by decide) (fun c_4 => ?_) (fun c_4 => ?_)
    · exact absurd rfl c_4
    · refine lv_aload_n hx hb dL_law_889 rfl (lv_at hl 6 rfl) ?_
      refine lv_iconst (v := 0) hx hb dL_law_890 (by decide) ?_
      refine va_lald hx hb hKJ hP (27 + 1) 0 (cw_at rfl) rfl (vp_in_nI (n := 0) (by omega) (by omega)) dL_law_891 ?_
      rw [show (vp_updL f0 0 ((yIter (r 0) n y (ch, pd, yr, Wd)).2.1 - pd).toInt64) (0 : Int32).toNatClampNeg = ((yIter (r 0) n y (ch, pd, yr, Wd)).2.1 - pd).toInt64 from rfl]
      refine lv_iload hx hb dL_law_892 (lv_at hl 0 rfl) ?_
      refine lv_i2l hx hb dL_law_894 rfl ?_
      refine lv_lcmpS hx hb dL_law_895 ?_
      refine lv_if_eq (tgt := 901) hx hb dL_law_896 (by decide) (fun c_5 => ?_) (fun c_5 => ?_)
      · refine lv_goto (tgt := 1133) hx hb dL_law_901 (by decide) ?_
        refine lv_iinc (v := (nI (4 * (i + 1)))) (lv' := [(4, .int (nI (4 * (i + 1)))), (6, .int ((yIter (r 0) n y (ch, pd, yr, Wd)).2.1 - pd)), (5, .int 0), (0, .ref b), (1, .ref (X 0)), (2, .ref (M 0)), (3, .ref o)]) hx hb dL_law_1133 hl (k := 2) rfl (nI_add (4 * i) 4) (by decide) rfl (fun ls hl => ?_)
        refine lv_goto (tgt := 23) hx hb dL_law_1136 (by decide) ?_
        refine W.widen (k := 40 + 4 * (i + 1)) (n := 3000 + 100 * (i + 1)) (by omega) (by omega) ?_
        exact ih _ _ _ _ _ _ _ _ _ _ _ _ _ _ _ _ _ (hY.2.2 y h2) H locs hP hD hS ls (lv_sub hl [0, 3, 4, 5, 6] rfl)
      · exact absurd rfl c_5
  · exact absurd rfl c_3
set_option maxHeartbeats 4000000 in
set_option maxRecDepth 100000 in
theorem pL1_pass {p : Program} {l : Launch} {e : Env} {s : State} {m : MethodId} {below : List Frame} {meth : Method} {c : Code} {b L : Nat} {xs : Nat → Int32} {dC : Nat → ClassId} {dI : Nat → Nat → Nat} {cI cW cJ : ClassId} {t : Nat} {X Bk Br : Nat → Nat} {o : Nat} (C9 : LC p l s m c b L xs dC dI cI cW cJ t) (i : Nat) (hi9 : i < 512) (hL4 : 4 * i + 4 ≤ L) (hLm : L ≤ 2048) (ih : LOOP p l e s m below meth c b dC dI cI cW cJ X Bk Br o (i + 1)) (M : Nat → Nat) (f0 : Nat → Int64) (th : Int32) (d r : Nat → Int32) (n : Nat) (ch pd pr yr : Int32) (Wd : Nat → Nat → Int32) (n2 : Nat) (ch2 pd2 pr2 yr2 : Int32) (W2 : Nat → Nat → Int32) (hInv : Inv i d r n ch pr Wd) (H : Heap) (locs : List Loc) (hP : va_P (dC, dI) vwCl (tab cI X d r ++ (bk cW X Bk n ch pd pr yr Wd ++ (bk cW X Br n2 ch2 pd2 pr2 yr2 W2 ++ (obj X Bk Br :: (o, .inl (cJ, 1, .inr (.inl f0))) :: mw cI M th n d r Wd ch pd yr (WT d (r 0)))))) H) (hD : va_D (NEW s.heap.size) (tab cI X d r ++ (bk cW X Bk n ch pd pr yr Wd ++ (bk cW X Br n2 ch2 pd2 pr2 yr2 W2 ++ (obj X Bk Br :: (o, .inl (cJ, 1, .inr (.inl f0))) :: mw cI M th n d r Wd ch pd yr (WT d (r 0))))))) (hS : va_S (NEW s.heap.size) s.heap H locs) (ls : Array Slot) (hl : lv_has ls 9 [(4, .int (nI (4 * i))), (0, .ref b), (1, .ref (X 0)), (2, .ref (M 0)), (3, .ref o)]) (a : Int32) (h9 : ¬ (1 ≤ a ∧ a ≤ 50)) (e1 : xs (4 * i + 1) = a) : W p l e room_1 s m #[Value.ref b] below meth c H locs (40 + 4 * i) (3000 + 100 * i) (lw_Z below #[Value.ref b] s) (F0 m 848 ls []) := by
  obtain ⟨hx, hb, hml, hown, hts, hX, hbl, hKK, hKJ, hKX0, hHG0, hl0⟩ := C9
  have hA : ∀ q, s.heap.size ≤ q → NEW s.heap.size q := fun q h => h
  have hn := hInv.2.2.1
  have hok := hInv.2.2.2.1
  have hi := hInv.hi.1
  have hi0 := hInv.hi.2
  refine lv_aload_n hx hb dL_law_848 rfl (lv_at hl 2 rfl) ?_
  refine lv_aload_n hx hb dL_law_849 rfl (lv_at hl 1 rfl) ?_
  refine lv_iload hx hb dL_law_850 (lv_at hl 0 rfl) ?_
  refine lv_iconst (v := 1) hx hb dL_law_852 (by decide) ?_
  refine lv_iadd hx hb dL_law_853 ?_
  rw [show ((nI (4 * i)) + 1 : Int32) = nI (4 * i + 1) from nI_add (4 * i) 1]
  refine va_sld hx hb hX hbl (fun h9 => absurd h9 (Nat.not_le.mpr hbl)) hS (vp_in_nI (by omega) (by omega)) dL_law_854 ?_
  rw [clamp_nI (show 4 * i + 1 < 2147483648 by omega)]
  rw [e1]
  refine lv_aload_n hx hb dL_law_855 rfl (lv_at hl 4 rfl) ?_
  refine wr_i (runSL (As := [.ref (X 0), .int a, .ref o]) (rest := []) ⟨hx, hb, hml, hown, hts⟩ (bad1_L_pass l dC dI cI cW hl0 cJ o f0 X Bk Br d r n ch pd pr yr Wd n2 ch2 pd2 pr2 yr2 W2 (mw cI M th n d r Wd ch pd yr (WT d (r 0))) a h9 _) (vx_cwSW 3 hts gL_law_L_pass rfl rfl rfl (by decide +kernel) ⟨Nat.le_of_ble_eq_true rfl, Nat.le_of_ble_eq_true rfl⟩) hKK hKJ (hKX0.at hS) hP hD rfl hl.1 (Nat.le_of_ble_eq_true rfl) rfl dL_law_856 ⟨(show 40 + 4 * i + 1 ≤ 601024 by omega), (show 3000 + 100 * i + 6 ≤ 7293034 by omega)⟩) hD hS hA (fun r_1 H locs hr_1 hP hD hS => ?_)
  subst hr_1
  have hP : va_P (dC, dI) vwCl (tab cI X d r ++ (bk cW X Bk n ch pd pr yr Wd ++ (bk cW X Br n2 ch2 pd2 pr2 yr2 W2 ++ (obj X Bk Br :: (o, .inl (cJ, 1, .inr (.inl f0))) :: (mw cI M th n d r Wd ch pd yr (WT d (r 0))))))) H := hP
  have hD : va_D (NEW s.heap.size) (tab cI X d r ++ (bk cW X Bk n ch pd pr yr Wd ++ (bk cW X Br n2 ch2 pd2 pr2 yr2 W2 ++ (obj X Bk Br :: (o, .inl (cJ, 1, .inr (.inl f0))) :: (mw cI M th n d r Wd ch pd yr (WT d (r 0))))))) := hD
  have hP := va_P_perm (law_perm _ _ _ _ _ _) hP
  have hD := va_D_perm (law_perm _ _ _ _ _ _) hD
  refine lv_istore (lv' := [(5, .int 1), (4, .int (nI (4 * i))), (0, .ref b), (1, .ref (X 0)), (2, .ref (M 0)), (3, .ref o)]) hx hb dL_law_859 hl (by decide) rfl (fun ls hl => ?_)
  refine lv_aload_n hx hb dL_law_861 rfl (lv_at hl 4 rfl) ?_
  refine lv_aload_n hx hb dL_law_862 rfl (lv_at hl 2 rfl) ?_
  refine lv_iload hx hb dL_law_863 (lv_at hl 1 rfl) ?_
  refine lv_iconst (v := 1) hx hb dL_law_865 (by decide) ?_
  refine lv_iadd hx hb dL_law_866 ?_
  rw [show ((nI (4 * i)) + 1 : Int32) = nI (4 * i + 1) from nI_add (4 * i) 1]
  refine va_sld hx hb hX hbl (fun h9 => absurd h9 (Nat.not_le.mpr hbl)) hS (vp_in_nI (by omega) (by omega)) dL_law_867 ?_
  rw [clamp_nI (show 4 * i + 1 < 2147483648 by omega)]
  rw [e1]
  refine wr_i (runV1 (As := [.int a]) (rest := []) ⟨hx, hb, hml, hown, hts⟩ (met1_X4_pass l dC dI cI cW M th n d r Wd ch pd yr _ a h9 _) (cwV 1 hts gL_law_X4_pass rfl rfl rfl (by decide +kernel) ⟨Nat.le_of_ble_eq_true rfl, Nat.le_of_ble_eq_true rfl⟩) hKK hP hD 4 0 rfl rfl rfl hl.1 (Nat.le_of_ble_eq_true rfl) rfl dL_law_868 ⟨(show 40 + 4 * i + 1 + 0 ≤ 601024 by omega), (show 3000 + 100 * i + 6 + 0 ≤ 7293034 by omega)⟩) hD hS hA (fun r_2 H locs hr_2 hP hD hS => ?_)
  subst hr_2
  refine lv_istore (lv' := [(6, .int 0), (5, .int 1), (4, .int (nI (4 * i))), (0, .ref b), (1, .ref (X 0)), (2, .ref (M 0)), (3, .ref o)]) hx hb dL_law_871 hl (by decide) rfl (fun ls hl => ?_)
  refine lv_aload_n hx hb dL_law_873 rfl (lv_at hl 5 rfl) ?_
  refine rd_i (runV0 (As := []) (rest := []) ⟨hx, hb, hml, hown, hts⟩ (met_X4_thrown l dC dI cI cW _ _ _ _ _ _ _ _ _ _) (cwV 0 hts gL_law_X4_thrown rfl rfl rfl (by decide +kernel) ⟨Nat.le_of_ble_eq_true rfl, Nat.le_of_ble_eq_true rfl⟩) hKK (ws_left hP) 4 0 rfl rfl rfl hl.1 (Nat.le_of_ble_eq_true rfl) rfl dL_law_874 ⟨(show 40 + 4 * i + 1 + 0 ≤ 601024 by omega), (show 3000 + 100 * i + 6 + 0 ≤ 7293034 by omega)⟩) (fun r_3 hr_3 => ?_)
  subst hr_3
  have hP := va_P_perm (law_back _ _ _ _ _ _) hP
  have hD := va_D_perm (law_back _ _ _ _ _ _) hD
  refine lv_iload hx hb dL_law_877 (lv_at hl 1 rfl) ?_
  refine lv_icmp_eq (tgt := 884) hx hb dL_law_879 (by decide) (fun c_3 => ?_) (fun c_3 => ?_)
  · refine lv_iload hx hb dL_law_884 (lv_at hl 1 rfl) ?_
    refine lv_if_ne (tgt := 901) hx hb dL_law_886 (by decide) (fun c_4 => ?_) (fun c_4 => ?_)
    · refine lv_goto (tgt := 1133) hx hb dL_law_901 (by decide) ?_
      refine lv_iinc (v := (nI (4 * (i + 1)))) (lv' := [(4, .int (nI (4 * (i + 1)))), (6, .int 0), (5, .int 1), (0, .ref b), (1, .ref (X 0)), (2, .ref (M 0)), (3, .ref o)]) hx hb dL_law_1133 hl (k := 2) rfl (nI_add (4 * i) 4) (by decide) rfl (fun ls hl => ?_)
      refine lv_goto (tgt := 23) hx hb dL_law_1136 (by decide) ?_
      refine W.widen (k := 40 + 4 * (i + 1)) (n := 3000 + 100 * (i + 1)) (by omega) (by omega) ?_
      exact ih _ _ _ _ _ _ _ _ _ _ _ _ _ _ _ _ _ (hInv.mono (Nat.le_succ i)) H locs hP hD hS ls (lv_sub hl [0, 3, 4, 5, 6] rfl)
    · exact absurd c_4 (by decide)
  · exact absurd rfl c_3
set_option maxHeartbeats 4000000 in
set_option maxRecDepth 100000 in
theorem pL0_foresee {p : Program} {l : Launch} {e : Env} {s : State} {m : MethodId} {below : List Frame} {meth : Method} {c : Code} {b L : Nat} {xs : Nat → Int32} {dC : Nat → ClassId} {dI : Nat → Nat → Nat} {cI cW cJ : ClassId} {t : Nat} {X Bk Br : Nat → Nat} {o : Nat} (C9 : LC p l s m c b L xs dC dI cI cW cJ t) (i : Nat) (hi9 : i < 512) (hL4 : 4 * i + 4 ≤ L) (hLm : L ≤ 2048) (ih : LOOP p l e s m below meth c b dC dI cI cW cJ X Bk Br o (i + 1)) (M : Nat → Nat) (f0 : Nat → Int64) (th : Int32) (d r : Nat → Int32) (n : Nat) (ch pd pr yr : Int32) (Wd : Nat → Nat → Int32) (n2 : Nat) (ch2 pd2 pr2 yr2 : Int32) (W2 : Nat → Nat → Int32) (hInv : Inv i d r n ch pr Wd) (H : Heap) (locs : List Loc) (hP : va_P (dC, dI) vwCl (tab cI X d r ++ (bk cW X Bk n ch pd pr yr Wd ++ (bk cW X Br n2 ch2 pd2 pr2 yr2 W2 ++ (obj X Bk Br :: (o, .inl (cJ, 1, .inr (.inl f0))) :: mw cI M th n d r Wd ch pd yr (WT d (r 0)))))) H) (hD : va_D (NEW s.heap.size) (tab cI X d r ++ (bk cW X Bk n ch pd pr yr Wd ++ (bk cW X Br n2 ch2 pd2 pr2 yr2 W2 ++ (obj X Bk Br :: (o, .inl (cJ, 1, .inr (.inl f0))) :: mw cI M th n d r Wd ch pd yr (WT d (r 0))))))) (hS : va_S (NEW s.heap.size) s.heap H locs) (ls : Array Slot) (hl : lv_has ls 9 [(4, .int (nI (4 * i))), (0, .ref b), (1, .ref (X 0)), (2, .ref (M 0)), (3, .ref o)]) (y k : Nat) (h1 : 1 ≤ y) (h2 : y ≤ 50) (h3 : 2 ≤ k) (h4 : k ≤ 7) (e1 : xs (4 * i + 1) = nI y) (e2 : xs (4 * i + 2) = nI k) : W p l e room_1 s m #[Value.ref b] below meth c H locs (40 + 4 * i) (3000 + 100 * i) (lw_Z below #[Value.ref b] s) (F0 m 904 ls []) := by
  obtain ⟨hx, hb, hml, hown, hts, hX, hbl, hKK, hKJ, hKX0, hHG0, hl0⟩ := C9
  have hA : ∀ q, s.heap.size ≤ q → NEW s.heap.size q := fun q h => h
  have hn := hInv.2.2.1
  have hok := hInv.2.2.2.1
  have hi := hInv.hi.1
  have hi0 := hInv.hi.2
  have hY := hInv.years (pd := pd) (yr := yr) (Nat.le_of_lt hi9)
  have hI := fun (j : Nat) (hj : j < y) => hY.1 j (by omega)
  refine lv_aload_n hx hb dL_law_904 rfl (lv_at hl 2 rfl) ?_
  refine lv_aload_n hx hb dL_law_905 rfl (lv_at hl 1 rfl) ?_
  refine lv_iload hx hb dL_law_906 (lv_at hl 0 rfl) ?_
  refine lv_iconst (v := 1) hx hb dL_law_908 (by decide) ?_
  refine lv_iadd hx hb dL_law_909 ?_
  rw [show ((nI (4 * i)) + 1 : Int32) = nI (4 * i + 1) from nI_add (4 * i) 1]
  refine va_sld hx hb hX hbl (fun h9 => absurd h9 (Nat.not_le.mpr hbl)) hS (vp_in_nI (by omega) (by omega)) dL_law_910 ?_
  rw [clamp_nI (show 4 * i + 1 < 2147483648 by omega)]
  rw [e1]
  refine lv_aload_n hx hb dL_law_911 rfl (lv_at hl 1 rfl) ?_
  refine lv_iload hx hb dL_law_912 (lv_at hl 0 rfl) ?_
  refine lv_iconst (v := 2) hx hb dL_law_914 (by decide) ?_
  refine lv_iadd hx hb dL_law_915 ?_
  rw [show ((nI (4 * i)) + 2 : Int32) = nI (4 * i + 2) from nI_add (4 * i) 2]
  refine va_sld hx hb hX hbl (fun h9 => absurd h9 (Nat.not_le.mpr hbl)) hS (vp_in_nI (by omega) (by omega)) dL_law_916 ?_
  rw [clamp_nI (show 4 * i + 2 < 2147483648 by omega)]
  rw [e2]
  refine lv_aload_n hx hb dL_law_917 rfl (lv_at hl 4 rfl) ?_
  refine wr_i (runSL (As := [.ref (X 0), .int (nI y), .int (nI k), .ref o]) (rest := []) ⟨hx, hb, hml, hown, hts⟩ (met_L_foresee l dC dI cI cW cJ o f0 X Bk Br d r n ch pd pr yr Wd n2 ch2 pd2 pr2 yr2 W2 (mw cI M th n d r Wd ch pd yr (WT d (r 0))) hn hok y k h1 h2 h3 h4 hi hi0 _) (vx_cwSW 4 hts gL_law_L_foresee rfl rfl rfl (by decide +kernel) ⟨Nat.le_of_ble_eq_true rfl, Nat.le_of_ble_eq_true rfl⟩) hKK hKJ (hKX0.at hS) hP hD rfl hl.1 (Nat.le_of_ble_eq_true rfl) rfl dL_law_918 ⟨(show 40 + 4 * i + 0 ≤ 601024 by omega), (show 3000 + 100 * i + 0 ≤ 7293034 by omega)⟩) hD hS hA (fun r_1 H locs hr_1 hP hD hS => ?_)
  subst hr_1
  have hP : va_P (dC, dI) vwCl (tab cI X d r ++ (bk cW X Bk n ch pd pr yr Wd ++ (bk cW X Br n ((yIter (r 0) n y (ch, pd, yr, Wd)).1) ((yIter (r 0) n y (ch, pd, yr, Wd)).2.1) pr ((yIter (r 0) n y (ch, pd, yr, Wd)).2.2.1) ((yIter (r 0) n y (ch, pd, yr, Wd)).2.2.2) ++ (obj X Bk Br :: (o, .inl (cJ, 1, .inr (.inl (vp_updL f0 0 (countS d r n (yIter (r 0) n y (ch, pd, yr, Wd)).1 (yIter (r 0) n y (ch, pd, yr, Wd)).2.1 pr (yIter (r 0) n y (ch, pd, yr, Wd)).2.2.1 (yIter (r 0) n y (ch, pd, yr, Wd)).2.2.2 k).toInt64)))) :: (mw cI M th n d r Wd ch pd yr (WT d (r 0))))))) H := hP
  have hD : va_D (NEW s.heap.size) (tab cI X d r ++ (bk cW X Bk n ch pd pr yr Wd ++ (bk cW X Br n ((yIter (r 0) n y (ch, pd, yr, Wd)).1) ((yIter (r 0) n y (ch, pd, yr, Wd)).2.1) pr ((yIter (r 0) n y (ch, pd, yr, Wd)).2.2.1) ((yIter (r 0) n y (ch, pd, yr, Wd)).2.2.2) ++ (obj X Bk Br :: (o, .inl (cJ, 1, .inr (.inl (vp_updL f0 0 (countS d r n (yIter (r 0) n y (ch, pd, yr, Wd)).1 (yIter (r 0) n y (ch, pd, yr, Wd)).2.1 pr (yIter (r 0) n y (ch, pd, yr, Wd)).2.2.1 (yIter (r 0) n y (ch, pd, yr, Wd)).2.2.2 k).toInt64)))) :: (mw cI M th n d r Wd ch pd yr (WT d (r 0))))))) := hD
  have hP := va_P_perm (law_perm _ _ _ _ _ _) hP
  have hD := va_D_perm (law_perm _ _ _ _ _ _) hD
  refine lv_istore (lv' := [(5, .int 0), (4, .int (nI (4 * i))), (0, .ref b), (1, .ref (X 0)), (2, .ref (M 0)), (3, .ref o)]) hx hb dL_law_921 hl (by decide) rfl (fun ls hl => ?_)
  refine lv_aload_n hx hb dL_law_923 rfl (lv_at hl 4 rfl) ?_
  refine lv_aload_n hx hb dL_law_924 rfl (lv_at hl 2 rfl) ?_
  refine lv_iload hx hb dL_law_925 (lv_at hl 1 rfl) ?_
  refine lv_iconst (v := 1) hx hb dL_law_927 (by decide) ?_
  refine lv_iadd hx hb dL_law_928 ?_
  rw [show ((nI (4 * i)) + 1 : Int32) = nI (4 * i + 1) from nI_add (4 * i) 1]
  refine va_sld hx hb hX hbl (fun h9 => absurd h9 (Nat.not_le.mpr hbl)) hS (vp_in_nI (by omega) (by omega)) dL_law_929 ?_
  rw [clamp_nI (show 4 * i + 1 < 2147483648 by omega)]
  rw [e1]
  refine lv_aload_n hx hb dL_law_930 rfl (lv_at hl 2 rfl) ?_
  refine lv_iload hx hb dL_law_931 (lv_at hl 1 rfl) ?_
  refine lv_iconst (v := 2) hx hb dL_law_933 (by decide) ?_
  refine lv_iadd hx hb dL_law_934 ?_
  rw [show ((nI (4 * i)) + 2 : Int32) = nI (4 * i + 2) from nI_add (4 * i) 2]
  refine va_sld hx hb hX hbl (fun h9 => absurd h9 (Nat.not_le.mpr hbl)) hS (vp_in_nI (by omega) (by omega)) dL_law_935 ?_
  rw [clamp_nI (show 4 * i + 2 < 2147483648 by omega)]
  rw [e2]
  refine wr_iU (runV1 (As := [.int (nI y), .int (nI k)]) (rest := []) ⟨hx, hb, hml, hown, hts⟩ (met_X4_foresee l dC dI cI cW M th n d r Wd ch pd yr _ hn hok y k h1 h2 h3 h4 hI _) (cwV 2 hts gL_law_X4_foresee rfl rfl rfl (by decide +kernel) ⟨Nat.le_of_ble_eq_true rfl, Nat.le_of_ble_eq_true rfl⟩) hKK hP hD 4 0 rfl rfl rfl hl.1 (Nat.le_of_ble_eq_true rfl) rfl dL_law_936 ⟨(show 40 + 4 * i + 0 + 2 ≤ 601024 by omega), (show 3000 + 100 * i + 0 + 73 ≤ 7293034 by omega)⟩) hD hS hA (fun u r_2 H locs hr_2 hP hD hS => ?_)
  subst hr_2
  try dsimp only at hP hD
  rw [show (countS d r n (yIter (r 0) n y (ch, pd, yr, Wd)).1 (yIter (r 0) n y (ch, pd, yr, Wd)).2.1 (sm (prcF (yIter (r 0) n y (ch, pd, yr, Wd)).2.2.2) n) (yIter (r 0) n y (ch, pd, yr, Wd)).2.2.1 (yIter (r 0) n y (ch, pd, yr, Wd)).2.2.2 k : Int32) = countS d r n (yIter (r 0) n y (ch, pd, yr, Wd)).1 (yIter (r 0) n y (ch, pd, yr, Wd)).2.1 pr (yIter (r 0) n y (ch, pd, yr, Wd)).2.2.1 (yIter (r 0) n y (ch, pd, yr, Wd)).2.2.2 k from by rw [hY.2.1 y]]
  refine lv_istore (lv' := [(6, .int (countS d r n (yIter (r 0) n y (ch, pd, yr, Wd)).1 (yIter (r 0) n y (ch, pd, yr, Wd)).2.1 pr (yIter (r 0) n y (ch, pd, yr, Wd)).2.2.1 (yIter (r 0) n y (ch, pd, yr, Wd)).2.2.2 k)), (5, .int 0), (4, .int (nI (4 * i))), (0, .ref b), (1, .ref (X 0)), (2, .ref (M 0)), (3, .ref o)]) hx hb dL_law_939 hl (by decide) rfl (fun ls hl => ?_)
  refine lv_aload_n hx hb dL_law_941 rfl (lv_at hl 5 rfl) ?_
  refine rd_i (runV0 (As := []) (rest := []) ⟨hx, hb, hml, hown, hts⟩ (met_X4_thrown l dC dI cI cW _ _ _ _ _ _ _ _ _ _) (cwV 0 hts gL_law_X4_thrown rfl rfl rfl (by decide +kernel) ⟨Nat.le_of_ble_eq_true rfl, Nat.le_of_ble_eq_true rfl⟩) hKK (ws_left hP) 4 0 rfl rfl rfl hl.1 (Nat.le_of_ble_eq_true rfl) rfl dL_law_942 ⟨(show 40 + 4 * i + 0 + 2 ≤ 601024 by omega), (show 3000 + 100 * i + 0 + 73 ≤ 7293034 by omega)⟩) (fun r_3 hr_3 => ?_)
  subst hr_3
  have hP := va_P_perm (law_back _ _ _ _ _ _) hP
  have hD := va_D_perm (law_back _ _ _ _ _ _) hD
  refine lv_iload hx hb dL_law_945 (lv_at hl 1 rfl) ?_
  refine lv_icmp_eq (tgt := 952) hx hb dL_law_947 (by decide) (fun c_6 => ?_) (fun c_6 => ?_)
  · refine lv_iload hx hb dL_law_952 (lv_at hl 1 rfl) ?_
    refine lv_if_ne (tgt := 969) hx hb dL_law_954 (by decide) (fun c_7 => ?_) (fun c_7 => ?_)
    · exact absurd rfl c_7
    · refine lv_aload_n hx hb dL_law_957 rfl (lv_at hl 6 rfl) ?_
      refine lv_iconst (v := 0) hx hb dL_law_958 (by decide) ?_
      refine va_lald hx hb hKJ hP (27 + 1) 0 (cw_at rfl) rfl (vp_in_nI (n := 0) (by omega) (by omega)) dL_law_959 ?_
      rw [show (vp_updL f0 0 (countS d r n (yIter (r 0) n y (ch, pd, yr, Wd)).1 (yIter (r 0) n y (ch, pd, yr, Wd)).2.1 pr (yIter (r 0) n y (ch, pd, yr, Wd)).2.2.1 (yIter (r 0) n y (ch, pd, yr, Wd)).2.2.2 k).toInt64) (0 : Int32).toNatClampNeg = (countS d r n (yIter (r 0) n y (ch, pd, yr, Wd)).1 (yIter (r 0) n y (ch, pd, yr, Wd)).2.1 pr (yIter (r 0) n y (ch, pd, yr, Wd)).2.2.1 (yIter (r 0) n y (ch, pd, yr, Wd)).2.2.2 k).toInt64 from rfl]
      refine lv_iload hx hb dL_law_960 (lv_at hl 0 rfl) ?_
      refine lv_i2l hx hb dL_law_962 rfl ?_
      refine lv_lcmpS hx hb dL_law_963 ?_
      refine lv_if_eq (tgt := 969) hx hb dL_law_964 (by decide) (fun c_8 => ?_) (fun c_8 => ?_)
      · refine lv_goto (tgt := 1133) hx hb dL_law_969 (by decide) ?_
        refine lv_iinc (v := (nI (4 * (i + 1)))) (lv' := [(4, .int (nI (4 * (i + 1)))), (6, .int (countS d r n (yIter (r 0) n y (ch, pd, yr, Wd)).1 (yIter (r 0) n y (ch, pd, yr, Wd)).2.1 pr (yIter (r 0) n y (ch, pd, yr, Wd)).2.2.1 (yIter (r 0) n y (ch, pd, yr, Wd)).2.2.2 k)), (5, .int 0), (0, .ref b), (1, .ref (X 0)), (2, .ref (M 0)), (3, .ref o)]) hx hb dL_law_1133 hl (k := 2) rfl (nI_add (4 * i) 4) (by decide) rfl (fun ls hl => ?_)
        refine lv_goto (tgt := 23) hx hb dL_law_1136 (by decide) ?_
        refine W.widen (k := 40 + 4 * (i + 1)) (n := 3000 + 100 * (i + 1)) (by omega) (by omega) ?_
        exact ih _ _ _ _ _ _ _ _ _ _ _ _ _ _ _ _ _ (hInv.mono (Nat.le_succ i)) H locs hP hD hS ls (lv_sub hl [0, 3, 4, 5, 6] rfl)
      · exact absurd rfl c_8
  · exact absurd rfl c_6
set_option maxHeartbeats 4000000 in
set_option maxRecDepth 100000 in
theorem pL1_foresee {p : Program} {l : Launch} {e : Env} {s : State} {m : MethodId} {below : List Frame} {meth : Method} {c : Code} {b L : Nat} {xs : Nat → Int32} {dC : Nat → ClassId} {dI : Nat → Nat → Nat} {cI cW cJ : ClassId} {t : Nat} {X Bk Br : Nat → Nat} {o : Nat} (C9 : LC p l s m c b L xs dC dI cI cW cJ t) (i : Nat) (hi9 : i < 512) (hL4 : 4 * i + 4 ≤ L) (hLm : L ≤ 2048) (ih : LOOP p l e s m below meth c b dC dI cI cW cJ X Bk Br o (i + 1)) (M : Nat → Nat) (f0 : Nat → Int64) (th : Int32) (d r : Nat → Int32) (n : Nat) (ch pd pr yr : Int32) (Wd : Nat → Nat → Int32) (n2 : Nat) (ch2 pd2 pr2 yr2 : Int32) (W2 : Nat → Nat → Int32) (hInv : Inv i d r n ch pr Wd) (H : Heap) (locs : List Loc) (hP : va_P (dC, dI) vwCl (tab cI X d r ++ (bk cW X Bk n ch pd pr yr Wd ++ (bk cW X Br n2 ch2 pd2 pr2 yr2 W2 ++ (obj X Bk Br :: (o, .inl (cJ, 1, .inr (.inl f0))) :: mw cI M th n d r Wd ch pd yr (WT d (r 0)))))) H) (hD : va_D (NEW s.heap.size) (tab cI X d r ++ (bk cW X Bk n ch pd pr yr Wd ++ (bk cW X Br n2 ch2 pd2 pr2 yr2 W2 ++ (obj X Bk Br :: (o, .inl (cJ, 1, .inr (.inl f0))) :: mw cI M th n d r Wd ch pd yr (WT d (r 0))))))) (hS : va_S (NEW s.heap.size) s.heap H locs) (ls : Array Slot) (hl : lv_has ls 9 [(4, .int (nI (4 * i))), (0, .ref b), (1, .ref (X 0)), (2, .ref (M 0)), (3, .ref o)]) (a f : Int32) (h9 : ¬ (1 ≤ a ∧ a ≤ 50)) (e1 : xs (4 * i + 1) = a) (e2 : xs (4 * i + 2) = f) : W p l e room_1 s m #[Value.ref b] below meth c H locs (40 + 4 * i) (3000 + 100 * i) (lw_Z below #[Value.ref b] s) (F0 m 904 ls []) := by
  obtain ⟨hx, hb, hml, hown, hts, hX, hbl, hKK, hKJ, hKX0, hHG0, hl0⟩ := C9
  have hA : ∀ q, s.heap.size ≤ q → NEW s.heap.size q := fun q h => h
  have hn := hInv.2.2.1
  have hok := hInv.2.2.2.1
  have hi := hInv.hi.1
  have hi0 := hInv.hi.2
  refine lv_aload_n hx hb dL_law_904 rfl (lv_at hl 2 rfl) ?_
  refine lv_aload_n hx hb dL_law_905 rfl (lv_at hl 1 rfl) ?_
  refine lv_iload hx hb dL_law_906 (lv_at hl 0 rfl) ?_
  refine lv_iconst (v := 1) hx hb dL_law_908 (by decide) ?_
  refine lv_iadd hx hb dL_law_909 ?_
  rw [show ((nI (4 * i)) + 1 : Int32) = nI (4 * i + 1) from nI_add (4 * i) 1]
  refine va_sld hx hb hX hbl (fun h9 => absurd h9 (Nat.not_le.mpr hbl)) hS (vp_in_nI (by omega) (by omega)) dL_law_910 ?_
  rw [clamp_nI (show 4 * i + 1 < 2147483648 by omega)]
  rw [e1]
  refine lv_aload_n hx hb dL_law_911 rfl (lv_at hl 1 rfl) ?_
  refine lv_iload hx hb dL_law_912 (lv_at hl 0 rfl) ?_
  refine lv_iconst (v := 2) hx hb dL_law_914 (by decide) ?_
  refine lv_iadd hx hb dL_law_915 ?_
  rw [show ((nI (4 * i)) + 2 : Int32) = nI (4 * i + 2) from nI_add (4 * i) 2]
  refine va_sld hx hb hX hbl (fun h9 => absurd h9 (Nat.not_le.mpr hbl)) hS (vp_in_nI (by omega) (by omega)) dL_law_916 ?_
  rw [clamp_nI (show 4 * i + 2 < 2147483648 by omega)]
  rw [e2]
  refine lv_aload_n hx hb dL_law_917 rfl (lv_at hl 4 rfl) ?_
  refine wr_i (runSL (As := [.ref (X 0), .int a, .int f, .ref o]) (rest := []) ⟨hx, hb, hml, hown, hts⟩ (bad1_L_foresee l dC dI cI cW hl0 cJ o f0 X Bk Br d r n ch pd pr yr Wd n2 ch2 pd2 pr2 yr2 W2 (mw cI M th n d r Wd ch pd yr (WT d (r 0))) a f h9 _) (vx_cwSW 4 hts gL_law_L_foresee rfl rfl rfl (by decide +kernel) ⟨Nat.le_of_ble_eq_true rfl, Nat.le_of_ble_eq_true rfl⟩) hKK hKJ (hKX0.at hS) hP hD rfl hl.1 (Nat.le_of_ble_eq_true rfl) rfl dL_law_918 ⟨(show 40 + 4 * i + 1 ≤ 601024 by omega), (show 3000 + 100 * i + 6 ≤ 7293034 by omega)⟩) hD hS hA (fun r_1 H locs hr_1 hP hD hS => ?_)
  subst hr_1
  have hP : va_P (dC, dI) vwCl (tab cI X d r ++ (bk cW X Bk n ch pd pr yr Wd ++ (bk cW X Br n2 ch2 pd2 pr2 yr2 W2 ++ (obj X Bk Br :: (o, .inl (cJ, 1, .inr (.inl f0))) :: (mw cI M th n d r Wd ch pd yr (WT d (r 0))))))) H := hP
  have hD : va_D (NEW s.heap.size) (tab cI X d r ++ (bk cW X Bk n ch pd pr yr Wd ++ (bk cW X Br n2 ch2 pd2 pr2 yr2 W2 ++ (obj X Bk Br :: (o, .inl (cJ, 1, .inr (.inl f0))) :: (mw cI M th n d r Wd ch pd yr (WT d (r 0))))))) := hD
  have hP := va_P_perm (law_perm _ _ _ _ _ _) hP
  have hD := va_D_perm (law_perm _ _ _ _ _ _) hD
  refine lv_istore (lv' := [(5, .int 1), (4, .int (nI (4 * i))), (0, .ref b), (1, .ref (X 0)), (2, .ref (M 0)), (3, .ref o)]) hx hb dL_law_921 hl (by decide) rfl (fun ls hl => ?_)
  refine lv_aload_n hx hb dL_law_923 rfl (lv_at hl 4 rfl) ?_
  refine lv_aload_n hx hb dL_law_924 rfl (lv_at hl 2 rfl) ?_
  refine lv_iload hx hb dL_law_925 (lv_at hl 1 rfl) ?_
  refine lv_iconst (v := 1) hx hb dL_law_927 (by decide) ?_
  refine lv_iadd hx hb dL_law_928 ?_
  rw [show ((nI (4 * i)) + 1 : Int32) = nI (4 * i + 1) from nI_add (4 * i) 1]
  refine va_sld hx hb hX hbl (fun h9 => absurd h9 (Nat.not_le.mpr hbl)) hS (vp_in_nI (by omega) (by omega)) dL_law_929 ?_
  rw [clamp_nI (show 4 * i + 1 < 2147483648 by omega)]
  rw [e1]
  refine lv_aload_n hx hb dL_law_930 rfl (lv_at hl 2 rfl) ?_
  refine lv_iload hx hb dL_law_931 (lv_at hl 1 rfl) ?_
  refine lv_iconst (v := 2) hx hb dL_law_933 (by decide) ?_
  refine lv_iadd hx hb dL_law_934 ?_
  rw [show ((nI (4 * i)) + 2 : Int32) = nI (4 * i + 2) from nI_add (4 * i) 2]
  refine va_sld hx hb hX hbl (fun h9 => absurd h9 (Nat.not_le.mpr hbl)) hS (vp_in_nI (by omega) (by omega)) dL_law_935 ?_
  rw [clamp_nI (show 4 * i + 2 < 2147483648 by omega)]
  rw [e2]
  refine wr_i (runV1 (As := [.int a, .int f]) (rest := []) ⟨hx, hb, hml, hown, hts⟩ (met1_X4_foresee l dC dI cI cW M th n d r Wd ch pd yr _ a f h9 _) (cwV 2 hts gL_law_X4_foresee rfl rfl rfl (by decide +kernel) ⟨Nat.le_of_ble_eq_true rfl, Nat.le_of_ble_eq_true rfl⟩) hKK hP hD 4 0 rfl rfl rfl hl.1 (Nat.le_of_ble_eq_true rfl) rfl dL_law_936 ⟨(show 40 + 4 * i + 1 + 0 ≤ 601024 by omega), (show 3000 + 100 * i + 6 + 0 ≤ 7293034 by omega)⟩) hD hS hA (fun r_2 H locs hr_2 hP hD hS => ?_)
  subst hr_2
  refine lv_istore (lv' := [(6, .int 0), (5, .int 1), (4, .int (nI (4 * i))), (0, .ref b), (1, .ref (X 0)), (2, .ref (M 0)), (3, .ref o)]) hx hb dL_law_939 hl (by decide) rfl (fun ls hl => ?_)
  refine lv_aload_n hx hb dL_law_941 rfl (lv_at hl 5 rfl) ?_
  refine rd_i (runV0 (As := []) (rest := []) ⟨hx, hb, hml, hown, hts⟩ (met_X4_thrown l dC dI cI cW _ _ _ _ _ _ _ _ _ _) (cwV 0 hts gL_law_X4_thrown rfl rfl rfl (by decide +kernel) ⟨Nat.le_of_ble_eq_true rfl, Nat.le_of_ble_eq_true rfl⟩) hKK (ws_left hP) 4 0 rfl rfl rfl hl.1 (Nat.le_of_ble_eq_true rfl) rfl dL_law_942 ⟨(show 40 + 4 * i + 1 + 0 ≤ 601024 by omega), (show 3000 + 100 * i + 6 + 0 ≤ 7293034 by omega)⟩) (fun r_3 hr_3 => ?_)
  subst hr_3
  have hP := va_P_perm (law_back _ _ _ _ _ _) hP
  have hD := va_D_perm (law_back _ _ _ _ _ _) hD
  refine lv_iload hx hb dL_law_945 (lv_at hl 1 rfl) ?_
  refine lv_icmp_eq (tgt := 952) hx hb dL_law_947 (by decide) (fun c_5 => ?_) (fun c_5 => ?_)
  · refine lv_iload hx hb dL_law_952 (lv_at hl 1 rfl) ?_
    refine lv_if_ne (tgt := 969) hx hb dL_law_954 (by decide) (fun c_6 => ?_) (fun c_6 => ?_)
    · refine lv_goto (tgt := 1133) hx hb dL_law_969 (by decide) ?_
      refine lv_iinc (v := (nI (4 * (i + 1)))) (lv' := [(4, .int (nI (4 * (i + 1)))), (6, .int 0), (5, .int 1), (0, .ref b), (1, .ref (X 0)), (2, .ref (M 0)), (3, .ref o)]) hx hb dL_law_1133 hl (k := 2) rfl (nI_add (4 * i) 4) (by decide) rfl (fun ls hl => ?_)
      refine lv_goto (tgt := 23) hx hb dL_law_1136 (by decide) ?_
      refine W.widen (k := 40 + 4 * (i + 1)) (n := 3000 + 100 * (i + 1)) (by omega) (by omega) ?_
      exact ih _ _ _ _ _ _ _ _ _ _ _ _ _ _ _ _ _ (hInv.mono (Nat.le_succ i)) H locs hP hD hS ls (lv_sub hl [0, 3, 4, 5, 6] rfl)
    · exact absurd c_6 (by decide)
  · exact absurd rfl c_5
set_option maxHeartbeats 4000000 in
set_option maxRecDepth 100000 in
theorem pL2_foresee {p : Program} {l : Launch} {e : Env} {s : State} {m : MethodId} {below : List Frame} {meth : Method} {c : Code} {b L : Nat} {xs : Nat → Int32} {dC : Nat → ClassId} {dI : Nat → Nat → Nat} {cI cW cJ : ClassId} {t : Nat} {X Bk Br : Nat → Nat} {o : Nat} (C9 : LC p l s m c b L xs dC dI cI cW cJ t) (i : Nat) (hi9 : i < 512) (hL4 : 4 * i + 4 ≤ L) (hLm : L ≤ 2048) (ih : LOOP p l e s m below meth c b dC dI cI cW cJ X Bk Br o (i + 1)) (M : Nat → Nat) (f0 : Nat → Int64) (th : Int32) (d r : Nat → Int32) (n : Nat) (ch pd pr yr : Int32) (Wd : Nat → Nat → Int32) (n2 : Nat) (ch2 pd2 pr2 yr2 : Int32) (W2 : Nat → Nat → Int32) (hInv : Inv i d r n ch pr Wd) (H : Heap) (locs : List Loc) (hP : va_P (dC, dI) vwCl (tab cI X d r ++ (bk cW X Bk n ch pd pr yr Wd ++ (bk cW X Br n2 ch2 pd2 pr2 yr2 W2 ++ (obj X Bk Br :: (o, .inl (cJ, 1, .inr (.inl f0))) :: mw cI M th n d r Wd ch pd yr (WT d (r 0)))))) H) (hD : va_D (NEW s.heap.size) (tab cI X d r ++ (bk cW X Bk n ch pd pr yr Wd ++ (bk cW X Br n2 ch2 pd2 pr2 yr2 W2 ++ (obj X Bk Br :: (o, .inl (cJ, 1, .inr (.inl f0))) :: mw cI M th n d r Wd ch pd yr (WT d (r 0))))))) (hS : va_S (NEW s.heap.size) s.heap H locs) (ls : Array Slot) (hl : lv_has ls 9 [(4, .int (nI (4 * i))), (0, .ref b), (1, .ref (X 0)), (2, .ref (M 0)), (3, .ref o)]) (a f : Int32) (h8 : 1 ≤ a ∧ a ≤ 50) (h9 : ¬ (2 ≤ f ∧ f ≤ 7)) (e1 : xs (4 * i + 1) = a) (e2 : xs (4 * i + 2) = f) : W p l e room_1 s m #[Value.ref b] below meth c H locs (40 + 4 * i) (3000 + 100 * i) (lw_Z below #[Value.ref b] s) (F0 m 904 ls []) := by
  obtain ⟨hx, hb, hml, hown, hts, hX, hbl, hKK, hKJ, hKX0, hHG0, hl0⟩ := C9
  have hA : ∀ q, s.heap.size ≤ q → NEW s.heap.size q := fun q h => h
  have hn := hInv.2.2.1
  have hok := hInv.2.2.2.1
  have hi := hInv.hi.1
  have hi0 := hInv.hi.2
  refine lv_aload_n hx hb dL_law_904 rfl (lv_at hl 2 rfl) ?_
  refine lv_aload_n hx hb dL_law_905 rfl (lv_at hl 1 rfl) ?_
  refine lv_iload hx hb dL_law_906 (lv_at hl 0 rfl) ?_
  refine lv_iconst (v := 1) hx hb dL_law_908 (by decide) ?_
  refine lv_iadd hx hb dL_law_909 ?_
  rw [show ((nI (4 * i)) + 1 : Int32) = nI (4 * i + 1) from nI_add (4 * i) 1]
  refine va_sld hx hb hX hbl (fun h9 => absurd h9 (Nat.not_le.mpr hbl)) hS (vp_in_nI (by omega) (by omega)) dL_law_910 ?_
  rw [clamp_nI (show 4 * i + 1 < 2147483648 by omega)]
  rw [e1]
  refine lv_aload_n hx hb dL_law_911 rfl (lv_at hl 1 rfl) ?_
  refine lv_iload hx hb dL_law_912 (lv_at hl 0 rfl) ?_
  refine lv_iconst (v := 2) hx hb dL_law_914 (by decide) ?_
  refine lv_iadd hx hb dL_law_915 ?_
  rw [show ((nI (4 * i)) + 2 : Int32) = nI (4 * i + 2) from nI_add (4 * i) 2]
  refine va_sld hx hb hX hbl (fun h9 => absurd h9 (Nat.not_le.mpr hbl)) hS (vp_in_nI (by omega) (by omega)) dL_law_916 ?_
  rw [clamp_nI (show 4 * i + 2 < 2147483648 by omega)]
  rw [e2]
  refine lv_aload_n hx hb dL_law_917 rfl (lv_at hl 4 rfl) ?_
  refine wr_i (runSL (As := [.ref (X 0), .int a, .int f, .ref o]) (rest := []) ⟨hx, hb, hml, hown, hts⟩ (bad2_L_foresee l dC dI cI cW hl0 cJ o f0 X Bk Br d r n ch pd pr yr Wd n2 ch2 pd2 pr2 yr2 W2 (mw cI M th n d r Wd ch pd yr (WT d (r 0))) a f h8 h9 _) (vx_cwSW 4 hts gL_law_L_foresee rfl rfl rfl (by decide +kernel) ⟨Nat.le_of_ble_eq_true rfl, Nat.le_of_ble_eq_true rfl⟩) hKK hKJ (hKX0.at hS) hP hD rfl hl.1 (Nat.le_of_ble_eq_true rfl) rfl dL_law_918 ⟨(show 40 + 4 * i + 1 ≤ 601024 by omega), (show 3000 + 100 * i + 6 ≤ 7293034 by omega)⟩) hD hS hA (fun r_1 H locs hr_1 hP hD hS => ?_)
  subst hr_1
  have hP : va_P (dC, dI) vwCl (tab cI X d r ++ (bk cW X Bk n ch pd pr yr Wd ++ (bk cW X Br n2 ch2 pd2 pr2 yr2 W2 ++ (obj X Bk Br :: (o, .inl (cJ, 1, .inr (.inl f0))) :: (mw cI M th n d r Wd ch pd yr (WT d (r 0))))))) H := hP
  have hD : va_D (NEW s.heap.size) (tab cI X d r ++ (bk cW X Bk n ch pd pr yr Wd ++ (bk cW X Br n2 ch2 pd2 pr2 yr2 W2 ++ (obj X Bk Br :: (o, .inl (cJ, 1, .inr (.inl f0))) :: (mw cI M th n d r Wd ch pd yr (WT d (r 0))))))) := hD
  have hP := va_P_perm (law_perm _ _ _ _ _ _) hP
  have hD := va_D_perm (law_perm _ _ _ _ _ _) hD
  refine lv_istore (lv' := [(5, .int 2), (4, .int (nI (4 * i))), (0, .ref b), (1, .ref (X 0)), (2, .ref (M 0)), (3, .ref o)]) hx hb dL_law_921 hl (by decide) rfl (fun ls hl => ?_)
  refine lv_aload_n hx hb dL_law_923 rfl (lv_at hl 4 rfl) ?_
  refine lv_aload_n hx hb dL_law_924 rfl (lv_at hl 2 rfl) ?_
  refine lv_iload hx hb dL_law_925 (lv_at hl 1 rfl) ?_
  refine lv_iconst (v := 1) hx hb dL_law_927 (by decide) ?_
  refine lv_iadd hx hb dL_law_928 ?_
  rw [show ((nI (4 * i)) + 1 : Int32) = nI (4 * i + 1) from nI_add (4 * i) 1]
  refine va_sld hx hb hX hbl (fun h9 => absurd h9 (Nat.not_le.mpr hbl)) hS (vp_in_nI (by omega) (by omega)) dL_law_929 ?_
  rw [clamp_nI (show 4 * i + 1 < 2147483648 by omega)]
  rw [e1]
  refine lv_aload_n hx hb dL_law_930 rfl (lv_at hl 2 rfl) ?_
  refine lv_iload hx hb dL_law_931 (lv_at hl 1 rfl) ?_
  refine lv_iconst (v := 2) hx hb dL_law_933 (by decide) ?_
  refine lv_iadd hx hb dL_law_934 ?_
  rw [show ((nI (4 * i)) + 2 : Int32) = nI (4 * i + 2) from nI_add (4 * i) 2]
  refine va_sld hx hb hX hbl (fun h9 => absurd h9 (Nat.not_le.mpr hbl)) hS (vp_in_nI (by omega) (by omega)) dL_law_935 ?_
  rw [clamp_nI (show 4 * i + 2 < 2147483648 by omega)]
  rw [e2]
  refine wr_i (runV1 (As := [.int a, .int f]) (rest := []) ⟨hx, hb, hml, hown, hts⟩ (met2_X4_foresee l dC dI cI cW M th n d r Wd ch pd yr _ a f h8 h9 _) (cwV 2 hts gL_law_X4_foresee rfl rfl rfl (by decide +kernel) ⟨Nat.le_of_ble_eq_true rfl, Nat.le_of_ble_eq_true rfl⟩) hKK hP hD 4 0 rfl rfl rfl hl.1 (Nat.le_of_ble_eq_true rfl) rfl dL_law_936 ⟨(show 40 + 4 * i + 1 + 0 ≤ 601024 by omega), (show 3000 + 100 * i + 6 + 0 ≤ 7293034 by omega)⟩) hD hS hA (fun r_2 H locs hr_2 hP hD hS => ?_)
  subst hr_2
  refine lv_istore (lv' := [(6, .int 0), (5, .int 2), (4, .int (nI (4 * i))), (0, .ref b), (1, .ref (X 0)), (2, .ref (M 0)), (3, .ref o)]) hx hb dL_law_939 hl (by decide) rfl (fun ls hl => ?_)
  refine lv_aload_n hx hb dL_law_941 rfl (lv_at hl 5 rfl) ?_
  refine rd_i (runV0 (As := []) (rest := []) ⟨hx, hb, hml, hown, hts⟩ (met_X4_thrown l dC dI cI cW _ _ _ _ _ _ _ _ _ _) (cwV 0 hts gL_law_X4_thrown rfl rfl rfl (by decide +kernel) ⟨Nat.le_of_ble_eq_true rfl, Nat.le_of_ble_eq_true rfl⟩) hKK (ws_left hP) 4 0 rfl rfl rfl hl.1 (Nat.le_of_ble_eq_true rfl) rfl dL_law_942 ⟨(show 40 + 4 * i + 1 + 0 ≤ 601024 by omega), (show 3000 + 100 * i + 6 + 0 ≤ 7293034 by omega)⟩) (fun r_3 hr_3 => ?_)
  subst hr_3
  have hP := va_P_perm (law_back _ _ _ _ _ _) hP
  have hD := va_D_perm (law_back _ _ _ _ _ _) hD
  refine lv_iload hx hb dL_law_945 (lv_at hl 1 rfl) ?_
  refine lv_icmp_eq (tgt := 952) hx hb dL_law_947 (by decide) (fun c_5 => ?_) (fun c_5 => ?_)
  · refine lv_iload hx hb dL_law_952 (lv_at hl 1 rfl) ?_
    refine lv_if_ne (tgt := 969) hx hb dL_law_954 (by decide) (fun c_6 => ?_) (fun c_6 => ?_)
    · refine lv_goto (tgt := 1133) hx hb dL_law_969 (by decide) ?_
      refine lv_iinc (v := (nI (4 * (i + 1)))) (lv' := [(4, .int (nI (4 * (i + 1)))), (6, .int 0), (5, .int 2), (0, .ref b), (1, .ref (X 0)), (2, .ref (M 0)), (3, .ref o)]) hx hb dL_law_1133 hl (k := 2) rfl (nI_add (4 * i) 4) (by decide) rfl (fun ls hl => ?_)
      refine lv_goto (tgt := 23) hx hb dL_law_1136 (by decide) ?_
      refine W.widen (k := 40 + 4 * (i + 1)) (n := 3000 + 100 * (i + 1)) (by omega) (by omega) ?_
      exact ih _ _ _ _ _ _ _ _ _ _ _ _ _ _ _ _ _ (hInv.mono (Nat.le_succ i)) H locs hP hD hS ls (lv_sub hl [0, 3, 4, 5, 6] rfl)
    · exact absurd c_6 (by decide)
  · exact absurd rfl c_5
set_option maxHeartbeats 4000000 in
set_option maxRecDepth 100000 in
theorem pL0_affords {p : Program} {l : Launch} {e : Env} {s : State} {m : MethodId} {below : List Frame} {meth : Method} {c : Code} {b L : Nat} {xs : Nat → Int32} {dC : Nat → ClassId} {dI : Nat → Nat → Nat} {cI cW cJ : ClassId} {t : Nat} {X Bk Br : Nat → Nat} {o : Nat} (C9 : LC p l s m c b L xs dC dI cI cW cJ t) (i : Nat) (hi9 : i < 512) (hL4 : 4 * i + 4 ≤ L) (hLm : L ≤ 2048) (ih : LOOP p l e s m below meth c b dC dI cI cW cJ X Bk Br o (i + 1)) (M : Nat → Nat) (f0 : Nat → Int64) (th : Int32) (d r : Nat → Int32) (n : Nat) (ch pd pr yr : Int32) (Wd : Nat → Nat → Int32) (n2 : Nat) (ch2 pd2 pr2 yr2 : Int32) (W2 : Nat → Nat → Int32) (hInv : Inv i d r n ch pr Wd) (H : Heap) (locs : List Loc) (hP : va_P (dC, dI) vwCl (tab cI X d r ++ (bk cW X Bk n ch pd pr yr Wd ++ (bk cW X Br n2 ch2 pd2 pr2 yr2 W2 ++ (obj X Bk Br :: (o, .inl (cJ, 1, .inr (.inl f0))) :: mw cI M th n d r Wd ch pd yr (WT d (r 0)))))) H) (hD : va_D (NEW s.heap.size) (tab cI X d r ++ (bk cW X Bk n ch pd pr yr Wd ++ (bk cW X Br n2 ch2 pd2 pr2 yr2 W2 ++ (obj X Bk Br :: (o, .inl (cJ, 1, .inr (.inl f0))) :: mw cI M th n d r Wd ch pd yr (WT d (r 0))))))) (hS : va_S (NEW s.heap.size) s.heap H locs) (ls : Array Slot) (hl : lv_has ls 9 [(4, .int (nI (4 * i))), (0, .ref b), (1, .ref (X 0)), (2, .ref (M 0)), (3, .ref o)]) (ka kb : Nat) (money : Int32) (h1 : 50 ≤ ka) (h2 : ka ≤ 99) (h3 : kb ≤ 30) (h4 : 1 ≤ money ∧ money ≤ 99999) (e1 : xs (4 * i + 1) = nI ka) (e2 : xs (4 * i + 2) = nI kb) (e3 : xs (4 * i + 3) = money) : W p l e room_1 s m #[Value.ref b] below meth c H locs (40 + 4 * i) (3000 + 100 * i) (lw_Z below #[Value.ref b] s) (F0 m 998 ls []) := by
  obtain ⟨hx, hb, hml, hown, hts, hX, hbl, hKK, hKJ, hKX0, hHG0, hl0⟩ := C9
  have hA : ∀ q, s.heap.size ≤ q → NEW s.heap.size q := fun q h => h
  have hn := hInv.2.2.1
  have hok := hInv.2.2.2.1
  have hi := hInv.hi.1
  have hi0 := hInv.hi.2
  have hm := hInv.aff (kb := kb) (money := money) h1
  refine lv_aload_n hx hb dL_law_998 rfl (lv_at hl 2 rfl) ?_
  refine lv_aload_n hx hb dL_law_999 rfl (lv_at hl 1 rfl) ?_
  refine lv_iload hx hb dL_law_1000 (lv_at hl 0 rfl) ?_
  refine lv_iconst (v := 1) hx hb dL_law_1002 (by decide) ?_
  refine lv_iadd hx hb dL_law_1003 ?_
  rw [show ((nI (4 * i)) + 1 : Int32) = nI (4 * i + 1) from nI_add (4 * i) 1]
  refine va_sld hx hb hX hbl (fun h9 => absurd h9 (Nat.not_le.mpr hbl)) hS (vp_in_nI (by omega) (by omega)) dL_law_1004 ?_
  rw [clamp_nI (show 4 * i + 1 < 2147483648 by omega)]
  rw [e1]
  refine lv_aload_n hx hb dL_law_1005 rfl (lv_at hl 1 rfl) ?_
  refine lv_iload hx hb dL_law_1006 (lv_at hl 0 rfl) ?_
  refine lv_iconst (v := 2) hx hb dL_law_1008 (by decide) ?_
  refine lv_iadd hx hb dL_law_1009 ?_
  rw [show ((nI (4 * i)) + 2 : Int32) = nI (4 * i + 2) from nI_add (4 * i) 2]
  refine va_sld hx hb hX hbl (fun h9 => absurd h9 (Nat.not_le.mpr hbl)) hS (vp_in_nI (by omega) (by omega)) dL_law_1010 ?_
  rw [clamp_nI (show 4 * i + 2 < 2147483648 by omega)]
  rw [e2]
  refine lv_aload_n hx hb dL_law_1011 rfl (lv_at hl 1 rfl) ?_
  refine lv_iload hx hb dL_law_1012 (lv_at hl 0 rfl) ?_
  refine lv_iconst (v := 3) hx hb dL_law_1014 (by decide) ?_
  refine lv_iadd hx hb dL_law_1015 ?_
  rw [show ((nI (4 * i)) + 3 : Int32) = nI (4 * i + 3) from nI_add (4 * i) 3]
  refine va_sld hx hb hX hbl (fun h9 => absurd h9 (Nat.not_le.mpr hbl)) hS (vp_in_nI (by omega) (by omega)) dL_law_1016 ?_
  rw [clamp_nI (show 4 * i + 3 < 2147483648 by omega)]
  rw [e3]
  refine lv_aload_n hx hb dL_law_1017 rfl (lv_at hl 4 rfl) ?_
  refine wr_i (runSL (As := [.ref (X 0), .int (nI ka), .int (nI kb), .int money, .ref o]) (rest := []) ⟨hx, hb, hml, hown, hts⟩ (met_L_affords l dC dI cI cW cJ o f0 X Bk Br d r n ch pd pr yr Wd n2 ch2 pd2 pr2 yr2 W2 (mw cI M th n d r Wd ch pd yr (WT d (r 0))) ka kb money h1 h2 h3 h4 hm hi hi0 _) (vx_cwSW 5 hts gL_law_L_affords rfl rfl rfl (by decide +kernel) ⟨Nat.le_of_ble_eq_true rfl, Nat.le_of_ble_eq_true rfl⟩) hKK hKJ (hKX0.at hS) hP hD rfl hl.1 (Nat.le_of_ble_eq_true rfl) rfl dL_law_1018 ⟨(show 40 + 4 * i + 0 ≤ 601024 by omega), (show 3000 + 100 * i + 0 ≤ 7293034 by omega)⟩) hD hS hA (fun r_1 H locs hr_1 hP hD hS => ?_)
  subst hr_1
  have hP : va_P (dC, dI) vwCl (tab cI X d r ++ (bk cW X Bk n ch pd pr yr Wd ++ (bk cW X Br n2 ch2 pd2 pr2 yr2 W2 ++ (obj X Bk Br :: (o, .inl (cJ, 1, .inr (.inl (vp_updL f0 0 (if wN d (r 0) (100 - ka) kb = 0 then 0 else nI (gS (r 1) (wN d (r 0) (100 - ka) kb) money)).toInt64)))) :: (mw cI M th n d r Wd ch pd yr (WT d (r 0))))))) H := hP
  have hD : va_D (NEW s.heap.size) (tab cI X d r ++ (bk cW X Bk n ch pd pr yr Wd ++ (bk cW X Br n2 ch2 pd2 pr2 yr2 W2 ++ (obj X Bk Br :: (o, .inl (cJ, 1, .inr (.inl (vp_updL f0 0 (if wN d (r 0) (100 - ka) kb = 0 then 0 else nI (gS (r 1) (wN d (r 0) (100 - ka) kb) money)).toInt64)))) :: (mw cI M th n d r Wd ch pd yr (WT d (r 0))))))) := hD
  have hP := va_P_perm (law_perm _ _ _ _ _ _) hP
  have hD := va_D_perm (law_perm _ _ _ _ _ _) hD
  refine lv_istore (lv' := [(5, .int 0), (4, .int (nI (4 * i))), (0, .ref b), (1, .ref (X 0)), (2, .ref (M 0)), (3, .ref o)]) hx hb dL_law_1021 hl (by decide) rfl (fun ls hl => ?_)
  refine lv_aload_n hx hb dL_law_1023 rfl (lv_at hl 4 rfl) ?_
  refine lv_aload_n hx hb dL_law_1024 rfl (lv_at hl 2 rfl) ?_
  refine lv_iload hx hb dL_law_1025 (lv_at hl 1 rfl) ?_
  refine lv_iconst (v := 1) hx hb dL_law_1027 (by decide) ?_
  refine lv_iadd hx hb dL_law_1028 ?_
  rw [show ((nI (4 * i)) + 1 : Int32) = nI (4 * i + 1) from nI_add (4 * i) 1]
  refine va_sld hx hb hX hbl (fun h9 => absurd h9 (Nat.not_le.mpr hbl)) hS (vp_in_nI (by omega) (by omega)) dL_law_1029 ?_
  rw [clamp_nI (show 4 * i + 1 < 2147483648 by omega)]
  rw [e1]
  refine lv_aload_n hx hb dL_law_1030 rfl (lv_at hl 2 rfl) ?_
  refine lv_iload hx hb dL_law_1031 (lv_at hl 1 rfl) ?_
  refine lv_iconst (v := 2) hx hb dL_law_1033 (by decide) ?_
  refine lv_iadd hx hb dL_law_1034 ?_
  rw [show ((nI (4 * i)) + 2 : Int32) = nI (4 * i + 2) from nI_add (4 * i) 2]
  refine va_sld hx hb hX hbl (fun h9 => absurd h9 (Nat.not_le.mpr hbl)) hS (vp_in_nI (by omega) (by omega)) dL_law_1035 ?_
  rw [clamp_nI (show 4 * i + 2 < 2147483648 by omega)]
  rw [e2]
  refine lv_aload_n hx hb dL_law_1036 rfl (lv_at hl 2 rfl) ?_
  refine lv_iload hx hb dL_law_1037 (lv_at hl 1 rfl) ?_
  refine lv_iconst (v := 3) hx hb dL_law_1039 (by decide) ?_
  refine lv_iadd hx hb dL_law_1040 ?_
  rw [show ((nI (4 * i)) + 3 : Int32) = nI (4 * i + 3) from nI_add (4 * i) 3]
  refine va_sld hx hb hX hbl (fun h9 => absurd h9 (Nat.not_le.mpr hbl)) hS (vp_in_nI (by omega) (by omega)) dL_law_1041 ?_
  rw [clamp_nI (show 4 * i + 3 < 2147483648 by omega)]
  rw [e3]
  refine wr_i (runV1 (As := [.int (nI ka), .int (nI kb), .int money]) (rest := []) ⟨hx, hb, hml, hown, hts⟩ (met_X4_affords l dC dI cI cW M th n d r Wd ch pd yr _ ka kb money h1 h2 h3 h4 _) (cwV 3 hts gL_law_X4_affords rfl rfl rfl (by decide +kernel) ⟨Nat.le_of_ble_eq_true rfl, Nat.le_of_ble_eq_true rfl⟩) hKK hP hD 4 0 rfl rfl rfl hl.1 (Nat.le_of_ble_eq_true rfl) rfl dL_law_1042 ⟨(show 40 + 4 * i + 0 + 0 ≤ 601024 by omega), (show 3000 + 100 * i + 0 + 0 ≤ 7293034 by omega)⟩) hD hS hA (fun r_2 H locs hr_2 hP hD hS => ?_)
  subst hr_2
  refine lv_istore (lv' := [(6, .int (if wN d (r 0) (100 - ka) kb = 0 then 0 else nI (gS (r 1) (wN d (r 0) (100 - ka) kb) money))), (5, .int 0), (4, .int (nI (4 * i))), (0, .ref b), (1, .ref (X 0)), (2, .ref (M 0)), (3, .ref o)]) hx hb dL_law_1045 hl (by decide) rfl (fun ls hl => ?_)
  refine lv_aload_n hx hb dL_law_1047 rfl (lv_at hl 5 rfl) ?_
  refine rd_i (runV0 (As := []) (rest := []) ⟨hx, hb, hml, hown, hts⟩ (met_X4_thrown l dC dI cI cW _ _ _ _ _ _ _ _ _ _) (cwV 0 hts gL_law_X4_thrown rfl rfl rfl (by decide +kernel) ⟨Nat.le_of_ble_eq_true rfl, Nat.le_of_ble_eq_true rfl⟩) hKK (ws_left hP) 4 0 rfl rfl rfl hl.1 (Nat.le_of_ble_eq_true rfl) rfl dL_law_1048 ⟨(show 40 + 4 * i + 0 + 0 ≤ 601024 by omega), (show 3000 + 100 * i + 0 + 0 ≤ 7293034 by omega)⟩) (fun r_3 hr_3 => ?_)
  subst hr_3
  have hP := va_P_perm (law_back _ _ _ _ _ _) hP
  have hD := va_D_perm (law_back _ _ _ _ _ _) hD
  refine lv_iload hx hb dL_law_1051 (lv_at hl 1 rfl) ?_
  refine lv_icmp_eq (tgt := 1058) hx hb dL_law_1053 (by decide) (fun c_7 => ?_) (fun c_7 => ?_)
  · refine lv_iload hx hb dL_law_1058 (lv_at hl 1 rfl) ?_
    refine lv_if_ne (tgt := 1075) hx hb dL_law_1060 (by decide) (fun c_8 => ?_) (fun c_8 => ?_)
    · exact absurd rfl c_8
    · refine lv_aload_n hx hb dL_law_1063 rfl (lv_at hl 6 rfl) ?_
      refine lv_iconst (v := 0) hx hb dL_law_1064 (by decide) ?_
      refine va_lald hx hb hKJ hP (27 + 1) 0 (cw_at rfl) rfl (vp_in_nI (n := 0) (by omega) (by omega)) dL_law_1065 ?_
      rw [show (vp_updL f0 0 (if wN d (r 0) (100 - ka) kb = 0 then 0 else nI (gS (r 1) (wN d (r 0) (100 - ka) kb) money)).toInt64) (0 : Int32).toNatClampNeg = (if wN d (r 0) (100 - ka) kb = 0 then 0 else nI (gS (r 1) (wN d (r 0) (100 - ka) kb) money)).toInt64 from rfl]
      refine lv_iload hx hb dL_law_1066 (lv_at hl 0 rfl) ?_
      refine lv_i2l hx hb dL_law_1068 rfl ?_
      refine lv_lcmpS hx hb dL_law_1069 ?_
      refine lv_if_eq (tgt := 1075) hx hb dL_law_1070 (by decide) (fun c_9 => ?_) (fun c_9 => ?_)
      · refine lv_goto (tgt := 1133) hx hb dL_law_1075 (by decide) ?_
        refine lv_iinc (v := (nI (4 * (i + 1)))) (lv' := [(4, .int (nI (4 * (i + 1)))), (6, .int (if wN d (r 0) (100 - ka) kb = 0 then 0 else nI (gS (r 1) (wN d (r 0) (100 - ka) kb) money))), (5, .int 0), (0, .ref b), (1, .ref (X 0)), (2, .ref (M 0)), (3, .ref o)]) hx hb dL_law_1133 hl (k := 2) rfl (nI_add (4 * i) 4) (by decide) rfl (fun ls hl => ?_)
        refine lv_goto (tgt := 23) hx hb dL_law_1136 (by decide) ?_
        refine W.widen (k := 40 + 4 * (i + 1)) (n := 3000 + 100 * (i + 1)) (by omega) (by omega) ?_
        exact ih _ _ _ _ _ _ _ _ _ _ _ _ _ _ _ _ _ (hInv.mono (Nat.le_succ i)) H locs hP hD hS ls (lv_sub hl [0, 3, 4, 5, 6] rfl)
      · exact absurd rfl c_9
  · exact absurd rfl c_7
set_option maxHeartbeats 4000000 in
set_option maxRecDepth 100000 in
theorem pL1_affords {p : Program} {l : Launch} {e : Env} {s : State} {m : MethodId} {below : List Frame} {meth : Method} {c : Code} {b L : Nat} {xs : Nat → Int32} {dC : Nat → ClassId} {dI : Nat → Nat → Nat} {cI cW cJ : ClassId} {t : Nat} {X Bk Br : Nat → Nat} {o : Nat} (C9 : LC p l s m c b L xs dC dI cI cW cJ t) (i : Nat) (hi9 : i < 512) (hL4 : 4 * i + 4 ≤ L) (hLm : L ≤ 2048) (ih : LOOP p l e s m below meth c b dC dI cI cW cJ X Bk Br o (i + 1)) (M : Nat → Nat) (f0 : Nat → Int64) (th : Int32) (d r : Nat → Int32) (n : Nat) (ch pd pr yr : Int32) (Wd : Nat → Nat → Int32) (n2 : Nat) (ch2 pd2 pr2 yr2 : Int32) (W2 : Nat → Nat → Int32) (hInv : Inv i d r n ch pr Wd) (H : Heap) (locs : List Loc) (hP : va_P (dC, dI) vwCl (tab cI X d r ++ (bk cW X Bk n ch pd pr yr Wd ++ (bk cW X Br n2 ch2 pd2 pr2 yr2 W2 ++ (obj X Bk Br :: (o, .inl (cJ, 1, .inr (.inl f0))) :: mw cI M th n d r Wd ch pd yr (WT d (r 0)))))) H) (hD : va_D (NEW s.heap.size) (tab cI X d r ++ (bk cW X Bk n ch pd pr yr Wd ++ (bk cW X Br n2 ch2 pd2 pr2 yr2 W2 ++ (obj X Bk Br :: (o, .inl (cJ, 1, .inr (.inl f0))) :: mw cI M th n d r Wd ch pd yr (WT d (r 0))))))) (hS : va_S (NEW s.heap.size) s.heap H locs) (ls : Array Slot) (hl : lv_has ls 9 [(4, .int (nI (4 * i))), (0, .ref b), (1, .ref (X 0)), (2, .ref (M 0)), (3, .ref o)]) (a p9 money : Int32) (h9 : ¬ ((50 ≤ a ∧ a ≤ 99) ∧ (0 ≤ p9 ∧ p9 ≤ 30) ∧ (1 ≤ money ∧ money ≤ 99999))) (e1 : xs (4 * i + 1) = a) (e2 : xs (4 * i + 2) = p9) (e3 : xs (4 * i + 3) = money) : W p l e room_1 s m #[Value.ref b] below meth c H locs (40 + 4 * i) (3000 + 100 * i) (lw_Z below #[Value.ref b] s) (F0 m 998 ls []) := by
  obtain ⟨hx, hb, hml, hown, hts, hX, hbl, hKK, hKJ, hKX0, hHG0, hl0⟩ := C9
  have hA : ∀ q, s.heap.size ≤ q → NEW s.heap.size q := fun q h => h
  have hn := hInv.2.2.1
  have hok := hInv.2.2.2.1
  have hi := hInv.hi.1
  have hi0 := hInv.hi.2
  refine lv_aload_n hx hb dL_law_998 rfl (lv_at hl 2 rfl) ?_
  refine lv_aload_n hx hb dL_law_999 rfl (lv_at hl 1 rfl) ?_
  refine lv_iload hx hb dL_law_1000 (lv_at hl 0 rfl) ?_
  refine lv_iconst (v := 1) hx hb dL_law_1002 (by decide) ?_
  refine lv_iadd hx hb dL_law_1003 ?_
  rw [show ((nI (4 * i)) + 1 : Int32) = nI (4 * i + 1) from nI_add (4 * i) 1]
  refine va_sld hx hb hX hbl (fun h9 => absurd h9 (Nat.not_le.mpr hbl)) hS (vp_in_nI (by omega) (by omega)) dL_law_1004 ?_
  rw [clamp_nI (show 4 * i + 1 < 2147483648 by omega)]
  rw [e1]
  refine lv_aload_n hx hb dL_law_1005 rfl (lv_at hl 1 rfl) ?_
  refine lv_iload hx hb dL_law_1006 (lv_at hl 0 rfl) ?_
  refine lv_iconst (v := 2) hx hb dL_law_1008 (by decide) ?_
  refine lv_iadd hx hb dL_law_1009 ?_
  rw [show ((nI (4 * i)) + 2 : Int32) = nI (4 * i + 2) from nI_add (4 * i) 2]
  refine va_sld hx hb hX hbl (fun h9 => absurd h9 (Nat.not_le.mpr hbl)) hS (vp_in_nI (by omega) (by omega)) dL_law_1010 ?_
  rw [clamp_nI (show 4 * i + 2 < 2147483648 by omega)]
  rw [e2]
  refine lv_aload_n hx hb dL_law_1011 rfl (lv_at hl 1 rfl) ?_
  refine lv_iload hx hb dL_law_1012 (lv_at hl 0 rfl) ?_
  refine lv_iconst (v := 3) hx hb dL_law_1014 (by decide) ?_
  refine lv_iadd hx hb dL_law_1015 ?_
  rw [show ((nI (4 * i)) + 3 : Int32) = nI (4 * i + 3) from nI_add (4 * i) 3]
  refine va_sld hx hb hX hbl (fun h9 => absurd h9 (Nat.not_le.mpr hbl)) hS (vp_in_nI (by omega) (by omega)) dL_law_1016 ?_
  rw [clamp_nI (show 4 * i + 3 < 2147483648 by omega)]
  rw [e3]
  refine lv_aload_n hx hb dL_law_1017 rfl (lv_at hl 4 rfl) ?_
  refine wr_i (runSL (As := [.ref (X 0), .int a, .int p9, .int money, .ref o]) (rest := []) ⟨hx, hb, hml, hown, hts⟩ (bad1_L_affords l dC dI cI cW hl0 cJ o f0 X Bk Br d r n ch pd pr yr Wd n2 ch2 pd2 pr2 yr2 W2 (mw cI M th n d r Wd ch pd yr (WT d (r 0))) a p9 money h9 _) (vx_cwSW 5 hts gL_law_L_affords rfl rfl rfl (by decide +kernel) ⟨Nat.le_of_ble_eq_true rfl, Nat.le_of_ble_eq_true rfl⟩) hKK hKJ (hKX0.at hS) hP hD rfl hl.1 (Nat.le_of_ble_eq_true rfl) rfl dL_law_1018 ⟨(show 40 + 4 * i + 1 ≤ 601024 by omega), (show 3000 + 100 * i + 6 ≤ 7293034 by omega)⟩) hD hS hA (fun r_1 H locs hr_1 hP hD hS => ?_)
  subst hr_1
  have hP : va_P (dC, dI) vwCl (tab cI X d r ++ (bk cW X Bk n ch pd pr yr Wd ++ (bk cW X Br n2 ch2 pd2 pr2 yr2 W2 ++ (obj X Bk Br :: (o, .inl (cJ, 1, .inr (.inl f0))) :: (mw cI M th n d r Wd ch pd yr (WT d (r 0))))))) H := hP
  have hD : va_D (NEW s.heap.size) (tab cI X d r ++ (bk cW X Bk n ch pd pr yr Wd ++ (bk cW X Br n2 ch2 pd2 pr2 yr2 W2 ++ (obj X Bk Br :: (o, .inl (cJ, 1, .inr (.inl f0))) :: (mw cI M th n d r Wd ch pd yr (WT d (r 0))))))) := hD
  have hP := va_P_perm (law_perm _ _ _ _ _ _) hP
  have hD := va_D_perm (law_perm _ _ _ _ _ _) hD
  refine lv_istore (lv' := [(5, .int 1), (4, .int (nI (4 * i))), (0, .ref b), (1, .ref (X 0)), (2, .ref (M 0)), (3, .ref o)]) hx hb dL_law_1021 hl (by decide) rfl (fun ls hl => ?_)
  refine lv_aload_n hx hb dL_law_1023 rfl (lv_at hl 4 rfl) ?_
  refine lv_aload_n hx hb dL_law_1024 rfl (lv_at hl 2 rfl) ?_
  refine lv_iload hx hb dL_law_1025 (lv_at hl 1 rfl) ?_
  refine lv_iconst (v := 1) hx hb dL_law_1027 (by decide) ?_
  refine lv_iadd hx hb dL_law_1028 ?_
  rw [show ((nI (4 * i)) + 1 : Int32) = nI (4 * i + 1) from nI_add (4 * i) 1]
  refine va_sld hx hb hX hbl (fun h9 => absurd h9 (Nat.not_le.mpr hbl)) hS (vp_in_nI (by omega) (by omega)) dL_law_1029 ?_
  rw [clamp_nI (show 4 * i + 1 < 2147483648 by omega)]
  rw [e1]
  refine lv_aload_n hx hb dL_law_1030 rfl (lv_at hl 2 rfl) ?_
  refine lv_iload hx hb dL_law_1031 (lv_at hl 1 rfl) ?_
  refine lv_iconst (v := 2) hx hb dL_law_1033 (by decide) ?_
  refine lv_iadd hx hb dL_law_1034 ?_
  rw [show ((nI (4 * i)) + 2 : Int32) = nI (4 * i + 2) from nI_add (4 * i) 2]
  refine va_sld hx hb hX hbl (fun h9 => absurd h9 (Nat.not_le.mpr hbl)) hS (vp_in_nI (by omega) (by omega)) dL_law_1035 ?_
  rw [clamp_nI (show 4 * i + 2 < 2147483648 by omega)]
  rw [e2]
  refine lv_aload_n hx hb dL_law_1036 rfl (lv_at hl 2 rfl) ?_
  refine lv_iload hx hb dL_law_1037 (lv_at hl 1 rfl) ?_
  refine lv_iconst (v := 3) hx hb dL_law_1039 (by decide) ?_
  refine lv_iadd hx hb dL_law_1040 ?_
  rw [show ((nI (4 * i)) + 3 : Int32) = nI (4 * i + 3) from nI_add (4 * i) 3]
  refine va_sld hx hb hX hbl (fun h9 => absurd h9 (Nat.not_le.mpr hbl)) hS (vp_in_nI (by omega) (by omega)) dL_law_1041 ?_
  rw [clamp_nI (show 4 * i + 3 < 2147483648 by omega)]
  rw [e3]
  refine wr_i (runV1 (As := [.int a, .int p9, .int money]) (rest := []) ⟨hx, hb, hml, hown, hts⟩ (met1_X4_affords l dC dI cI cW M th n d r Wd ch pd yr _ a p9 money h9 _) (cwV 3 hts gL_law_X4_affords rfl rfl rfl (by decide +kernel) ⟨Nat.le_of_ble_eq_true rfl, Nat.le_of_ble_eq_true rfl⟩) hKK hP hD 4 0 rfl rfl rfl hl.1 (Nat.le_of_ble_eq_true rfl) rfl dL_law_1042 ⟨(show 40 + 4 * i + 1 + 0 ≤ 601024 by omega), (show 3000 + 100 * i + 6 + 0 ≤ 7293034 by omega)⟩) hD hS hA (fun r_2 H locs hr_2 hP hD hS => ?_)
  subst hr_2
  refine lv_istore (lv' := [(6, .int 0), (5, .int 1), (4, .int (nI (4 * i))), (0, .ref b), (1, .ref (X 0)), (2, .ref (M 0)), (3, .ref o)]) hx hb dL_law_1045 hl (by decide) rfl (fun ls hl => ?_)
  refine lv_aload_n hx hb dL_law_1047 rfl (lv_at hl 5 rfl) ?_
  refine rd_i (runV0 (As := []) (rest := []) ⟨hx, hb, hml, hown, hts⟩ (met_X4_thrown l dC dI cI cW _ _ _ _ _ _ _ _ _ _) (cwV 0 hts gL_law_X4_thrown rfl rfl rfl (by decide +kernel) ⟨Nat.le_of_ble_eq_true rfl, Nat.le_of_ble_eq_true rfl⟩) hKK (ws_left hP) 4 0 rfl rfl rfl hl.1 (Nat.le_of_ble_eq_true rfl) rfl dL_law_1048 ⟨(show 40 + 4 * i + 1 + 0 ≤ 601024 by omega), (show 3000 + 100 * i + 6 + 0 ≤ 7293034 by omega)⟩) (fun r_3 hr_3 => ?_)
  subst hr_3
  have hP := va_P_perm (law_back _ _ _ _ _ _) hP
  have hD := va_D_perm (law_back _ _ _ _ _ _) hD
  refine lv_iload hx hb dL_law_1051 (lv_at hl 1 rfl) ?_
  refine lv_icmp_eq (tgt := 1058) hx hb dL_law_1053 (by decide) (fun c_7 => ?_) (fun c_7 => ?_)
  · refine lv_iload hx hb dL_law_1058 (lv_at hl 1 rfl) ?_
    refine lv_if_ne (tgt := 1075) hx hb dL_law_1060 (by decide) (fun c_8 => ?_) (fun c_8 => ?_)
    · refine lv_goto (tgt := 1133) hx hb dL_law_1075 (by decide) ?_
      refine lv_iinc (v := (nI (4 * (i + 1)))) (lv' := [(4, .int (nI (4 * (i + 1)))), (6, .int 0), (5, .int 1), (0, .ref b), (1, .ref (X 0)), (2, .ref (M 0)), (3, .ref o)]) hx hb dL_law_1133 hl (k := 2) rfl (nI_add (4 * i) 4) (by decide) rfl (fun ls hl => ?_)
      refine lv_goto (tgt := 23) hx hb dL_law_1136 (by decide) ?_
      refine W.widen (k := 40 + 4 * (i + 1)) (n := 3000 + 100 * (i + 1)) (by omega) (by omega) ?_
      exact ih _ _ _ _ _ _ _ _ _ _ _ _ _ _ _ _ _ (hInv.mono (Nat.le_succ i)) H locs hP hD hS ls (lv_sub hl [0, 3, 4, 5, 6] rfl)
    · exact absurd c_8 (by decide)
  · exact absurd rfl c_7
