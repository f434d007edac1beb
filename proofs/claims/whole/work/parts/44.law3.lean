set_option maxHeartbeats 4000000 in
set_option maxRecDepth 100000 in
theorem pL0_lasts {p : Program} {l : Launch} {e : Env} {s : State} {m : MethodId} {below : List Frame} {meth : Method} {c : Code} {b L : Nat} {xs : Nat → Int32} {dC : Nat → ClassId} {dI : Nat → Nat → Nat} {cI cW cJ : ClassId} {t : Nat} {X Bk Br : Nat → Nat} {o : Nat} (C9 : LC p l s m c b L xs dC dI cI cW cJ t) (i : Nat) (hi9 : i < 512) (hL4 : 4 * i + 4 ≤ L) (hLm : L ≤ 2048) (ih : LOOP p l e s m below meth c b dC dI cI cW cJ X Bk Br o (i + 1)) (M : Nat → Nat) (f0 : Nat → Int64) (th : Int32) (d r : Nat → Int32) (n : Nat) (ch pd pr yr : Int32) (Wd : Nat → Nat → Int32) (n2 : Nat) (ch2 pd2 pr2 yr2 : Int32) (W2 : Nat → Nat → Int32) (hInv : Inv i d r n ch pr Wd) (H : Heap) (locs : List Loc) (hP : va_P (dC, dI) vwCl (tab cI X d r ++ (bk cW X Bk n ch pd pr yr Wd ++ (bk cW X Br n2 ch2 pd2 pr2 yr2 W2 ++ (obj X Bk Br :: (o, .inl (cJ, 1, .inr (.inl f0))) :: mw cI M th n d r Wd ch pd yr (WT d (r 0)))))) H) (hD : va_D (NEW s.heap.size) (tab cI X d r ++ (bk cW X Bk n ch pd pr yr Wd ++ (bk cW X Br n2 ch2 pd2 pr2 yr2 W2 ++ (obj X Bk Br :: (o, .inl (cJ, 1, .inr (.inl f0))) :: mw cI M th n d r Wd ch pd yr (WT d (r 0))))))) (hS : va_S (NEW s.heap.size) s.heap H locs) (ls : Array Slot) (hl : lv_has ls 9 [(4, .int (nI (4 * i))), (0, .ref b), (1, .ref (X 0)), (2, .ref (M 0)), (3, .ref o)]) : W p l e room_1 s m #[Value.ref b] below meth c H locs (40 + 4 * i) (3000 + 100 * i) (lw_Z below #[Value.ref b] s) (F0 m 972 ls []) := by
  obtain ⟨hx, hb, hml, hown, hts, hX, hbl, hKK, hKJ, hKX0, hHG0, hl0⟩ := C9
  have hA : ∀ q, s.heap.size ≤ q → NEW s.heap.size q := fun q h => h
  have hn := hInv.2.2.1
  have hok := hInv.2.2.2.1
  have hi := hInv.hi.1
  have hi0 := hInv.hi.2
  have hY := hInv.years (pd := pd) (yr := yr) (Nat.le_of_lt hi9)
  refine lv_aload_n hx hb dL_law_972 rfl (lv_at hl 2 rfl) ?_
  refine wr_iU (runV1 (As := []) (rest := []) ⟨hx, hb, hml, hown, hts⟩ (met_X3_lasts l dC dI cI cW X Bk Br d r n ch pd pr yr Wd n2 ch2 pd2 pr2 yr2 W2 ((o, .inl (cJ, 1, .inr (.inl f0))) :: (mw cI M th n d r Wd ch pd yr (WT d (r 0)))) hn hok hi hi0 _) (cwV 0 hts gL_law_X3_lasts rfl rfl rfl (by decide +kernel) ⟨Nat.le_of_ble_eq_true rfl, Nat.le_of_ble_eq_true rfl⟩) hKK hP hD 3 27 rfl cw_obj rfl hl.1 (Nat.le_of_ble_eq_true rfl) rfl dL_law_973 ⟨(show 40 + 4 * i + 0 ≤ 601024 by omega), (show 3000 + 100 * i + 0 ≤ 7293034 by omega)⟩) hD hS hA (fun u9 r_1 H locs hr_1 hP hD hS => ?_)
  subst hr_1
  try dsimp only at hP hD
  have hP := va_P_perm (law_perm _ _ _ _ _ _) hP
  have hD := va_D_perm (law_perm _ _ _ _ _ _) hD
  refine lv_aload_n hx hb dL_law_976 rfl (lv_at hl 3 rfl) ?_
  refine wr_iU (runV1 (As := []) (rest := [.int (lsR (lsS (r 0) n (ch, pd, yr, Wd)))]) ⟨hx, hb, hml, hown, hts⟩ (met_X4_lasts l dC dI cI cW M th n d r Wd ch pd yr _ hn hok hY.1 _) (cwV 0 hts gL_law_X4_lasts rfl rfl rfl (by decide +kernel) ⟨Nat.le_of_ble_eq_true rfl, Nat.le_of_ble_eq_true rfl⟩) hKK hP hD 4 0 rfl rfl rfl hl.1 (Nat.le_of_ble_eq_true rfl) rfl dL_law_977 ⟨(show 40 + 4 * i + 0 + 2 ≤ 601024 by omega), (show 3000 + 100 * i + 0 + 73 ≤ 7293034 by omega)⟩) hD hS hA (fun u r_2 H locs hr_2 hP hD hS => ?_)
  subst hr_2
  try dsimp only at hP hD
  have hP := va_P_perm (law_back _ _ _ _ _ _) hP
  have hD := va_D_perm (law_back _ _ _ _ _ _) hD
  refine lv_icmp_eq (tgt := 1133) hx hb dL_law_980 (by decide) (fun c_1 => ?_) (fun c_1 => ?_)
  · refine lv_iinc (v := (nI (4 * (i + 1)))) (lv' := [(4, .int (nI (4 * (i + 1)))), (0, .ref b), (1, .ref (X 0)), (2, .ref (M 0)), (3, .ref o)]) hx hb dL_law_1133 hl (k := 0) rfl (nI_add (4 * i) 4) (by decide) rfl (fun ls hl => ?_)
    refine lv_goto (tgt := 23) hx hb dL_law_1136 (by decide) ?_
    refine W.widen (k := 40 + 4 * (i + 1)) (n := 3000 + 100 * (i + 1)) (by omega) (by omega) ?_
    exact ih _ _ _ _ _ _ _ _ _ _ _ _ _ _ _ _ _ (hInv.mono (Nat.le_succ i)) H locs hP hD hS ls (lv_sub hl [0, 1, 2, 3, 4] rfl)
  · exact absurd rfl c_1
set_option maxHeartbeats 4000000 in
set_option maxRecDepth 100000 in
theorem pL0_even {p : Program} {l : Launch} {e : Env} {s : State} {m : MethodId} {below : List Frame} {meth : Method} {c : Code} {b L : Nat} {xs : Nat → Int32} {dC : Nat → ClassId} {dI : Nat → Nat → Nat} {cI cW cJ : ClassId} {t : Nat} {X Bk Br : Nat → Nat} {o : Nat} (C9 : LC p l s m c b L xs dC dI cI cW cJ t) (i : Nat) (hi9 : i < 512) (hL4 : 4 * i + 4 ≤ L) (hLm : L ≤ 2048) (ih : LOOP p l e s m below meth c b dC dI cI cW cJ X Bk Br o (i + 1)) (M : Nat → Nat) (f0 : Nat → Int64) (th : Int32) (d r : Nat → Int32) (n : Nat) (ch pd pr yr : Int32) (Wd : Nat → Nat → Int32) (n2 : Nat) (ch2 pd2 pr2 yr2 : Int32) (W2 : Nat → Nat → Int32) (hInv : Inv i d r n ch pr Wd) (H : Heap) (locs : List Loc) (hP : va_P (dC, dI) vwCl (tab cI X d r ++ (bk cW X Bk n ch pd pr yr Wd ++ (bk cW X Br n2 ch2 pd2 pr2 yr2 W2 ++ (obj X Bk Br :: (o, .inl (cJ, 1, .inr (.inl f0))) :: mw cI M th n d r Wd ch pd yr (WT d (r 0)))))) H) (hD : va_D (NEW s.heap.size) (tab cI X d r ++ (bk cW X Bk n ch pd pr yr Wd ++ (bk cW X Br n2 ch2 pd2 pr2 yr2 W2 ++ (obj X Bk Br :: (o, .inl (cJ, 1, .inr (.inl f0))) :: mw cI M th n d r Wd ch pd yr (WT d (r 0))))))) (hS : va_S (NEW s.heap.size) s.heap H locs) (ls : Array Slot) (hl : lv_has ls 9 [(4, .int (nI (4 * i))), (0, .ref b), (1, .ref (X 0)), (2, .ref (M 0)), (3, .ref o)]) : W p l e room_1 s m #[Value.ref b] below meth c H locs (40 + 4 * i) (3000 + 100 * i) (lw_Z below #[Value.ref b] s) (F0 m 985 ls []) := by
  obtain ⟨hx, hb, hml, hown, hts, hX, hbl, hKK, hKJ, hKX0, hHG0, hl0⟩ := C9
  have hA : ∀ q, s.heap.size ≤ q → NEW s.heap.size q := fun q h => h
  have hn := hInv.2.2.1
  have hok := hInv.2.2.2.1
  have hi := hInv.hi.1
  have hi0 := hInv.hi.2
  have hm := hInv.evn
  refine lv_aload_n hx hb dL_law_985 rfl (lv_at hl 2 rfl) ?_
  refine rd_i (runV0 (As := []) (rest := []) ⟨hx, hb, hml, hown, hts⟩ (met_X3_even l dC dI cI cW X Bk Br d r n ch pd pr yr Wd n2 ch2 pd2 pr2 yr2 W2 ((o, .inl (cJ, 1, .inr (.inl f0))) :: (mw cI M th n d r Wd ch pd yr (WT d (r 0)))) hn hok hm) (cwV 0 hts gL_law_X3_even rfl rfl rfl (by decide +kernel) ⟨Nat.le_of_ble_eq_true rfl, Nat.le_of_ble_eq_true rfl⟩) hKK hP 3 27 rfl cw_obj rfl hl.1 (Nat.le_of_ble_eq_true rfl) rfl dL_law_986 ⟨(show 40 + 4 * i ≤ 601024 by omega), (show 3000 + 100 * i ≤ 7293034 by omega)⟩) (fun r_1 hr_1 => ?_)
  subst hr_1
  have hP := va_P_perm (law_perm _ _ _ _ _ _) hP
  have hD := va_D_perm (law_perm _ _ _ _ _ _) hD
  refine lv_aload_n hx hb dL_law_989 rfl (lv_at hl 3 rfl) ?_
  refine wr_i (runVH (As := []) (rest := [.int (evR (evS d n ch Wd))]) ⟨hx, hb, hml, hown, hts⟩ (met_X4_even l dC dI cI cW t M th n d r Wd ch pd yr _ hn hok hInv.r0 _) (cwV 0 hts gL_law_X4_even rfl rfl rfl (by decide +kernel) ⟨Nat.le_of_ble_eq_true rfl, Nat.le_of_ble_eq_true rfl⟩) hKK (hHG0.here hD hS) hP hD 4 0 rfl rfl rfl hl.1 (Nat.le_of_ble_eq_true rfl) rfl dL_law_990 ⟨(show 40 + 4 * i + 0 ≤ 601024 by omega), (show 3000 + 100 * i + 0 ≤ 7293034 by omega)⟩) hD hS hA (fun r_2 H locs hr_2 hP hD hS => ?_)
  subst hr_2
  have hP := va_P_perm (law_back _ _ _ _ _ _) hP
  have hD := va_D_perm (law_back _ _ _ _ _ _) hD
  refine lv_icmp_eq (tgt := 1133) hx hb dL_law_993 (by decide) (fun c_1 => ?_) (fun c_1 => ?_)
  · refine lv_iinc (v := (nI (4 * (i + 1)))) (lv' := [(4, .int (nI (4 * (i + 1)))), (0, .ref b), (1, .ref (X 0)), (2, .ref (M 0)), (3, .ref o)]) hx hb dL_law_1133 hl (k := 0) rfl (nI_add (4 * i) 4) (by decide) rfl (fun ls hl => ?_)
    refine lv_goto (tgt := 23) hx hb dL_law_1136 (by decide) ?_
    refine W.widen (k := 40 + 4 * (i + 1)) (n := 3000 + 100 * (i + 1)) (by omega) (by omega) ?_
    exact ih _ _ _ _ _ _ _ _ _ _ _ _ _ _ _ _ _ (hInv.mono (Nat.le_succ i)) H locs hP hD hS ls (lv_sub hl [0, 1, 2, 3, 4] rfl)
  · exact absurd rfl c_1
set_option maxHeartbeats 4000000 in
set_option maxRecDepth 100000 in
theorem pL0_mean {p : Program} {l : Launch} {e : Env} {s : State} {m : MethodId} {below : List Frame} {meth : Method} {c : Code} {b L : Nat} {xs : Nat → Int32} {dC : Nat → ClassId} {dI : Nat → Nat → Nat} {cI cW cJ : ClassId} {t : Nat} {X Bk Br : Nat → Nat} {o : Nat} (C9 : LC p l s m c b L xs dC dI cI cW cJ t) (i : Nat) (hi9 : i < 512) (hL4 : 4 * i + 4 ≤ L) (hLm : L ≤ 2048) (ih : LOOP p l e s m below meth c b dC dI cI cW cJ X Bk Br o (i + 1)) (M : Nat → Nat) (f0 : Nat → Int64) (th : Int32) (d r : Nat → Int32) (n : Nat) (ch pd pr yr : Int32) (Wd : Nat → Nat → Int32) (n2 : Nat) (ch2 pd2 pr2 yr2 : Int32) (W2 : Nat → Nat → Int32) (hInv : Inv i d r n ch pr Wd) (H : Heap) (locs : List Loc) (hP : va_P (dC, dI) vwCl (tab cI X d r ++ (bk cW X Bk n ch pd pr yr Wd ++ (bk cW X Br n2 ch2 pd2 pr2 yr2 W2 ++ (obj X Bk Br :: (o, .inl (cJ, 1, .inr (.inl f0))) :: mw cI M th n d r Wd ch pd yr (WT d (r 0)))))) H) (hD : va_D (NEW s.heap.size) (tab cI X d r ++ (bk cW X Bk n ch pd pr yr Wd ++ (bk cW X Br n2 ch2 pd2 pr2 yr2 W2 ++ (obj X Bk Br :: (o, .inl (cJ, 1, .inr (.inl f0))) :: mw cI M th n d r Wd ch pd yr (WT d (r 0))))))) (hS : va_S (NEW s.heap.size) s.heap H locs) (ls : Array Slot) (hl : lv_has ls 9 [(4, .int (nI (4 * i))), (0, .ref b), (1, .ref (X 0)), (2, .ref (M 0)), (3, .ref o)]) : W p l e room_1 s m #[Value.ref b] below meth c H locs (40 + 4 * i) (3000 + 100 * i) (lw_Z below #[Value.ref b] s) (F0 m 1078 ls []) := by
  obtain ⟨hx, hb, hml, hown, hts, hX, hbl, hKK, hKJ, hKX0, hHG0, hl0⟩ := C9
  have hA : ∀ q, s.heap.size ≤ q → NEW s.heap.size q := fun q h => h
  have hn := hInv.2.2.1
  have hok := hInv.2.2.2.1
  have hi := hInv.hi.1
  have hi0 := hInv.hi.2
  refine lv_aload_n hx hb dL_law_1078 rfl (lv_at hl 2 rfl) ?_
  refine rd_d (runV0 (As := []) (rest := []) ⟨hx, hb, hml, hown, hts⟩ (met_X3_mean l dC dI cI cW X Bk Br d r n ch pd pr yr Wd n2 ch2 pd2 pr2 yr2 W2 ((o, .inl (cJ, 1, .inr (.inl f0))) :: (mw cI M th n d r Wd ch pd yr (WT d (r 0)))) hn hok) (cwV 0 hts gL_law_X3_mean rfl rfl rfl (by decide +kernel) ⟨Nat.le_of_ble_eq_true rfl, Nat.le_of_ble_eq_true rfl⟩) hKK hP 3 27 rfl cw_obj rfl hl.1 (Nat.le_of_ble_eq_true rfl) rfl dL_law_1079 ⟨(show 40 + 4 * i ≤ 601024 by omega), (show 3000 + 100 * i ≤ 7293034 by omega)⟩) (fun r_1 hr_1 => ?_)
  subst hr_1
  have hP := va_P_perm (law_perm _ _ _ _ _ _) hP
  have hD := va_D_perm (law_perm _ _ _ _ _ _) hD
  refine lv_dstore (lv' := [(5, .double (meanS n Wd)), (4, .int (nI (4 * i))), (0, .ref b), (1, .ref (X 0)), (2, .ref (M 0)), (3, .ref o)]) hx hb dL_law_1082 hl (by decide) rfl (fun ls hl => ?_)
  refine lv_aload_n hx hb dL_law_1084 rfl (lv_at hl 4 rfl) ?_
  refine wr_d1 (runV1 (As := []) (rest := []) ⟨hx, hb, hml, hown, hts⟩ (met_X4_mean l dC dI cI cW M th n d r Wd ch pd yr _ hn hok _) (cwV 0 hts gL_law_X4_mean rfl rfl rfl (by decide +kernel) ⟨Nat.le_of_ble_eq_true rfl, Nat.le_of_ble_eq_true rfl⟩) hKK hP hD 4 0 rfl rfl rfl hl.1 (Nat.le_of_ble_eq_true rfl) rfl dL_law_1085 ⟨(show 40 + 4 * i + 0 ≤ 601024 by omega), (show 3000 + 100 * i + 0 ≤ 7293034 by omega)⟩) hD hS hA (fun r_2 H locs hr_2 hP hD hS => ?_)
  subst hr_2
  have hP := va_P_perm (law_back _ _ _ _ _ _) hP
  have hD := va_D_perm (law_back _ _ _ _ _ _) hD
  refine lv_dstore (lv' := [(7, .double (meanS n Wd)), (5, .double (meanS n Wd)), (4, .int (nI (4 * i))), (0, .ref b), (1, .ref (X 0)), (2, .ref (M 0)), (3, .ref o)]) hx hb dL_law_1088 hl (by decide) rfl (fun ls hl => ?_)
  refine lv_dload hx hb dL_law_1090 (lv_at hl 1 rfl) ?_
  refine lv_dload hx hb dL_law_1092 (lv_at hl 0 rfl) ?_
  refine lv_dcmp hx hb dL_law_1094 ?_
  refine lv_if_eq (tgt := 1116) hx hb dL_law_1095 (by decide) (fun c_1 => ?_) (fun c_1 => ?_)
  · refine lv_goto (tgt := 1133) hx hb dL_law_1116 (by decide) ?_
    refine lv_iinc (v := (nI (4 * (i + 1)))) (lv' := [(4, .int (nI (4 * (i + 1)))), (7, .double (meanS n Wd)), (5, .double (meanS n Wd)), (0, .ref b), (1, .ref (X 0)), (2, .ref (M 0)), (3, .ref o)]) hx hb dL_law_1133 hl (k := 2) rfl (nI_add (4 * i) 4) (by decide) rfl (fun ls hl => ?_)
    refine lv_goto (tgt := 23) hx hb dL_law_1136 (by decide) ?_
    refine W.widen (k := 40 + 4 * (i + 1)) (n := 3000 + 100 * (i + 1)) (by omega) (by omega) ?_
    exact ih _ _ _ _ _ _ _ _ _ _ _ _ _ _ _ _ _ (hInv.mono (Nat.le_succ i)) H locs hP hD hS ls (lv_sub hl [0, 3, 4, 5, 6] rfl)
  · refine lv_dload hx hb dL_law_1098 (lv_at hl 1 rfl) ?_
    refine lv_dload hx hb dL_law_1100 (lv_at hl 1 rfl) ?_
    refine lv_dcmp hx hb dL_law_1102 ?_
    refine lv_if_eq (tgt := 1114) hx hb dL_law_1103 (by decide) (fun c_2 => ?_) (fun c_2 => ?_)
    · exact (c_1 c_2).elim
    · refine lv_dload hx hb dL_law_1106 (lv_at hl 0 rfl) ?_
      refine lv_dload hx hb dL_law_1108 (lv_at hl 0 rfl) ?_
      refine lv_dcmp hx hb dL_law_1110 ?_
      refine lv_if_ne (tgt := 1116) hx hb dL_law_1111 (by decide) (fun c_3 => ?_) (fun c_3 => ?_)
      · refine lv_goto (tgt := 1133) hx hb dL_law_1116 (by decide) ?_
        refine lv_iinc (v := (nI (4 * (i + 1)))) (lv' := [(4, .int (nI (4 * (i + 1)))), (7, .double (meanS n Wd)), (5, .double (meanS n Wd)), (0, .ref b), (1, .ref (X 0)), (2, .ref (M 0)), (3, .ref o)]) hx hb dL_law_1133 hl (k := 2) rfl (nI_add (4 * i) 4) (by decide) rfl (fun ls hl => ?_)
        refine lv_goto (tgt := 23) hx hb dL_law_1136 (by decide) ?_
        refine W.widen (k := 40 + 4 * (i + 1)) (n := 3000 + 100 * (i + 1)) (by omega) (by omega) ?_
        exact ih _ _ _ _ _ _ _ _ _ _ _ _ _ _ _ _ _ (hInv.mono (Nat.le_succ i)) H locs hP hD hS ls (lv_sub hl [0, 3, 4, 5, 6] rfl)
      · exact (c_1 c_3).elim
set_option maxHeartbeats 4000000 in
set_option maxRecDepth 100000 in
theorem pL0_digest {p : Program} {l : Launch} {e : Env} {s : State} {m : MethodId} {below : List Frame} {meth : Method} {c : Code} {b L : Nat} {xs : Nat → Int32} {dC : Nat → ClassId} {dI : Nat → Nat → Nat} {cI cW cJ : ClassId} {t : Nat} {X Bk Br : Nat → Nat} {o : Nat} (C9 : LC p l s m c b L xs dC dI cI cW cJ t) (i : Nat) (hi9 : i < 512) (hL4 : 4 * i + 4 ≤ L) (hLm : L ≤ 2048) (ih : LOOP p l e s m below meth c b dC dI cI cW cJ X Bk Br o (i + 1)) (M : Nat → Nat) (f0 : Nat → Int64) (th : Int32) (d r : Nat → Int32) (n : Nat) (ch pd pr yr : Int32) (Wd : Nat → Nat → Int32) (n2 : Nat) (ch2 pd2 pr2 yr2 : Int32) (W2 : Nat → Nat → Int32) (hInv : Inv i d r n ch pr Wd) (H : Heap) (locs : List Loc) (hP : va_P (dC, dI) vwCl (tab cI X d r ++ (bk cW X Bk n ch pd pr yr Wd ++ (bk cW X Br n2 ch2 pd2 pr2 yr2 W2 ++ (obj X Bk Br :: (o, .inl (cJ, 1, .inr (.inl f0))) :: mw cI M th n d r Wd ch pd yr (WT d (r 0)))))) H) (hD : va_D (NEW s.heap.size) (tab cI X d r ++ (bk cW X Bk n ch pd pr yr Wd ++ (bk cW X Br n2 ch2 pd2 pr2 yr2 W2 ++ (obj X Bk Br :: (o, .inl (cJ, 1, .inr (.inl f0))) :: mw cI M th n d r Wd ch pd yr (WT d (r 0))))))) (hS : va_S (NEW s.heap.size) s.heap H locs) (ls : Array Slot) (hl : lv_has ls 9 [(4, .int (nI (4 * i))), (0, .ref b), (1, .ref (X 0)), (2, .ref (M 0)), (3, .ref o)]) : W p l e room_1 s m #[Value.ref b] below meth c H locs (40 + 4 * i) (3000 + 100 * i) (lw_Z below #[Value.ref b] s) (F0 m 1119 ls []) := by
  obtain ⟨hx, hb, hml, hown, hts, hX, hbl, hKK, hKJ, hKX0, hHG0, hl0⟩ := C9
  have hA : ∀ q, s.heap.size ≤ q → NEW s.heap.size q := fun q h => h
  have hn := hInv.2.2.1
  have hok := hInv.2.2.2.1
  have hi := hInv.hi.1
  have hi0 := hInv.hi.2
  refine lv_aload_n hx hb dL_law_1119 rfl (lv_at hl 2 rfl) ?_
  refine rd_l (runV0 (As := []) (rest := []) ⟨hx, hb, hml, hown, hts⟩ (met_X3_digest l dC dI cI cW X Bk Br d r n ch pd pr yr Wd n2 ch2 pd2 pr2 yr2 W2 ((o, .inl (cJ, 1, .inr (.inl f0))) :: (mw cI M th n d r Wd ch pd yr (WT d (r 0)))) hn hok hi hi0) (cwV 0 hts gL_law_X3_digest rfl rfl rfl (by decide +kernel) ⟨Nat.le_of_ble_eq_true rfl, Nat.le_of_ble_eq_true rfl⟩) hKK hP 3 27 rfl cw_obj rfl hl.1 (Nat.le_of_ble_eq_true rfl) rfl dL_law_1120 ⟨(show 40 + 4 * i ≤ 601024 by omega), (show 3000 + 100 * i ≤ 7293034 by omega)⟩) (fun r_1 hr_1 => ?_)
  subst hr_1
  have hP := va_P_perm (law_perm _ _ _ _ _ _) hP
  have hD := va_D_perm (law_perm _ _ _ _ _ _) hD
  refine lv_aload_n hx hb dL_law_1123 rfl (lv_at hl 3 rfl) ?_
  refine wr_l1 (runV1 (As := []) (rest := [.long (digO d r Wd (digF d (digF r (digF (fun k => countS d r n ch pd pr yr Wd k) 1667 9) 3) 50) n)]) ⟨hx, hb, hml, hown, hts⟩ (met_X4_digest l dC dI cI cW M th n d r Wd ch pd yr _ hn hok _) (cwV 0 hts gL_law_X4_digest rfl rfl rfl (by decide +kernel) ⟨Nat.le_of_ble_eq_true rfl, Nat.le_of_ble_eq_true rfl⟩) hKK hP hD 4 0 rfl rfl rfl hl.1 (Nat.le_of_ble_eq_true rfl) rfl dL_law_1124 ⟨(show 40 + 4 * i + 0 ≤ 601024 by omega), (show 3000 + 100 * i + 0 ≤ 7293034 by omega)⟩) hD hS hA (fun r_2 H locs hr_2 hP hD hS => ?_)
  subst hr_2
  have hP := va_P_perm (law_back _ _ _ _ _ _) hP
  have hD := va_D_perm (law_back _ _ _ _ _ _) hD
  rw [show (digO d r Wd (digF d (digF r (digF (fun k => countS d r n ch pd (sm (prcF Wd) n) yr Wd k) 1667 9) 3) 50) n : Int64) = digO d r Wd (digF d (digF r (digF (fun k => countS d r n ch pd pr yr Wd k) 1667 9) 3) 50) n from by rw [← hInv.2.2.2.2.1]]
  refine lv_lcmpS hx hb dL_law_1127 ?_
  refine lv_if_eq (tgt := 1133) hx hb dL_law_1128 (by decide) (fun c_2 => ?_) (fun c_2 => ?_)
  · refine lv_iinc (v := (nI (4 * (i + 1)))) (lv' := [(4, .int (nI (4 * (i + 1)))), (0, .ref b), (1, .ref (X 0)), (2, .ref (M 0)), (3, .ref o)]) hx hb dL_law_1133 hl (k := 0) rfl (nI_add (4 * i) 4) (by decide) rfl (fun ls hl => ?_)
    refine lv_goto (tgt := 23) hx hb dL_law_1136 (by decide) ?_
    refine W.widen (k := 40 + 4 * (i + 1)) (n := 3000 + 100 * (i + 1)) (by omega) (by omega) ?_
    exact ih _ _ _ _ _ _ _ _ _ _ _ _ _ _ _ _ _ (hInv.mono (Nat.le_succ i)) H locs hP hD hS ls (lv_sub hl [0, 1, 2, 3, 4] rfl)
  · exact absurd rfl c_2
