set_option maxHeartbeats 4000000 in
set_option maxRecDepth 100000 in
theorem met_X3_price (l : Launch) (dC : Nat → ClassId) (dI : Nat → Nat → Nat) (cI cW : ClassId) (X Bk Br : Nat → Nat) (d r : Nat → Int32) (n : Nat) (ch pd pr yr : Int32) (Wd : Nat → Nat → Int32) (n2 : Nat) (ch2 pd2 pr2 yr2 : Int32) (W2 : Nat → Nat → Int32) (R : va_W) (ka : Nat) (x : Int32) (kb : Nat) (h1 : 50 ≤ ka) (h2 : ka ≤ 99) (hx9 : 1 ≤ x ∧ x ≤ 999) (h3 : kb ≤ 30) (hi : ¬ (1000 : Int32) + r 0 = 0) (hi0 : ¬ r 0 < 0) : Met l yX3_price wsX3_price ({ frames := 7, cells := 0, slots := 0, locals := 110 }) (Pre0 dC dI cI cW [.ref (X 0), .int (nI ka), .int x, .int (nI kb)] (tab cI X d r ++ (bk cW X Bk n ch pd pr yr Wd ++ (bk cW X Br n2 ch2 pd2 pr2 yr2 W2 ++ (obj X Bk Br :: R))))) (vp_Si (fun z => z = priceS (r 1) x (wN d (r 0) (100 - ka) kb))) 0 0 (fun _ => False) := by
  refine Met.ofW (cc := cX3_price) (maxL := 4) (ret := (some .int)) (by decide) rfl ?_
  intro p e s m args below meth c s₁ B hml hv
  obtain ⟨rfl, hP, hKK⟩ := hv
  have hx := B.exec
  have hb := B.bytes
  have hr := B.returns
  have hts := atoms_spec (ws := wsX3_price) B.pre
  have hown : s.vm.findClass RX3 = some m.cls := findClass_of_methodNamed B.named
  have hlocks := B.notSynchronized
  have hl := lv_entry ([.ref (X 0), .int (nI ka), .int x, .int (nI kb)]) (n := 4) (Nat.le_of_ble_eq_true rfl)
  rw [lg_entry_eq]
  generalize (lg_sl ([.ref (X 0), .int (nI ka), .int x, .int (nI kb)]) ++ List.replicate (4 - (lg_sl ([.ref (X 0), .int (nI ka), .int x, .int (nI kb)])).length) Slot.unset).toArray = ls at hl ⊢
  have hl : lv_has ls 4 [(0, .ref (X 0)), (1, .int (nI ka)), (2, .int x), (3, .int (nI kb))] := hl
  refine lv_iload_n hx hb dX3_price_0 rfl (lv_at hl 1 rfl) ?_
  refine rd_v (runS0 (As := [.int (nI ka)]) (rest := []) ⟨hx, hb, hml, hown, hts⟩ (met_X3_checkAge l dC dI cI cW  (nI ka) (age_in h1 h2)) (va_cwS 1 hts gX3_price_X3_checkAge rfl rfl rfl (by decide +kernel) ⟨Nat.le_of_ble_eq_true rfl, Nat.le_of_ble_eq_true rfl⟩) hKK nilP rfl hl.1 (Nat.le_of_ble_eq_true rfl) rfl dX3_price_1 ⟨Nat.zero_le _, Nat.zero_le _⟩) ?_
  refine lv_iload_n hx hb dX3_price_4 rfl (lv_at hl 2 rfl) ?_
  refine rd_v (runS0 (As := [.int x]) (rest := []) ⟨hx, hb, hml, hown, hts⟩ (met_X3_checkSum l dC dI cI cW  x hx9) (va_cwS 1 hts gX3_price_X3_checkSum rfl rfl rfl (by decide +kernel) ⟨Nat.le_of_ble_eq_true rfl, Nat.le_of_ble_eq_true rfl⟩) hKK nilP rfl hl.1 (Nat.le_of_ble_eq_true rfl) rfl dX3_price_5 ⟨Nat.zero_le _, Nat.zero_le _⟩) ?_
  refine lv_iload_n hx hb dX3_price_8 rfl (lv_at hl 3 rfl) ?_
  refine rd_v (runS0 (As := [.int (nI kb)]) (rest := []) ⟨hx, hb, hml, hown, hts⟩ (met_X3_checkPutOff l dC dI cI cW  (nI kb) (put_in h3)) (va_cwS 1 hts gX3_price_X3_checkPutOff rfl rfl rfl (by decide +kernel) ⟨Nat.le_of_ble_eq_true rfl, Nat.le_of_ble_eq_true rfl⟩) hKK nilP rfl hl.1 (Nat.le_of_ble_eq_true rfl) rfl dX3_price_9 ⟨Nat.zero_le _, Nat.zero_le _⟩) ?_
  refine lv_aload_n hx hb dX3_price_12 rfl (lv_at hl 0 rfl) ?_
  refine va_get (D := (dC, dI)) (ci := 3) (v := .ref (X 1)) (C := RX3) (T := TX3) (N := 3) hx hb hts (by decide +kernel) hown hKK.1 hP 27 cw_obj rfl 0 (by decide) (hts (.fieldLink RX3 12 "WidowPennies" "tables" "LWidowPennies$Tables;") (by decide +kernel)) (fun _ h9 => h9) rfl dX3_price_13 ?_
  refine lv_iload_n hx hb dX3_price_16 rfl (lv_at hl 2 rfl) ?_
  refine lv_aload_n hx hb dX3_price_17 rfl (lv_at hl 0 rfl) ?_
  refine va_get (D := (dC, dI)) (ci := 3) (v := .ref (X 1)) (C := RX3) (T := TX3) (N := 3) hx hb hts (by decide +kernel) hown hKK.1 hP 27 cw_obj rfl 0 (by decide) (hts (.fieldLink RX3 12 "WidowPennies" "tables" "LWidowPennies$Tables;") (by decide +kernel)) (fun _ h9 => h9) rfl dX3_price_18 ?_
  refine lv_iload_n hx hb dX3_price_21 rfl (lv_at hl 1 rfl) ?_
  refine lv_iload_n hx hb dX3_price_22 rfl (lv_at hl 3 rfl) ?_
  refine rd_i (runV0 (As := [.int (nI ka), .int (nI kb)]) (rest := [.int x, .ref (X 1)]) ⟨hx, hb, hml, hown, hts⟩ (met_X1_worthNow l dC dI cI cW X d r ka kb h1 h2 h3 hi hi0) (cwV 2 hts gX3_price_X1_worthNow rfl rfl rfl (by decide +kernel) ⟨Nat.le_of_ble_eq_true rfl, Nat.le_of_ble_eq_true rfl⟩) hKK (ws_left hP) 1 0 rfl rfl rfl hl.1 (Nat.le_of_ble_eq_true rfl) rfl dX3_price_23 ⟨Nat.zero_le _, Nat.zero_le _⟩) (fun r_4 hr_4 => ?_)
  subst hr_4
  refine rd_i (runV0 (As := [.int x, .int (wN d (r 0) (100 - ka) kb)]) (rest := []) ⟨hx, hb, hml, hown, hts⟩ (met_X1_priceOf l dC dI cI cW X d r x (wN d (r 0) (100 - ka) kb)) (cwV 2 hts gX3_price_X1_priceOf rfl rfl rfl (by decide +kernel) ⟨Nat.le_of_ble_eq_true rfl, Nat.le_of_ble_eq_true rfl⟩) hKK (ws_left hP) 1 0 rfl rfl rfl hl.1 (Nat.le_of_ble_eq_true rfl) rfl dX3_price_26 ⟨Nat.zero_le _, Nat.zero_le _⟩) (fun r_5 hr_5 => ?_)
  subst hr_5
  have hz : (priceS (r 1) x (wN d (r 0) (100 - ka) kb)) = priceS (r 1) x (wN d (r 0) (100 - ka) kb) := rfl
  exact W.iret (v := (priceS (r 1) x (wN d (r 0) (100 - ka) kb))) hx hb hr (fun t ht hW => ⟨_, rfl, hz, ht⟩) (fun q hq => absurd hq List.not_mem_nil) dX3_price_29
set_option maxHeartbeats 4000000 in
set_option maxRecDepth 100000 in
theorem met_X3_told (l : Launch) (dC : Nat → ClassId) (dI : Nat → Nat → Nat) (cI cW : ClassId) (X Bk Br : Nat → Nat) (d r : Nat → Int32) (n : Nat) (ch pd pr yr : Int32) (Wd : Nat → Nat → Int32) (n2 : Nat) (ch2 pd2 pr2 yr2 : Int32) (W2 : Nat → Nat → Int32) (R : va_W) (hn : n ≤ 10) (hok : ∀ k, k < n → okW (Wd k)) (k f : Nat) (hk : k < n) (hf : f < 9) (hi : ¬ (1000 : Int32) + r 0 = 0) (hi0 : ¬ r 0 < 0) : Met l yX3_told wsX3_told ({ frames := 7, cells := 0, slots := 0, locals := 155 }) (Pre0 dC dI cI cW [.ref (X 0), .int (nI k), .int (nI f)] (tab cI X d r ++ (bk cW X Bk n ch pd pr yr Wd ++ (bk cW X Br n2 ch2 pd2 pr2 yr2 W2 ++ (obj X Bk Br :: R))))) (vp_Si (fun z => z = tellS d r (Wd k) f)) 0 0 (fun _ => False) := by
  refine Met.ofW (cc := cX3_told) (maxL := 3) (ret := (some .int)) (by decide) rfl ?_
  intro p e s m args below meth c s₁ B hml hv
  obtain ⟨rfl, hP, hKK⟩ := hv
  have hx := B.exec
  have hb := B.bytes
  have hr := B.returns
  have hts := atoms_spec (ws := wsX3_told) B.pre
  have hown : s.vm.findClass RX3 = some m.cls := findClass_of_methodNamed B.named
  have hlocks := B.notSynchronized
  have hl := lv_entry ([.ref (X 0), .int (nI k), .int (nI f)]) (n := 3) (Nat.le_of_ble_eq_true rfl)
  rw [lg_entry_eq]
  generalize (lg_sl ([.ref (X 0), .int (nI k), .int (nI f)]) ++ List.replicate (3 - (lg_sl ([.ref (X 0), .int (nI k), .int (nI f)])).length) Slot.unset).toArray = ls at hl ⊢
  have hl : lv_has ls 3 [(0, .ref (X 0)), (1, .int (nI k)), (2, .int (nI f))] := hl
  refine lv_aload_n hx hb dX3_told_0 rfl (lv_at hl 0 rfl) ?_
  refine lv_iload_n hx hb dX3_told_1 rfl (lv_at hl 1 rfl) ?_
  refine rd_v (runV0 (As := [.int (nI k)]) (rest := []) ⟨hx, hb, hml, hown, hts⟩ (met_X3_checkWidow l dC dI cI cW X Bk Br d r n ch pd pr yr Wd n2 ch2 pd2 pr2 yr2 W2 R (nI k) (wid_in hk hn)) (cwV 1 hts gX3_told_X3_checkWidow rfl rfl rfl (by decide +kernel) ⟨Nat.le_of_ble_eq_true rfl, Nat.le_of_ble_eq_true rfl⟩) hKK hP 3 27 rfl cw_obj rfl hl.1 (Nat.le_of_ble_eq_true rfl) rfl dX3_told_2 ⟨Nat.zero_le _, Nat.zero_le _⟩) ?_
  refine lv_iload_n hx hb dX3_told_5 rfl (lv_at hl 2 rfl) ?_
  refine lv_if_lt (tgt := 15) hx hb dX3_told_6 (by decide) (fun c_2 => ?_) (fun c_2 => ?_)
  · exact absurd c_2 (nI_pos (by omega))
  · refine lv_iload_n hx hb dX3_told_9 rfl (lv_at hl 2 rfl) ?_
    refine lv_bipush (v := 9) hx hb dX3_told_10 (by decide) ?_
    refine lv_icmp_lt (tgt := 25) hx hb dX3_told_12 (by decide) (fun c_3 => ?_) (fun c_3 => ?_)
    · refine lv_aload_n hx hb dX3_told_25 rfl (lv_at hl 0 rfl) ?_
      refine va_get (D := (dC, dI)) (ci := 3) (v := .ref (X 1)) (C := RX3) (T := TX3) (N := 3) hx hb hts (by decide +kernel) hown hKK.1 hP 27 cw_obj rfl 0 (by decide) (hts (.fieldLink RX3 12 "WidowPennies" "tables" "LWidowPennies$Tables;") (by decide +kernel)) (fun _ h9 => h9) rfl dX3_told_26 ?_
      refine lv_aload_n hx hb dX3_told_29 rfl (lv_at hl 0 rfl) ?_
      refine va_get (D := (dC, dI)) (ci := 3) (v := .ref (Bk 0)) (C := RX3) (T := TX3) (N := 3) hx hb hts (by decide +kernel) hown hKK.1 hP 27 cw_obj rfl 1 (by decide) (hts (.fieldLink RX3 21 "WidowPennies" "book" "LWidowPennies$Book;") (by decide +kernel)) (fun _ h9 => h9) rfl dX3_told_30 ?_
      refine lv_iload_n hx hb dX3_told_33 rfl (lv_at hl 1 rfl) ?_
      have hk10 : k < 10 := by omega
      refine rd_r (runV0 (As := [.int (nI k)]) (rest := [.ref (X 1)]) ⟨hx, hb, hml, hown, hts⟩ (met_X0_widowAt l dC dI cI cW X Bk n ch pd pr yr Wd k (show k < 10 by omega)) (cwV 1 hts gX3_told_X0_widowAt rfl rfl rfl (by decide +kernel) ⟨Nat.le_of_ble_eq_true rfl, Nat.le_of_ble_eq_true rfl⟩) hKK (ws_left (ws_right hP)) 0 0 rfl rfl rfl hl.1 (Nat.le_of_ble_eq_true rfl) rfl dX3_told_34 ⟨Nat.zero_le _, Nat.zero_le _⟩) (fun r_4 hr_4 => ?_)
      subst hr_4
      refine lv_iload_n hx hb dX3_told_37 rfl (lv_at hl 2 rfl) ?_
      refine rd_i (runV0 (As := [.ref (Bk (k + 2)), .int (nI f)]) (rest := []) ⟨hx, hb, hml, hown, hts⟩ (met_X1_tellOf l dC dI cI cW X d r (Bk (k + 2)) (Wd k) (hok k hk) hi hi0 f hf) (cwV 2 hts gX3_told_X1_tellOf rfl rfl rfl (by decide +kernel) ⟨Nat.le_of_ble_eq_true rfl, Nat.le_of_ble_eq_true rfl⟩) hKK ((ws_left hP).app (ws_one hP (bw_at hk10))) 1 0 rfl rfl rfl hl.1 (Nat.le_of_ble_eq_true rfl) rfl dX3_told_38 ⟨Nat.zero_le _, Nat.zero_le _⟩) (fun r_5 hr_5 => ?_)
      subst hr_5
      have hz : (tellS d r (Wd k) f) = tellS d r (Wd k) f := rfl
      exact W.iret (v := (tellS d r (Wd k) f)) hx hb hr (fun t ht hW => ⟨_, rfl, hz, ht⟩) (fun q hq => absurd hq List.not_mem_nil) dX3_told_41
    · exact absurd ((lt_nI (b := 9) (by omega)).mpr hf) c_3
set_option maxHeartbeats 4000000 in
set_option maxRecDepth 100000 in
theorem met_X3_count (l : Launch) (dC : Nat → ClassId) (dI : Nat → Nat → Nat) (cI cW : ClassId) (X Bk Br : Nat → Nat) (d r : Nat → Int32) (n : Nat) (ch pd pr yr : Int32) (Wd : Nat → Nat → Int32) (n2 : Nat) (ch2 pd2 pr2 yr2 : Int32) (W2 : Nat → Nat → Int32) (R : va_W) (hn : n ≤ 10) (hok : ∀ k, k < n → okW (Wd k)) (k : Nat) (hk : k < 9) (hi : ¬ (1000 : Int32) + r 0 = 0) (hi0 : ¬ r 0 < 0) : Met l yX3_count wsX3_count ({ frames := 6, cells := 0, slots := 0, locals := 134 }) (Pre0 dC dI cI cW [.ref (X 0), .int (nI k)] (tab cI X d r ++ (bk cW X Bk n ch pd pr yr Wd ++ (bk cW X Br n2 ch2 pd2 pr2 yr2 W2 ++ (obj X Bk Br :: R))))) (vp_Si (fun z => z = countS d r n ch pd pr yr Wd k)) 0 0 (fun _ => False) := by
  refine Met.ofW (cc := cX3_count) (maxL := 2) (ret := (some .int)) (by decide) rfl ?_
  intro p e s m args below meth c s₁ B hml hv
  obtain ⟨rfl, hP, hKK⟩ := hv
  have hx := B.exec
  have hb := B.bytes
  have hr := B.returns
  have hts := atoms_spec (ws := wsX3_count) B.pre
  have hown : s.vm.findClass RX3 = some m.cls := findClass_of_methodNamed B.named
  have hlocks := B.notSynchronized
  have hl := lv_entry ([.ref (X 0), .int (nI k)]) (n := 2) (Nat.le_of_ble_eq_true rfl)
  rw [lg_entry_eq]
  generalize (lg_sl ([.ref (X 0), .int (nI k)]) ++ List.replicate (2 - (lg_sl ([.ref (X 0), .int (nI k)])).length) Slot.unset).toArray = ls at hl ⊢
  have hl : lv_has ls 2 [(0, .ref (X 0)), (1, .int (nI k))] := hl
  refine lv_iload_n hx hb dX3_count_0 rfl (lv_at hl 1 rfl) ?_
  refine lv_if_lt (tgt := 10) hx hb dX3_count_1 (by decide) (fun c_1 => ?_) (fun c_1 => ?_)
  · exact absurd c_1 (nI_pos (by omega))
  · refine lv_iload_n hx hb dX3_count_4 rfl (lv_at hl 1 rfl) ?_
    refine lv_bipush (v := 9) hx hb dX3_count_5 (by decide) ?_
    refine lv_icmp_lt (tgt := 20) hx hb dX3_count_7 (by decide) (fun c_2 => ?_) (fun c_2 => ?_)
    · refine lv_aload_n hx hb dX3_count_20 rfl (lv_at hl 0 rfl) ?_
      refine va_get (D := (dC, dI)) (ci := 3) (v := .ref (Bk 0)) (C := RX3) (T := TX3) (N := 3) hx hb hts (by decide +kernel) hown hKK.1 hP 27 cw_obj rfl 1 (by decide) (hts (.fieldLink RX3 21 "WidowPennies" "book" "LWidowPennies$Book;") (by decide +kernel)) (fun _ h9 => h9) rfl dX3_count_21 ?_
      refine lv_iload_n hx hb dX3_count_24 rfl (lv_at hl 1 rfl) ?_
      refine rd_i (runV0 (As := [.int (nI k)]) (rest := []) ⟨hx, hb, hml, hown, hts⟩ (met_X0_tell l dC dI cI cW X Bk d r n ch pd pr yr Wd (bk cW X Br n2 ch2 pd2 pr2 yr2 W2 ++ (obj X Bk Br :: R)) hn hok k hk hi hi0) (cwV 1 hts gX3_count_X0_tell rfl rfl rfl (by decide +kernel) ⟨Nat.le_of_ble_eq_true rfl, Nat.le_of_ble_eq_true rfl⟩) hKK hP 0 3 rfl rfl rfl hl.1 (Nat.le_of_ble_eq_true rfl) rfl dX3_count_25 ⟨Nat.zero_le _, Nat.zero_le _⟩) (fun r_3 hr_3 => ?_)
      subst hr_3
      have hz : (countS d r n ch pd pr yr Wd k) = countS d r n ch pd pr yr Wd k := rfl
      exact W.iret (v := (countS d r n ch pd pr yr Wd k)) hx hb hr (fun t ht hW => ⟨_, rfl, hz, ht⟩) (fun q hq => absurd hq List.not_mem_nil) dX3_count_28
    · exact absurd ((lt_nI (b := 9) (by omega)).mpr hk) c_2
set_option maxHeartbeats 4000000 in
set_option maxRecDepth 100000 in
theorem met_X3_setDeaths (l : Launch) (dC : Nat → ClassId) (dI : Nat → Nat → Nat) (cI cW : ClassId) (X Bk Br : Nat → Nat) (d r : Nat → Int32) (n : Nat) (ch pd pr yr : Int32) (Wd : Nat → Nat → Int32) (n2 : Nat) (ch2 pd2 pr2 yr2 : Int32) (W2 : Nat → Nat → Int32) (R : va_W) (ka : Nat) (h1 : 50 ≤ ka) (h2 : ka ≤ 99) (x : Int32) (h4 : 0 ≤ x ∧ x ≤ 1000) (sz : Nat) : Met l yX3_setDeaths wsX3_setDeaths ({ frames := 2, cells := 0, slots := 0, locals := 42 }) (Pre1 dC dI cI cW [.ref (X 0), .int (nI ka), .int x] (tab cI X d r ++ (bk cW X Bk n ch pd pr yr Wd ++ (bk cW X Br n2 ch2 pd2 pr2 yr2 W2 ++ (obj X Bk Br :: R)))) sz) (Qi1 dC dI (fun z => z = d (ka - 50)) (tab cI X d r ++ (bk cW X Bk n ch pd pr yr Wd ++ (bk cW X Br n2 ch2 pd2 pr2 yr2 W2 ++ (obj X Bk Br :: R)))) (tab cI X (upd d (ka - 50) x) r ++ (bk cW X Bk n ch pd pr yr Wd ++ (bk cW X Br n2 ch2 pd2 pr2 yr2 W2 ++ (obj X Bk Br :: R)))) sz) 0 0 (va_A (tab cI X d r ++ (bk cW X Bk n ch pd pr yr Wd ++ (bk cW X Br n2 ch2 pd2 pr2 yr2 W2 ++ (obj X Bk Br :: R)))) sz) := by
  refine Met.ofW (cc := cX3_setDeaths) (maxL := 4) (ret := (some .int)) (by decide) rfl ?_
  intro p e s m args below meth c s₁ B hml hv
  obtain ⟨rfl, hsz, hP, hD0, hKK⟩ := hv
  subst hsz
  have hx := B.exec
  have hb := B.bytes
  have hr := B.returns
  have hts := atoms_spec (ws := wsX3_setDeaths) B.pre
  have hown : s.vm.findClass RX3 = some m.cls := findClass_of_methodNamed B.named
  have hlocks := B.notSynchronized
  have hD := hD0.self (sz := s.heap.size)
  generalize hAe : va_A (tab cI X d r ++ (bk cW X Bk n ch pd pr yr Wd ++ (bk cW X Br n2 ch2 pd2 pr2 yr2 W2 ++ (obj X Bk Br :: R)))) s.heap.size = A at hD ⊢
  have hA : ∀ q : Nat, s.heap.size ≤ q → A q := fun q h => by rw [← hAe]; exact Or.inr h
  have hS : va_S A s.heap s.heap [] := va_S.rf
  have hl := lv_entry ([.ref (X 0), .int (nI ka), .int x]) (n := 4) (Nat.le_of_ble_eq_true rfl)
  rw [lg_entry_eq]
  generalize (lg_sl ([.ref (X 0), .int (nI ka), .int x]) ++ List.replicate (4 - (lg_sl ([.ref (X 0), .int (nI ka), .int x])).length) Slot.unset).toArray = ls at hl ⊢
  have hl : lv_has ls 4 [(0, .ref (X 0)), (1, .int (nI ka)), (2, .int x)] := hl
  refine lv_iload_n hx hb dX3_setDeaths_0 rfl (lv_at hl 1 rfl) ?_
  refine rd_i (runS0 (As := [.int (nI ka)]) (rest := []) ⟨hx, hb, hml, hown, hts⟩ (met_X3_isAge l dC dI cI cW (nI ka)) (va_cwS 1 hts gX3_setDeaths_X3_isAge rfl rfl rfl (by decide +kernel) ⟨Nat.le_of_ble_eq_true rfl, Nat.le_of_ble_eq_true rfl⟩) hKK nilP rfl hl.1 (Nat.le_of_ble_eq_true rfl) rfl dX3_setDeaths_1 ⟨Nat.zero_le _, Nat.zero_le _⟩) (fun r_1 hr_1 => ?_)
  subst hr_1
  refine lv_if_ne (tgt := 17) hx hb dX3_setDeaths_4 (by decide) (fun c_2 => ?_) (fun c_2 => ?_)
  · have bc_2 : 50 ≤ (nI ka) ∧ (nI ka) ≤ 99 := b1.mp c_2
    refine lv_iload_n hx hb dX3_setDeaths_17 rfl (lv_at hl 2 rfl) ?_
    refine lv_if_lt (tgt := 28) hx hb dX3_setDeaths_18 (by decide) (fun c_3 => ?_) (fun c_3 => ?_)
    · exact absurd h4.1 (Int32.not_le.mpr c_3)
    · refine lv_iload_n hx hb dX3_setDeaths_21 rfl (lv_at hl 2 rfl) ?_
      refine lv_sipush (v := 1000) hx hb dX3_setDeaths_22 (by decide) ?_
      refine lv_icmp_le (tgt := 38) hx hb dX3_setDeaths_25 (by decide) (fun c_4 => ?_) (fun c_4 => ?_)
      · refine lv_aload_n hx hb dX3_setDeaths_38 rfl (lv_at hl 0 rfl) ?_
        refine va_get (D := (dC, dI)) (ci := 3) (v := .ref (X 1)) (C := RX3) (T := TX3) (N := 3) hx hb hts (by decide +kernel) hown hKK.1 hP 27 cw_obj rfl 0 (by decide) (hts (.fieldLink RX3 12 "WidowPennies" "tables" "LWidowPennies$Tables;") (by decide +kernel)) (fun _ h9 => h9) rfl dX3_setDeaths_39 ?_
        refine lv_iload_n hx hb dX3_setDeaths_42 rfl (lv_at hl 1 rfl) ?_
        refine rd_i (runV0 (As := [.int (nI ka)]) (rest := []) ⟨hx, hb, hml, hown, hts⟩ (met_X1_deathsAt l dC dI cI cW X d r (nI ka)) (cwV 1 hts gX3_setDeaths_X1_deathsAt rfl rfl rfl (by decide +kernel) ⟨Nat.le_of_ble_eq_true rfl, Nat.le_of_ble_eq_true rfl⟩) hKK (ws_left hP) 1 0 rfl rfl rfl hl.1 (Nat.le_of_ble_eq_true rfl) rfl dX3_setDeaths_43 ⟨Nat.zero_le _, Nat.zero_le _⟩) (fun r_5 hr_5 => ?_)
        subst hr_5
        rw [show (dAt d (nI ka) : Int32) = d (ka - 50) from dAt_nI d h1 h2]
        refine lv_istore_n (lv' := [(3, .int (d (ka - 50))), (0, .ref (X 0)), (1, .int (nI ka)), (2, .int x)]) hx hb dX3_setDeaths_46 rfl hl (by decide) rfl (fun ls hl => ?_)
        refine lv_aload_n hx hb dX3_setDeaths_47 rfl (lv_at hl 1 rfl) ?_
        refine va_get (D := (dC, dI)) (ci := 3) (v := .ref (X 1)) (C := RX3) (T := TX3) (N := 3) hx hb hts (by decide +kernel) hown hKK.1 hP 27 cw_obj rfl 0 (by decide) (hts (.fieldLink RX3 12 "WidowPennies" "tables" "LWidowPennies$Tables;") (by decide +kernel)) (fun _ h9 => h9) rfl dX3_setDeaths_48 ?_
        refine lv_iload_n hx hb dX3_setDeaths_51 rfl (lv_at hl 2 rfl) ?_
        refine lv_iload_n hx hb dX3_setDeaths_52 rfl (lv_at hl 3 rfl) ?_
        refine wr_v (runV1 (As := [.int (nI ka), .int x]) (rest := []) ⟨hx, hb, hml, hown, hts⟩ (met_X1_changeDeaths l dC dI cI cW X d r (bk cW X Bk n ch pd pr yr Wd ++ (bk cW X Br n2 ch2 pd2 pr2 yr2 W2 ++ (obj X Bk Br :: R))) ka h1 h2 x _) (cwV 2 hts gX3_setDeaths_X1_changeDeaths rfl rfl rfl (by decide +kernel) ⟨Nat.le_of_ble_eq_true rfl, Nat.le_of_ble_eq_true rfl⟩) hKK hP hD 1 0 rfl rfl rfl hl.1 (Nat.le_of_ble_eq_true rfl) rfl dX3_setDeaths_53 ⟨Nat.zero_le _, Nat.zero_le _⟩) hD hS hA (fun H locs hP hD hS => ?_)
        have hP : va_P (dC, dI) vwCl (tab cI X (upd d (ka - 50) x) r ++ (bk cW X Bk n ch pd pr yr Wd ++ (bk cW X Br n2 ch2 pd2 pr2 yr2 W2 ++ (obj X Bk Br :: R)))) H := hP
        have hD : va_D A (tab cI X (upd d (ka - 50) x) r ++ (bk cW X Bk n ch pd pr yr Wd ++ (bk cW X Br n2 ch2 pd2 pr2 yr2 W2 ++ (obj X Bk Br :: R)))) := hD
        refine lv_iload_n hx hb dX3_setDeaths_56 rfl (lv_at hl 0 rfl) ?_
        have hP9 : va_P (dC, dI) vwCl (tab cI X (upd d (ka - 50) x) r ++ (bk cW X Bk n ch pd pr yr Wd ++ (bk cW X Br n2 ch2 pd2 pr2 yr2 W2 ++ (obj X Bk Br :: R)))) _ := hP
        have hD9 : va_D A (tab cI X (upd d (ka - 50) x) r ++ (bk cW X Bk n ch pd pr yr Wd ++ (bk cW X Br n2 ch2 pd2 pr2 yr2 W2 ++ (obj X Bk Br :: R)))) := hD
        have hz : (d (ka - 50)) = d (ka - 50) := rfl
        exact W.iret (v := (d (ka - 50))) hx hb hr (fun t ht hW => ⟨⟨_, (), rfl, hz, by rw [ht]; exact hP9, by rw [hAe]; exact hD9⟩, by rw [hAe]; exact hS.F ht⟩) hS.2.2 dX3_setDeaths_57
      · exact absurd h4.2 c_4
  · have bc_2 : ¬ (50 ≤ (nI ka) ∧ (nI ka) ≤ 99) := b0.mp c_2
    exact absurd (age_in h1 h2) bc_2
set_option maxHeartbeats 4000000 in
set_option maxRecDepth 100000 in
theorem met_X3_setRate (l : Launch) (dC : Nat → ClassId) (dI : Nat → Nat → Nat) (cI cW : ClassId) (X Bk Br : Nat → Nat) (d r : Nat → Int32) (n : Nat) (ch pd pr yr : Int32) (Wd : Nat → Nat → Int32) (n2 : Nat) (ch2 pd2 pr2 yr2 : Int32) (W2 : Nat → Nat → Int32) (R : va_W) (k : Nat) (hk : k < 3) (x : Int32) (h4 : 0 ≤ x ∧ x ≤ (if k = 0 then (200 : Int32) else 50)) (sz : Nat) : Met l yX3_setRate wsX3_setRate ({ frames := 1, cells := 0, slots := 0, locals := 22 }) (Pre1 dC dI cI cW [.ref (X 0), .int (nI k), .int x] (tab cI X d r ++ (bk cW X Bk n ch pd pr yr Wd ++ (bk cW X Br n2 ch2 pd2 pr2 yr2 W2 ++ (obj X Bk Br :: R)))) sz) (Qi1 dC dI (fun z => z = r k) (tab cI X d r ++ (bk cW X Bk n ch pd pr yr Wd ++ (bk cW X Br n2 ch2 pd2 pr2 yr2 W2 ++ (obj X Bk Br :: R)))) (tab cI X d (upd r k x) ++ (bk cW X Bk n ch pd pr yr Wd ++ (bk cW X Br n2 ch2 pd2 pr2 yr2 W2 ++ (obj X Bk Br :: R)))) sz) 0 0 (va_A (tab cI X d r ++ (bk cW X Bk n ch pd pr yr Wd ++ (bk cW X Br n2 ch2 pd2 pr2 yr2 W2 ++ (obj X Bk Br :: R)))) sz) := by
  refine Met.ofW (cc := cX3_setRate) (maxL := 4) (ret := (some .int)) (by decide) rfl ?_
  intro p e s m args below meth c s₁ B hml hv
  obtain ⟨rfl, hsz, hP, hD0, hKK⟩ := hv
  subst hsz
  have hx := B.exec
  have hb := B.bytes
  have hr := B.returns
  have hts := atoms_spec (ws := wsX3_setRate) B.pre
  have hown : s.vm.findClass RX3 = some m.cls := findClass_of_methodNamed B.named
  have hlocks := B.notSynchronized
  have hD := hD0.self (sz := s.heap.size)
  generalize hAe : va_A (tab cI X d r ++ (bk cW X Bk n ch pd pr yr Wd ++ (bk cW X Br n2 ch2 pd2 pr2 yr2 W2 ++ (obj X Bk Br :: R)))) s.heap.size = A at hD ⊢
  have hA : ∀ q : Nat, s.heap.size ≤ q → A q := fun q h => by rw [← hAe]; exact Or.inr h
  have hS : va_S A s.heap s.heap [] := va_S.rf
  have hl := lv_entry ([.ref (X 0), .int (nI k), .int x]) (n := 4) (Nat.le_of_ble_eq_true rfl)
  rw [lg_entry_eq]
  generalize (lg_sl ([.ref (X 0), .int (nI k), .int x]) ++ List.replicate (4 - (lg_sl ([.ref (X 0), .int (nI k), .int x])).length) Slot.unset).toArray = ls at hl ⊢
  have hl : lv_has ls 4 [(0, .ref (X 0)), (1, .int (nI k)), (2, .int x)] := hl
  refine lv_iload_n hx hb dX3_setRate_0 rfl (lv_at hl 1 rfl) ?_
  refine lv_if_lt (tgt := 9) hx hb dX3_setRate_1 (by decide) (fun c_1 => ?_) (fun c_1 => ?_)
  · exact absurd c_1 (nI_pos (by omega))
  · refine lv_iload_n hx hb dX3_setRate_4 rfl (lv_at hl 1 rfl) ?_
    refine lv_iconst (v := 3) hx hb dX3_setRate_5 (by decide) ?_
    refine lv_icmp_lt (tgt := 19) hx hb dX3_setRate_6 (by decide) (fun c_2 => ?_) (fun c_2 => ?_)
    · refine lv_iload_n hx hb dX3_setRate_19 rfl (lv_at hl 2 rfl) ?_
      refine lv_if_lt (tgt := 39) hx hb dX3_setRate_20 (by decide) (fun c_3 => ?_) (fun c_3 => ?_)
      · exact absurd h4.1 (Int32.not_le.mpr c_3)
      · refine lv_iload_n hx hb dX3_setRate_23 rfl (lv_at hl 2 rfl) ?_
        refine lv_iload_n hx hb dX3_setRate_24 rfl (lv_at hl 1 rfl) ?_
        refine lv_if_ne (tgt := 34) hx hb dX3_setRate_25 (by decide) (fun c_4 => ?_) (fun c_4 => ?_)
        · have hz9 := br_high_n (k := k) c_4
          refine lv_bipush (v := 50) hx hb dX3_setRate_34 (by decide) ?_
          refine lv_icmp_le (tgt := 49) hx hb dX3_setRate_36 (by decide) (fun c_5 => ?_) (fun c_5 => ?_)
          · refine lv_aload_n hx hb dX3_setRate_49 rfl (lv_at hl 0 rfl) ?_
            refine va_get (D := (dC, dI)) (ci := 3) (v := .ref (X 1)) (C := RX3) (T := TX3) (N := 3) hx hb hts (by decide +kernel) hown hKK.1 hP 27 cw_obj rfl 0 (by decide) (hts (.fieldLink RX3 12 "WidowPennies" "tables" "LWidowPennies$Tables;") (by decide +kernel)) (fun _ h9 => h9) rfl dX3_setRate_50 ?_
            refine lv_iload_n hx hb dX3_setRate_53 rfl (lv_at hl 1 rfl) ?_
            refine rd_i (runV0 (As := [.int (nI k)]) (rest := []) ⟨hx, hb, hml, hown, hts⟩ (met_X1_rate l dC dI cI cW X d r k hk) (cwV 1 hts gX3_setRate_X1_rate rfl rfl rfl (by decide +kernel) ⟨Nat.le_of_ble_eq_true rfl, Nat.le_of_ble_eq_true rfl⟩) hKK (ws_left hP) 1 0 rfl rfl rfl hl.1 (Nat.le_of_ble_eq_true rfl) rfl dX3_setRate_54 ⟨Nat.zero_le _, Nat.zero_le _⟩) (fun r_6 hr_6 => ?_)
            subst hr_6
            refine lv_istore_n (lv' := [(3, .int (r k)), (0, .ref (X 0)), (1, .int (nI k)), (2, .int x)]) hx hb dX3_setRate_57 rfl hl (by decide) rfl (fun ls hl => ?_)
            refine lv_aload_n hx hb dX3_setRate_58 rfl (lv_at hl 1 rfl) ?_
            refine va_get (D := (dC, dI)) (ci := 3) (v := .ref (X 1)) (C := RX3) (T := TX3) (N := 3) hx hb hts (by decide +kernel) hown hKK.1 hP 27 cw_obj rfl 0 (by decide) (hts (.fieldLink RX3 12 "WidowPennies" "tables" "LWidowPennies$Tables;") (by decide +kernel)) (fun _ h9 => h9) rfl dX3_setRate_59 ?_
            refine lv_iload_n hx hb dX3_setRate_62 rfl (lv_at hl 2 rfl) ?_
            refine lv_iload_n hx hb dX3_setRate_63 rfl (lv_at hl 3 rfl) ?_
            refine wr_v (runV1 (As := [.int (nI k), .int x]) (rest := []) ⟨hx, hb, hml, hown, hts⟩ (met_X1_changeRate l dC dI cI cW X d r (bk cW X Bk n ch pd pr yr Wd ++ (bk cW X Br n2 ch2 pd2 pr2 yr2 W2 ++ (obj X Bk Br :: R))) k hk x _) (cwV 2 hts gX3_setRate_X1_changeRate rfl rfl rfl (by decide +kernel) ⟨Nat.le_of_ble_eq_true rfl, Nat.le_of_ble_eq_true rfl⟩) hKK hP hD 1 0 rfl rfl rfl hl.1 (Nat.le_of_ble_eq_true rfl) rfl dX3_setRate_64 ⟨Nat.zero_le _, Nat.zero_le _⟩) hD hS hA (fun H locs hP hD hS => ?_)
            have hP : va_P (dC, dI) vwCl (tab cI X d (upd r k x) ++ (bk cW X Bk n ch pd pr yr Wd ++ (bk cW X Br n2 ch2 pd2 pr2 yr2 W2 ++ (obj X Bk Br :: R)))) H := hP
            have hD : va_D A (tab cI X d (upd r k x) ++ (bk cW X Bk n ch pd pr yr Wd ++ (bk cW X Br n2 ch2 pd2 pr2 yr2 W2 ++ (obj X Bk Br :: R)))) := hD
            refine lv_iload_n hx hb dX3_setRate_67 rfl (lv_at hl 0 rfl) ?_
            have hP9 : va_P (dC, dI) vwCl (tab cI X d (upd r k x) ++ (bk cW X Bk n ch pd pr yr Wd ++ (bk cW X Br n2 ch2 pd2 pr2 yr2 W2 ++ (obj X Bk Br :: R)))) _ := hP
            have hD9 : va_D A (tab cI X d (upd r k x) ++ (bk cW X Bk n ch pd pr yr Wd ++ (bk cW X Br n2 ch2 pd2 pr2 yr2 W2 ++ (obj X Bk Br :: R)))) := hD
            have hz : (r k) = r k := rfl
            exact W.iret (v := (r k)) hx hb hr (fun t ht hW => ⟨⟨_, (), rfl, hz, by rw [ht]; exact hP9, by rw [hAe]; exact hD9⟩, by rw [hAe]; exact hS.F ht⟩) hS.2.2 dX3_setRate_68
          · exact absurd (high_in hk h4.2 hz9) c_5
        · have hz9 := br_high_z (k := k) (by omega) c_4
          refine lv_sipush (v := 200) hx hb dX3_setRate_28 (by decide) ?_
          refine lv_goto (tgt := 36) hx hb dX3_setRate_31 (by decide) ?_
          refine lv_icmp_le (tgt := 49) hx hb dX3_setRate_36 (by decide) (fun c_7 => ?_) (fun c_7 => ?_)
          · refine lv_aload_n hx hb dX3_setRate_49 rfl (lv_at hl 0 rfl) ?_
            refine va_get (D := (dC, dI)) (ci := 3) (v := .ref (X 1)) (C := RX3) (T := TX3) (N := 3) hx hb hts (by decide +kernel) hown hKK.1 hP 27 cw_obj rfl 0 (by decide) (hts (.fieldLink RX3 12 "WidowPennies" "tables" "LWidowPennies$Tables;") (by decide +kernel)) (fun _ h9 => h9) rfl dX3_setRate_50 ?_
            refine lv_iload_n hx hb dX3_setRate_53 rfl (lv_at hl 1 rfl) ?_
            refine rd_i (runV0 (As := [.int (nI k)]) (rest := []) ⟨hx, hb, hml, hown, hts⟩ (met_X1_rate l dC dI cI cW X d r k hk) (cwV 1 hts gX3_setRate_X1_rate rfl rfl rfl (by decide +kernel) ⟨Nat.le_of_ble_eq_true rfl, Nat.le_of_ble_eq_true rfl⟩) hKK (ws_left hP) 1 0 rfl rfl rfl hl.1 (Nat.le_of_ble_eq_true rfl) rfl dX3_setRate_54 ⟨Nat.zero_le _, Nat.zero_le _⟩) (fun r_8 hr_8 => ?_)
            subst hr_8
            refine lv_istore_n (lv' := [(3, .int (r k)), (0, .ref (X 0)), (1, .int (nI k)), (2, .int x)]) hx hb dX3_setRate_57 rfl hl (by decide) rfl (fun ls hl => ?_)
            refine lv_aload_n hx hb dX3_setRate_58 rfl (lv_at hl 1 rfl) ?_
            refine va_get (D := (dC, dI)) (ci := 3) (v := .ref (X 1)) (C := RX3) (T := TX3) (N := 3) hx hb hts (by decide +kernel) hown hKK.1 hP 27 cw_obj rfl 0 (by decide) (hts (.fieldLink RX3 12 "WidowPennies" "tables" "LWidowPennies$Tables;") (by decide +kernel)) (fun _ h9 => h9) rfl dX3_setRate_59 ?_
            refine lv_iload_n hx hb dX3_setRate_62 rfl (lv_at hl 2 rfl) ?_
            refine lv_iload_n hx hb dX3_setRate_63 rfl (lv_at hl 3 rfl) ?_
            refine wr_v (runV1 (As := [.int (nI k), .int x]) (rest := []) ⟨hx, hb, hml, hown, hts⟩ (met_X1_changeRate l dC dI cI cW X d r (bk cW X Bk n ch pd pr yr Wd ++ (bk cW X Br n2 ch2 pd2 pr2 yr2 W2 ++ (obj X Bk Br :: R))) k hk x _) (cwV 2 hts gX3_setRate_X1_changeRate rfl rfl rfl (by decide +kernel) ⟨Nat.le_of_ble_eq_true rfl, Nat.le_of_ble_eq_true rfl⟩) hKK hP hD 1 0 rfl rfl rfl hl.1 (Nat.le_of_ble_eq_true rfl) rfl dX3_setRate_64 ⟨Nat.zero_le _, Nat.zero_le _⟩) hD hS hA (fun H locs hP hD hS => ?_)
            have hP : va_P (dC, dI) vwCl (tab cI X d (upd r k x) ++ (bk cW X Bk n ch pd pr yr Wd ++ (bk cW X Br n2 ch2 pd2 pr2 yr2 W2 ++ (obj X Bk Br :: R)))) H := hP
            have hD : va_D A (tab cI X d (upd r k x) ++ (bk cW X Bk n ch pd pr yr Wd ++ (bk cW X Br n2 ch2 pd2 pr2 yr2 W2 ++ (obj X Bk Br :: R)))) := hD
            refine lv_iload_n hx hb dX3_setRate_67 rfl (lv_at hl 0 rfl) ?_
            have hP9 : va_P (dC, dI) vwCl (tab cI X d (upd r k x) ++ (bk cW X Bk n ch pd pr yr Wd ++ (bk cW X Br n2 ch2 pd2 pr2 yr2 W2 ++ (obj X Bk Br :: R)))) _ := hP
            have hD9 : va_D A (tab cI X d (upd r k x) ++ (bk cW X Bk n ch pd pr yr Wd ++ (bk cW X Br n2 ch2 pd2 pr2 yr2 W2 ++ (obj X Bk Br :: R)))) := hD
            have hz : (r k) = r k := rfl
            exact W.iret (v := (r k)) hx hb hr (fun t ht hW => ⟨⟨_, (), rfl, hz, by rw [ht]; exact hP9, by rw [hAe]; exact hD9⟩, by rw [hAe]; exact hS.F ht⟩) hS.2.2 dX3_setRate_68
          · exact absurd (high_in hk h4.2 hz9) c_7
    · exact absurd ((lt_nI (b := 3) (by omega)).mpr hk) c_2
