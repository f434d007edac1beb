set_option maxHeartbeats 4000000 in
set_option maxRecDepth 100000 in
theorem met_X3_buy (l : Launch) (dC : Nat → ClassId) (dI : Nat → Nat → Nat) (cI cW : ClassId) (X Bk Br : Nat → Nat) (d r : Nat → Int32) (n : Nat) (ch pd pr yr : Int32) (Wd : Nat → Nat → Int32) (n2 : Nat) (ch2 pd2 pr2 yr2 : Int32) (W2 : Nat → Nat → Int32) (R : va_W) (hn10 : n < 10) (ka : Nat) (x : Int32) (kb : Nat) (h1 : 50 ≤ ka) (h2 : ka ≤ 99) (hx9 : 1 ≤ x ∧ x ≤ 999) (h3 : kb ≤ 30) (hw : ¬ wN d (r 0) (100 - ka) kb = 0) (hi : ¬ (1000 : Int32) + r 0 = 0) (hi0 : ¬ r 0 < 0) (sz : Nat) : Met l yX3_buy wsX3_buy ({ frames := 7, cells := 0, slots := 0, locals := 110 }) (Pre1 dC dI cI cW [.ref (X 0), .int (nI ka), .int x, .int (nI kb)] (tab cI X d r ++ (bk cW X Bk n ch pd pr yr Wd ++ (bk cW X Br n2 ch2 pd2 pr2 yr2 W2 ++ (obj X Bk Br :: R)))) sz) (Qi1 dC dI (fun z => z = nI n) (tab cI X d r ++ (bk cW X Bk n ch pd pr yr Wd ++ (bk cW X Br n2 ch2 pd2 pr2 yr2 W2 ++ (obj X Bk Br :: R)))) (tab cI X d r ++ (bk cW X Bk (n + 1) (takeS ch (priceS (r 1) x (wN d (r 0) (100 - ka) kb))) pd (pr + priceS (r 1) x (wN d (r 0) (100 - ka) kb)) yr (upW Wd n (mkW (nI ka) x (nI kb) (priceS (r 1) x (wN d (r 0) (100 - ka) kb)))) ++ (bk cW X Br n2 ch2 pd2 pr2 yr2 W2 ++ (obj X Bk Br :: R)))) sz) 0 0 (va_A (tab cI X d r ++ (bk cW X Bk n ch pd pr yr Wd ++ (bk cW X Br n2 ch2 pd2 pr2 yr2 W2 ++ (obj X Bk Br :: R)))) sz) := by
  refine Met.ofW (cc := cX3_buy) (maxL := 5) (ret := (some .int)) (by decide) rfl ?_
  intro p e s m args below meth c s₁ B hml hv
  obtain ⟨rfl, hsz, hP, hD0, hKK⟩ := hv
  subst hsz
  have hx := B.exec
  have hb := B.bytes
  have hr := B.returns
  have hts := atoms_spec (ws := wsX3_buy) B.pre
  have hown : s.vm.findClass RX3 = some m.cls := findClass_of_methodNamed B.named
  have hlocks := B.notSynchronized
  have hD := hD0.self (sz := s.heap.size)
  generalize hAe : va_A (tab cI X d r ++ (bk cW X Bk n ch pd pr yr Wd ++ (bk cW X Br n2 ch2 pd2 pr2 yr2 W2 ++ (obj X Bk Br :: R)))) s.heap.size = A at hD ⊢
  have hA : ∀ q : Nat, s.heap.size ≤ q → A q := fun q h => by rw [← hAe]; exact Or.inr h
  have hS : va_S A s.heap s.heap [] := va_S.rf
  have hl := lv_entry ([.ref (X 0), .int (nI ka), .int x, .int (nI kb)]) (n := 5) (Nat.le_of_ble_eq_true rfl)
  rw [lg_entry_eq]
  generalize (lg_sl ([.ref (X 0), .int (nI ka), .int x, .int (nI kb)]) ++ List.replicate (5 - (lg_sl ([.ref (X 0), .int (nI ka), .int x, .int (nI kb)])).length) Slot.unset).toArray = ls at hl ⊢
  have hl : lv_has ls 5 [(0, .ref (X 0)), (1, .int (nI ka)), (2, .int x), (3, .int (nI kb))] := hl
  refine lv_iload_n hx hb dX3_buy_0 rfl (lv_at hl 1 rfl) ?_
  refine rd_v (runS0 (As := [.int (nI ka)]) (rest := []) ⟨hx, hb, hml, hown, hts⟩ (met_X3_checkAge l dC dI cI cW  (nI ka) (age_in h1 h2)) (va_cwS 1 hts gX3_buy_X3_checkAge rfl rfl rfl (by decide +kernel) ⟨Nat.le_of_ble_eq_true rfl, Nat.le_of_ble_eq_true rfl⟩) hKK nilP rfl hl.1 (Nat.le_of_ble_eq_true rfl) rfl dX3_buy_1 ⟨Nat.zero_le _, Nat.zero_le _⟩) ?_
  refine lv_iload_n hx hb dX3_buy_4 rfl (lv_at hl 2 rfl) ?_
  refine rd_v (runS0 (As := [.int x]) (rest := []) ⟨hx, hb, hml, hown, hts⟩ (met_X3_checkSum l dC dI cI cW  x hx9) (va_cwS 1 hts gX3_buy_X3_checkSum rfl rfl rfl (by decide +kernel) ⟨Nat.le_of_ble_eq_true rfl, Nat.le_of_ble_eq_true rfl⟩) hKK nilP rfl hl.1 (Nat.le_of_ble_eq_true rfl) rfl dX3_buy_5 ⟨Nat.zero_le _, Nat.zero_le _⟩) ?_
  refine lv_iload_n hx hb dX3_buy_8 rfl (lv_at hl 3 rfl) ?_
  refine rd_v (runS0 (As := [.int (nI kb)]) (rest := []) ⟨hx, hb, hml, hown, hts⟩ (met_X3_checkPutOff l dC dI cI cW  (nI kb) (put_in h3)) (va_cwS 1 hts gX3_buy_X3_checkPutOff rfl rfl rfl (by decide +kernel) ⟨Nat.le_of_ble_eq_true rfl, Nat.le_of_ble_eq_true rfl⟩) hKK nilP rfl hl.1 (Nat.le_of_ble_eq_true rfl) rfl dX3_buy_9 ⟨Nat.zero_le _, Nat.zero_le _⟩) ?_
  refine lv_aload_n hx hb dX3_buy_12 rfl (lv_at hl 0 rfl) ?_
  refine va_get (D := (dC, dI)) (ci := 3) (v := .ref (Bk 0)) (C := RX3) (T := TX3) (N := 3) hx hb hts (by decide +kernel) hown hKK.1 hP 27 cw_obj rfl 1 (by decide) (hts (.fieldLink RX3 21 "WidowPennies" "book" "LWidowPennies$Book;") (by decide +kernel)) (fun _ h9 => h9) rfl dX3_buy_13 ?_
  refine rd_i (runV0 (As := []) (rest := []) ⟨hx, hb, hml, hown, hts⟩ (met_X0_isFull l dC dI cI cW X Bk n ch pd pr yr Wd (by omega)) (cwV 0 hts gX3_buy_X0_isFull rfl rfl rfl (by decide +kernel) ⟨Nat.le_of_ble_eq_true rfl, Nat.le_of_ble_eq_true rfl⟩) hKK (ws_left (ws_right hP)) 0 0 rfl rfl rfl hl.1 (Nat.le_of_ble_eq_true rfl) rfl dX3_buy_16 ⟨Nat.zero_le _, Nat.zero_le _⟩) (fun r_4 hr_4 => ?_)
  subst hr_4
  refine lv_if_eq (tgt := 32) hx hb dX3_buy_19 (by decide) (fun c_5 => ?_) (fun c_5 => ?_)
  · have bc_5 : ¬ (n = 10) := b0.mp c_5
    refine lv_aload_n hx hb dX3_buy_32 rfl (lv_at hl 0 rfl) ?_
    refine va_get (D := (dC, dI)) (ci := 3) (v := .ref (X 1)) (C := RX3) (T := TX3) (N := 3) hx hb hts (by decide +kernel) hown hKK.1 hP 27 cw_obj rfl 0 (by decide) (hts (.fieldLink RX3 12 "WidowPennies" "tables" "LWidowPennies$Tables;") (by decide +kernel)) (fun _ h9 => h9) rfl dX3_buy_33 ?_
    refine lv_iload_n hx hb dX3_buy_36 rfl (lv_at hl 1 rfl) ?_
    refine lv_iload_n hx hb dX3_buy_37 rfl (lv_at hl 3 rfl) ?_
    refine rd_i (runV0 (As := [.int (nI ka), .int (nI kb)]) (rest := []) ⟨hx, hb, hml, hown, hts⟩ (met_X1_worthNow l dC dI cI cW X d r ka kb h1 h2 h3 hi hi0) (cwV 2 hts gX3_buy_X1_worthNow rfl rfl rfl (by decide +kernel) ⟨Nat.le_of_ble_eq_true rfl, Nat.le_of_ble_eq_true rfl⟩) hKK (ws_left hP) 1 0 rfl rfl rfl hl.1 (Nat.le_of_ble_eq_true rfl) rfl dX3_buy_38 ⟨Nat.zero_le _, Nat.zero_le _⟩) (fun r_6 hr_6 => ?_)
    subst hr_6
    refine lv_istore (lv' := [(4, .int (wN d (r 0) (100 - ka) kb)), (0, .ref (X 0)), (1, .int (nI ka)), (2, .int x), (3, .int (nI kb))]) hx hb dX3_buy_41 hl (by decide) rfl (fun ls hl => ?_)
    refine lv_iload hx hb dX3_buy_43 (lv_at hl 0 rfl) ?_
    refine lv_if_ne (tgt := 58) hx hb dX3_buy_45 (by decide) (fun c_7 => ?_) (fun c_7 => ?_)
    · refine lv_aload_n hx hb dX3_buy_58 rfl (lv_at hl 1 rfl) ?_
      refine va_get (D := (dC, dI)) (ci := 3) (v := .ref (Bk 0)) (C := RX3) (T := TX3) (N := 3) hx hb hts (by decide +kernel) hown hKK.1 hP 27 cw_obj rfl 1 (by decide) (hts (.fieldLink RX3 21 "WidowPennies" "book" "LWidowPennies$Book;") (by decide +kernel)) (fun _ h9 => h9) rfl dX3_buy_59 ?_
      refine lv_iload_n hx hb dX3_buy_62 rfl (lv_at hl 2 rfl) ?_
      refine lv_iload_n hx hb dX3_buy_63 rfl (lv_at hl 3 rfl) ?_
      refine lv_iload_n hx hb dX3_buy_64 rfl (lv_at hl 4 rfl) ?_
      refine lv_aload_n hx hb dX3_buy_65 rfl (lv_at hl 1 rfl) ?_
      refine va_get (D := (dC, dI)) (ci := 3) (v := .ref (X 1)) (C := RX3) (T := TX3) (N := 3) hx hb hts (by decide +kernel) hown hKK.1 hP 27 cw_obj rfl 0 (by decide) (hts (.fieldLink RX3 12 "WidowPennies" "tables" "LWidowPennies$Tables;") (by decide +kernel)) (fun _ h9 => h9) rfl dX3_buy_66 ?_
      refine lv_iload_n hx hb dX3_buy_69 rfl (lv_at hl 3 rfl) ?_
      refine lv_iload hx hb dX3_buy_70 (lv_at hl 0 rfl) ?_
      refine rd_i (runV0 (As := [.int x, .int (wN d (r 0) (100 - ka) kb)]) (rest := [.int (nI kb), .int x, .int (nI ka), .ref (Bk 0)]) ⟨hx, hb, hml, hown, hts⟩ (met_X1_priceOf l dC dI cI cW X d r x (wN d (r 0) (100 - ka) kb)) (cwV 2 hts gX3_buy_X1_priceOf rfl rfl rfl (by decide +kernel) ⟨Nat.le_of_ble_eq_true rfl, Nat.le_of_ble_eq_true rfl⟩) hKK (ws_left hP) 1 0 rfl rfl rfl hl.1 (Nat.le_of_ble_eq_true rfl) rfl dX3_buy_72 ⟨Nat.zero_le _, Nat.zero_le _⟩) (fun r_8 hr_8 => ?_)
      subst hr_8
      refine wr_i (runV1 (As := [.int (nI ka), .int x, .int (nI kb), .int (priceS (r 1) x (wN d (r 0) (100 - ka) kb))]) (rest := []) ⟨hx, hb, hml, hown, hts⟩ (met_X0_write l dC dI cI cW X Bk d r n ch pd pr yr Wd (bk cW X Br n2 ch2 pd2 pr2 yr2 W2 ++ (obj X Bk Br :: R)) hn10 (nI ka) x (nI kb) (priceS (r 1) x (wN d (r 0) (100 - ka) kb)) _) (cwV 4 hts gX3_buy_X0_write rfl rfl rfl (by decide +kernel) ⟨Nat.le_of_ble_eq_true rfl, Nat.le_of_ble_eq_true rfl⟩) hKK hP hD 0 3 rfl rfl rfl hl.1 (Nat.le_of_ble_eq_true rfl) rfl dX3_buy_75 ⟨Nat.zero_le _, Nat.zero_le _⟩) hD hS hA (fun r_9 H locs hr_9 hP hD hS => ?_)
      subst hr_9
      have hP : va_P (dC, dI) vwCl (tab cI X d r ++ (bk cW X Bk (n + 1) (takeS ch (priceS (r 1) x (wN d (r 0) (100 - ka) kb))) pd (pr + (priceS (r 1) x (wN d (r 0) (100 - ka) kb))) yr (upW Wd n (mkW (nI ka) x (nI kb) (priceS (r 1) x (wN d (r 0) (100 - ka) kb)))) ++ (bk cW X Br n2 ch2 pd2 pr2 yr2 W2 ++ (obj X Bk Br :: R)))) H := hP
      have hD : va_D A (tab cI X d r ++ (bk cW X Bk (n + 1) (takeS ch (priceS (r 1) x (wN d (r 0) (100 - ka) kb))) pd (pr + (priceS (r 1) x (wN d (r 0) (100 - ka) kb))) yr (upW Wd n (mkW (nI ka) x (nI kb) (priceS (r 1) x (wN d (r 0) (100 - ka) kb)))) ++ (bk cW X Br n2 ch2 pd2 pr2 yr2 W2 ++ (obj X Bk Br :: R)))) := hD
      have hP9 : va_P (dC, dI) vwCl (tab cI X d r ++ (bk cW X Bk (n + 1) (takeS ch (priceS (r 1) x (wN d (r 0) (100 - ka) kb))) pd (pr + (priceS (r 1) x (wN d (r 0) (100 - ka) kb))) yr (upW Wd n (mkW (nI ka) x (nI kb) (priceS (r 1) x (wN d (r 0) (100 - ka) kb)))) ++ (bk cW X Br n2 ch2 pd2 pr2 yr2 W2 ++ (obj X Bk Br :: R)))) _ := hP
      have hD9 : va_D A (tab cI X d r ++ (bk cW X Bk (n + 1) (takeS ch (priceS (r 1) x (wN d (r 0) (100 - ka) kb))) pd (pr + (priceS (r 1) x (wN d (r 0) (100 - ka) kb))) yr (upW Wd n (mkW (nI ka) x (nI kb) (priceS (r 1) x (wN d (r 0) (100 - ka) kb)))) ++ (bk cW X Br n2 ch2 pd2 pr2 yr2 W2 ++ (obj X Bk Br :: R)))) := hD
      have hz : (nI n) = nI n := rfl
      exact W.iret (v := (nI n)) hx hb hr (fun t ht hW => ⟨⟨_, (), rfl, hz, by rw [ht]; exact hP9, by rw [hAe]; exact hD9⟩, by rw [hAe]; exact hS.F ht⟩) hS.2.2 dX3_buy_78
    · exact absurd c_7 hw
  · have bc_5 : n = 10 := b1.mp c_5
    exact absurd bc_5 (by omega)
set_option maxHeartbeats 4000000 in
set_option maxRecDepth 100000 in
theorem met_X3_die (l : Launch) (dC : Nat → ClassId) (dI : Nat → Nat → Nat) (cI cW : ClassId) (X Bk Br : Nat → Nat) (d r : Nat → Int32) (n : Nat) (ch pd pr yr : Int32) (Wd : Nat → Nat → Int32) (n2 : Nat) (ch2 pd2 pr2 yr2 : Int32) (W2 : Nat → Nat → Int32) (R : va_W) (hn : n ≤ 10) (hok : ∀ k, k < n → okW (Wd k)) (k : Nat) (hk : k < n) (hal : Wd k 4 = 0) (hi : ¬ (1000 : Int32) + r 0 = 0) (hi0 : ¬ r 0 < 0) (sz : Nat) : Met l yX3_die wsX3_die ({ frames := 7, cells := 0, slots := 0, locals := 111 }) (Pre1 dC dI cI cW [.ref (X 0), .int (nI k)] (tab cI X d r ++ (bk cW X Bk n ch pd pr yr Wd ++ (bk cW X Br n2 ch2 pd2 pr2 yr2 W2 ++ (obj X Bk Br :: R)))) sz) (Qi1 dC dI (fun z => z = keptS d (r 0) (Wd k)) (tab cI X d r ++ (bk cW X Bk n ch pd pr yr Wd ++ (bk cW X Br n2 ch2 pd2 pr2 yr2 W2 ++ (obj X Bk Br :: R)))) (tab cI X d r ++ (bk cW X Bk n ch pd pr yr (upW Wd k (upd (Wd k) 4 1)) ++ (bk cW X Br n2 ch2 pd2 pr2 yr2 W2 ++ (obj X Bk Br :: R)))) sz) 0 0 (va_A (tab cI X d r ++ (bk cW X Bk n ch pd pr yr Wd ++ (bk cW X Br n2 ch2 pd2 pr2 yr2 W2 ++ (obj X Bk Br :: R)))) sz) := by
  refine Met.ofW (cc := cX3_die) (maxL := 4) (ret := (some .int)) (by decide) rfl ?_
  intro p e s m args below meth c s₁ B hml hv
  obtain ⟨rfl, hsz, hP, hD0, hKK⟩ := hv
  subst hsz
  have hx := B.exec
  have hb := B.bytes
  have hr := B.returns
  have hts := atoms_spec (ws := wsX3_die) B.pre
  have hown : s.vm.findClass RX3 = some m.cls := findClass_of_methodNamed B.named
  have hlocks := B.notSynchronized
  have hD := hD0.self (sz := s.heap.size)
  generalize hAe : va_A (tab cI X d r ++ (bk cW X Bk n ch pd pr yr Wd ++ (bk cW X Br n2 ch2 pd2 pr2 yr2 W2 ++ (obj X Bk Br :: R)))) s.heap.size = A at hD ⊢
  have hA : ∀ q : Nat, s.heap.size ≤ q → A q := fun q h => by rw [← hAe]; exact Or.inr h
  have hS : va_S A s.heap s.heap [] := va_S.rf
  have hl := lv_entry ([.ref (X 0), .int (nI k)]) (n := 4) (Nat.le_of_ble_eq_true rfl)
  rw [lg_entry_eq]
  generalize (lg_sl ([.ref (X 0), .int (nI k)]) ++ List.replicate (4 - (lg_sl ([.ref (X 0), .int (nI k)])).length) Slot.unset).toArray = ls at hl ⊢
  have hl : lv_has ls 4 [(0, .ref (X 0)), (1, .int (nI k))] := hl
  have hk10 : k < 10 := by omega
  refine lv_aload_n hx hb dX3_die_0 rfl (lv_at hl 0 rfl) ?_
  refine lv_iload_n hx hb dX3_die_1 rfl (lv_at hl 1 rfl) ?_
  refine rd_v (runV0 (As := [.int (nI k)]) (rest := []) ⟨hx, hb, hml, hown, hts⟩ (met_X3_checkWidow l dC dI cI cW X Bk Br d r n ch pd pr yr Wd n2 ch2 pd2 pr2 yr2 W2 R (nI k) (wid_in hk hn)) (cwV 1 hts gX3_die_X3_checkWidow rfl rfl rfl (by decide +kernel) ⟨Nat.le_of_ble_eq_true rfl, Nat.le_of_ble_eq_true rfl⟩) hKK hP 3 27 rfl cw_obj rfl hl.1 (Nat.le_of_ble_eq_true rfl) rfl dX3_die_2 ⟨Nat.zero_le _, Nat.zero_le _⟩) ?_
  refine lv_aload_n hx hb dX3_die_5 rfl (lv_at hl 0 rfl) ?_
  refine va_get (D := (dC, dI)) (ci := 3) (v := .ref (Bk 0)) (C := RX3) (T := TX3) (N := 3) hx hb hts (by decide +kernel) hown hKK.1 hP 27 cw_obj rfl 1 (by decide) (hts (.fieldLink RX3 21 "WidowPennies" "book" "LWidowPennies$Book;") (by decide +kernel)) (fun _ h9 => h9) rfl dX3_die_6 ?_
  refine lv_iload_n hx hb dX3_die_9 rfl (lv_at hl 1 rfl) ?_
  refine rd_r (runV0 (As := [.int (nI k)]) (rest := []) ⟨hx, hb, hml, hown, hts⟩ (met_X0_widowAt l dC dI cI cW X Bk n ch pd pr yr Wd k hk10) (cwV 1 hts gX3_die_X0_widowAt rfl rfl rfl (by decide +kernel) ⟨Nat.le_of_ble_eq_true rfl, Nat.le_of_ble_eq_true rfl⟩) hKK (ws_left (ws_right hP)) 0 0 rfl rfl rfl hl.1 (Nat.le_of_ble_eq_true rfl) rfl dX3_die_10 ⟨Nat.zero_le _, Nat.zero_le _⟩) (fun r_2 hr_2 => ?_)
  subst hr_2
  refine lv_astore_n (lv' := [(2, .ref (Bk (k + 2))), (0, .ref (X 0)), (1, .int (nI k))]) hx hb dX3_die_13 rfl hl (by decide) rfl (fun ls hl => ?_)
  refine lv_aload_n hx hb dX3_die_14 rfl (lv_at hl 0 rfl) ?_
  refine rd_i (runV0 (As := []) (rest := []) ⟨hx, hb, hml, hown, hts⟩ (met_X2_lives l dC dI cI cW (Bk (k + 2)) (Wd k)) (cwV 0 hts gX3_die_X2_lives rfl rfl rfl (by decide +kernel) ⟨Nat.le_of_ble_eq_true rfl, Nat.le_of_ble_eq_true rfl⟩) hKK (ws_one hP (bw_at hk10)) 2 0 rfl rfl rfl hl.1 (Nat.le_of_ble_eq_true rfl) rfl dX3_die_15 ⟨Nat.zero_le _, Nat.zero_le _⟩) (fun r_3 hr_3 => ?_)
  subst hr_3
  refine lv_if_ne (tgt := 31) hx hb dX3_die_18 (by decide) (fun c_4 => ?_) (fun c_4 => ?_)
  · have bc_4 : (Wd k) 4 = 0 := b1.mp c_4
    refine lv_aload_n hx hb dX3_die_31 rfl (lv_at hl 1 rfl) ?_
    refine va_get (D := (dC, dI)) (ci := 3) (v := .ref (X 1)) (C := RX3) (T := TX3) (N := 3) hx hb hts (by decide +kernel) hown hKK.1 hP 27 cw_obj rfl 0 (by decide) (hts (.fieldLink RX3 12 "WidowPennies" "tables" "LWidowPennies$Tables;") (by decide +kernel)) (fun _ h9 => h9) rfl dX3_die_32 ?_
    refine lv_aload_n hx hb dX3_die_35 rfl (lv_at hl 0 rfl) ?_
    refine rd_i (runV0 (As := [.ref (Bk (k + 2))]) (rest := []) ⟨hx, hb, hml, hown, hts⟩ (met_X1_keptNow l dC dI cI cW X d r (Bk (k + 2)) (Wd k) (hok k hk) hi hi0) (cwV 1 hts gX3_die_X1_keptNow rfl rfl rfl (by decide +kernel) ⟨Nat.le_of_ble_eq_true rfl, Nat.le_of_ble_eq_true rfl⟩) hKK ((ws_left hP).app (ws_one hP (bw_at hk10))) 1 0 rfl rfl rfl hl.1 (Nat.le_of_ble_eq_true rfl) rfl dX3_die_36 ⟨Nat.zero_le _, Nat.zero_le _⟩) (fun r_5 hr_5 => ?_)
    subst hr_5
    refine lv_istore_n (lv' := [(3, .int (keptS d (r 0) (Wd k))), (2, .ref (Bk (k + 2))), (0, .ref (X 0)), (1, .int (nI k))]) hx hb dX3_die_39 rfl hl (by decide) rfl (fun ls hl => ?_)
    refine lv_aload_n hx hb dX3_die_40 rfl (lv_at hl 1 rfl) ?_
    refine lv_iconst (v := 1) hx hb dX3_die_41 (by decide) ?_
    refine va_put (D := (dC, dI)) (ci := 2) (v := .int 1) (ty := .int) (C := RX2) (T := TX2) (N := 7) hx hb hts (by decide +kernel) tyX2 tyX2_ok nmX2 hown hKK.1 hP hD hS (k + 5) (bw_at hk10) rfl 4 (by decide) (hts (.fieldLink RX3 112 "WidowPennies$Widow" "state" "I") (by decide +kernel)) (fun _ h9 => h9) rfl (by decide +kernel) rfl rfl (Nat.le_of_ble_eq_true rfl) dX3_die_42 (fun H locs hP hD hS => ?_)
    have hP : va_P (dC, dI) vwCl ((tab cI X d r ++ (bk cW X Bk n ch pd pr yr Wd ++ (bk cW X Br n2 ch2 pd2 pr2 yr2 W2 ++ (obj X Bk Br :: R)))).set (k + 5) (Bk (k + 2), .inr (2, row (upd (Wd k) 4 1)))) H := hP
    have hD : va_D A ((tab cI X d r ++ (bk cW X Bk n ch pd pr yr Wd ++ (bk cW X Br n2 ch2 pd2 pr2 yr2 W2 ++ (obj X Bk Br :: R)))).set (k + 5) (Bk (k + 2), .inr (2, row (upd (Wd k) 4 1)))) := hD
    rw [bw_set hk10] at hP hD
    refine lv_iload_n hx hb dX3_die_45 rfl (lv_at hl 0 rfl) ?_
    have hP9 : va_P (dC, dI) vwCl (tab cI X d r ++ (bk cW X Bk n ch pd pr yr (upW Wd k (upd (Wd k) 4 1)) ++ (bk cW X Br n2 ch2 pd2 pr2 yr2 W2 ++ (obj X Bk Br :: R)))) _ := hP
    have hD9 : va_D A (tab cI X d r ++ (bk cW X Bk n ch pd pr yr (upW Wd k (upd (Wd k) 4 1)) ++ (bk cW X Br n2 ch2 pd2 pr2 yr2 W2 ++ (obj X Bk Br :: R)))) := hD
    have hz : (keptS d (r 0) (Wd k)) = keptS d (r 0) (Wd k) := rfl
    exact W.iret (v := (keptS d (r 0) (Wd k))) hx hb hr (fun t ht hW => ⟨⟨_, (), rfl, hz, by rw [ht]; exact hP9, by rw [hAe]; exact hD9⟩, by rw [hAe]; exact hS.F ht⟩) hS.2.2 dX3_die_46
  · have bc_4 : ¬ ((Wd k) 4 = 0) := b0.mp c_4
    exact absurd hal bc_4
set_option maxHeartbeats 4000000 in
set_option maxRecDepth 100000 in
theorem met_X3_giveUp (l : Launch) (dC : Nat → ClassId) (dI : Nat → Nat → Nat) (cI cW : ClassId) (X Bk Br : Nat → Nat) (d r : Nat → Int32) (n : Nat) (ch pd pr yr : Int32) (Wd : Nat → Nat → Int32) (n2 : Nat) (ch2 pd2 pr2 yr2 : Int32) (W2 : Nat → Nat → Int32) (R : va_W) (hn : n ≤ 10) (hok : ∀ k, k < n → okW (Wd k)) (k : Nat) (hk : k < n) (hcan : Wd k 4 = 0 ∧ 2 ≤ Wd k 3) (hi : ¬ (1000 : Int32) + r 0 = 0) (hi0 : ¬ r 0 < 0) (sz : Nat) : Met l yX3_giveUp wsX3_giveUp ({ frames := 7, cells := 0, slots := 0, locals := 133 }) (Pre1 dC dI cI cW [.ref (X 0), .int (nI k)] (tab cI X d r ++ (bk cW X Bk n ch pd pr yr Wd ++ (bk cW X Br n2 ch2 pd2 pr2 yr2 W2 ++ (obj X Bk Br :: R)))) sz) (Qi1 dC dI (fun z => z = backS d r (Wd k)) (tab cI X d r ++ (bk cW X Bk n ch pd pr yr Wd ++ (bk cW X Br n2 ch2 pd2 pr2 yr2 W2 ++ (obj X Bk Br :: R)))) (tab cI X d r ++ (bk cW X Bk n (ch - backS d r (Wd k)) (pd + backS d r (Wd k)) pr yr (upW Wd k (upd (upd (Wd k) 4 2) 5 (Wd k 5 + backS d r (Wd k)))) ++ (bk cW X Br n2 ch2 pd2 pr2 yr2 W2 ++ (obj X Bk Br :: R)))) sz) 0 0 (va_A (tab cI X d r ++ (bk cW X Bk n ch pd pr yr Wd ++ (bk cW X Br n2 ch2 pd2 pr2 yr2 W2 ++ (obj X Bk Br :: R)))) sz) := by
  refine Met.ofW (cc := cX3_giveUp) (maxL := 4) (ret := (some .int)) (by decide) rfl ?_
  intro p e s m args below meth c s₁ B hml hv
  obtain ⟨rfl, hsz, hP, hD0, hKK⟩ := hv
  subst hsz
  have hx := B.exec
  have hb := B.bytes
  have hr := B.returns
  have hts := atoms_spec (ws := wsX3_giveUp) B.pre
  have hown : s.vm.findClass RX3 = some m.cls := findClass_of_methodNamed B.named
  have hlocks := B.notSynchronized
  have hD := hD0.self (sz := s.heap.size)
  generalize hAe : va_A (tab cI X d r ++ (bk cW X Bk n ch pd pr yr Wd ++ (bk cW X Br n2 ch2 pd2 pr2 yr2 W2 ++ (obj X Bk Br :: R)))) s.heap.size = A at hD ⊢
  have hA : ∀ q : Nat, s.heap.size ≤ q → A q := fun q h => by rw [← hAe]; exact Or.inr h
  have hS : va_S A s.heap s.heap [] := va_S.rf
  have hl := lv_entry ([.ref (X 0), .int (nI k)]) (n := 4) (Nat.le_of_ble_eq_true rfl)
  rw [lg_entry_eq]
  generalize (lg_sl ([.ref (X 0), .int (nI k)]) ++ List.replicate (4 - (lg_sl ([.ref (X 0), .int (nI k)])).length) Slot.unset).toArray = ls at hl ⊢
  have hl : lv_has ls 4 [(0, .ref (X 0)), (1, .int (nI k))] := hl
  have hk10 : k < 10 := by omega
  refine lv_aload_n hx hb dX3_giveUp_0 rfl (lv_at hl 0 rfl) ?_
  refine lv_iload_n hx hb dX3_giveUp_1 rfl (lv_at hl 1 rfl) ?_
  refine rd_v (runV0 (As := [.int (nI k)]) (rest := []) ⟨hx, hb, hml, hown, hts⟩ (met_X3_checkWidow l dC dI cI cW X Bk Br d r n ch pd pr yr Wd n2 ch2 pd2 pr2 yr2 W2 R (nI k) (wid_in hk hn)) (cwV 1 hts gX3_giveUp_X3_checkWidow rfl rfl rfl (by decide +kernel) ⟨Nat.le_of_ble_eq_true rfl, Nat.le_of_ble_eq_true rfl⟩) hKK hP 3 27 rfl cw_obj rfl hl.1 (Nat.le_of_ble_eq_true rfl) rfl dX3_giveUp_2 ⟨Nat.zero_le _, Nat.zero_le _⟩) ?_
  refine lv_aload_n hx hb dX3_giveUp_5 rfl (lv_at hl 0 rfl) ?_
  refine va_get (D := (dC, dI)) (ci := 3) (v := .ref (Bk 0)) (C := RX3) (T := TX3) (N := 3) hx hb hts (by decide +kernel) hown hKK.1 hP 27 cw_obj rfl 1 (by decide) (hts (.fieldLink RX3 21 "WidowPennies" "book" "LWidowPennies$Book;") (by decide +kernel)) (fun _ h9 => h9) rfl dX3_giveUp_6 ?_
  refine lv_iload_n hx hb dX3_giveUp_9 rfl (lv_at hl 1 rfl) ?_
  refine rd_r (runV0 (As := [.int (nI k)]) (rest := []) ⟨hx, hb, hml, hown, hts⟩ (met_X0_widowAt l dC dI cI cW X Bk n ch pd pr yr Wd k hk10) (cwV 1 hts gX3_giveUp_X0_widowAt rfl rfl rfl (by decide +kernel) ⟨Nat.le_of_ble_eq_true rfl, Nat.le_of_ble_eq_true rfl⟩) hKK (ws_left (ws_right hP)) 0 0 rfl rfl rfl hl.1 (Nat.le_of_ble_eq_true rfl) rfl dX3_giveUp_10 ⟨Nat.zero_le _, Nat.zero_le _⟩) (fun r_2 hr_2 => ?_)
  subst hr_2
  refine lv_astore_n (lv' := [(2, .ref (Bk (k + 2))), (0, .ref (X 0)), (1, .int (nI k))]) hx hb dX3_giveUp_13 rfl hl (by decide) rfl (fun ls hl => ?_)
  refine lv_aload_n hx hb dX3_giveUp_14 rfl (lv_at hl 0 rfl) ?_
  refine rd_i (runV0 (As := []) (rest := []) ⟨hx, hb, hml, hown, hts⟩ (met_X2_canGiveUp l dC dI cI cW (Bk (k + 2)) (Wd k)) (cwV 0 hts gX3_giveUp_X2_canGiveUp rfl rfl rfl (by decide +kernel) ⟨Nat.le_of_ble_eq_true rfl, Nat.le_of_ble_eq_true rfl⟩) hKK (ws_one hP (bw_at hk10)) 2 0 rfl rfl rfl hl.1 (Nat.le_of_ble_eq_true rfl) rfl dX3_giveUp_15 ⟨Nat.zero_le _, Nat.zero_le _⟩) (fun r_3 hr_3 => ?_)
  subst hr_3
  refine lv_if_ne (tgt := 31) hx hb dX3_giveUp_18 (by decide) (fun c_4 => ?_) (fun c_4 => ?_)
  · have bc_4 : (Wd k) 4 = 0 ∧ 2 ≤ (Wd k) 3 := b1.mp c_4
    refine lv_aload_n hx hb dX3_giveUp_31 rfl (lv_at hl 1 rfl) ?_
    refine va_get (D := (dC, dI)) (ci := 3) (v := .ref (X 1)) (C := RX3) (T := TX3) (N := 3) hx hb hts (by decide +kernel) hown hKK.1 hP 27 cw_obj rfl 0 (by decide) (hts (.fieldLink RX3 12 "WidowPennies" "tables" "LWidowPennies$Tables;") (by decide +kernel)) (fun _ h9 => h9) rfl dX3_giveUp_32 ?_
    refine lv_aload_n hx hb dX3_giveUp_35 rfl (lv_at hl 0 rfl) ?_
    refine rd_i (runV0 (As := [.ref (Bk (k + 2))]) (rest := []) ⟨hx, hb, hml, hown, hts⟩ (met_X1_givenBack l dC dI cI cW X d r (Bk (k + 2)) (Wd k) (hok k hk) hi hi0) (cwV 1 hts gX3_giveUp_X1_givenBack rfl rfl rfl (by decide +kernel) ⟨Nat.le_of_ble_eq_true rfl, Nat.le_of_ble_eq_true rfl⟩) hKK ((ws_left hP).app (ws_one hP (bw_at hk10))) 1 0 rfl rfl rfl hl.1 (Nat.le_of_ble_eq_true rfl) rfl dX3_giveUp_36 ⟨Nat.zero_le _, Nat.zero_le _⟩) (fun r_5 hr_5 => ?_)
    subst hr_5
    refine lv_istore_n (lv' := [(3, .int (backS d r (Wd k))), (2, .ref (Bk (k + 2))), (0, .ref (X 0)), (1, .int (nI k))]) hx hb dX3_giveUp_39 rfl hl (by decide) rfl (fun ls hl => ?_)
    refine lv_aload_n hx hb dX3_giveUp_40 rfl (lv_at hl 1 rfl) ?_
    refine lv_iconst (v := 2) hx hb dX3_giveUp_41 (by decide) ?_
    refine va_put (D := (dC, dI)) (ci := 2) (v := .int 2) (ty := .int) (C := RX2) (T := TX2) (N := 7) hx hb hts (by decide +kernel) tyX2 tyX2_ok nmX2 hown hKK.1 hP hD hS (k + 5) (bw_at hk10) rfl 4 (by decide) (hts (.fieldLink RX3 112 "WidowPennies$Widow" "state" "I") (by decide +kernel)) (fun _ h9 => h9) rfl (by decide +kernel) rfl rfl (Nat.le_of_ble_eq_true rfl) dX3_giveUp_42 (fun H locs hP hD hS => ?_)
    have hP : va_P (dC, dI) vwCl ((tab cI X d r ++ (bk cW X Bk n ch pd pr yr Wd ++ (bk cW X Br n2 ch2 pd2 pr2 yr2 W2 ++ (obj X Bk Br :: R)))).set (k + 5) (Bk (k + 2), .inr (2, row (upd (Wd k) 4 2)))) H := hP
    have hD : va_D A ((tab cI X d r ++ (bk cW X Bk n ch pd pr yr Wd ++ (bk cW X Br n2 ch2 pd2 pr2 yr2 W2 ++ (obj X Bk Br :: R)))).set (k + 5) (Bk (k + 2), .inr (2, row (upd (Wd k) 4 2)))) := hD
    rw [bw_set hk10] at hP hD
    refine lv_aload_n hx hb dX3_giveUp_45 rfl (lv_at hl 1 rfl) ?_
    refine lv_dup hx hb dX3_giveUp_46 rfl ?_
    refine va_get (D := (dC, dI)) (ci := 2) (v := .int ((upW Wd k (upd (Wd k) 4 2)) k 5)) (C := RX2) (T := TX2) (N := 7) hx hb hts (by decide +kernel) hown hKK.1 hP (k + 5) (bw_at hk10) rfl 5 (by decide) (hts (.fieldLink RX3 124 "WidowPennies$Widow" "got" "I") (by decide +kernel)) (fun _ h9 => h9) rfl dX3_giveUp_47 ?_
    rw [show ((upW Wd k (upd (Wd k) 4 2)) k 5 : Int32) = Wd k 5 from by simp [upW, upd]]
    refine lv_iload_n hx hb dX3_giveUp_50 rfl (lv_at hl 0 rfl) ?_
    refine lv_iadd hx hb dX3_giveUp_51 ?_
    refine va_put (D := (dC, dI)) (ci := 2) (v := .int ((Wd k 5) + (backS d r (Wd k)))) (ty := .int) (C := RX2) (T := TX2) (N := 7) hx hb hts (by decide +kernel) tyX2 tyX2_ok nmX2 hown hKK.1 hP hD hS (k + 5) (bw_at hk10) rfl 5 (by decide) (hts (.fieldLink RX3 124 "WidowPennies$Widow" "got" "I") (by decide +kernel)) (fun _ h9 => h9) rfl (by decide +kernel) rfl rfl (Nat.le_of_ble_eq_true rfl) dX3_giveUp_52 (fun H locs hP hD hS => ?_)
    have hP : va_P (dC, dI) vwCl ((tab cI X d r ++ (bk cW X Bk n ch pd pr yr (upW Wd k (upd (Wd k) 4 2)) ++ (bk cW X Br n2 ch2 pd2 pr2 yr2 W2 ++ (obj X Bk Br :: R)))).set (k + 5) (Bk (k + 2), .inr (2, row (upd ((upW Wd k (upd (Wd k) 4 2)) k) 5 ((Wd k 5) + (backS d r (Wd k))))))) H := hP
    have hD : va_D A ((tab cI X d r ++ (bk cW X Bk n ch pd pr yr (upW Wd k (upd (Wd k) 4 2)) ++ (bk cW X Br n2 ch2 pd2 pr2 yr2 W2 ++ (obj X Bk Br :: R)))).set (k + 5) (Bk (k + 2), .inr (2, row (upd ((upW Wd k (upd (Wd k) 4 2)) k) 5 ((Wd k 5) + (backS d r (Wd k))))))) := hD
    rw [bw_set hk10] at hP hD
    refine lv_aload_n hx hb dX3_giveUp_55 rfl (lv_at hl 2 rfl) ?_
    refine va_get (D := (dC, dI)) (ci := 3) (v := .ref (Bk 0)) (C := RX3) (T := TX3) (N := 3) hx hb hts (by decide +kernel) hown hKK.1 hP 27 cw_obj rfl 1 (by decide) (hts (.fieldLink RX3 21 "WidowPennies" "book" "LWidowPennies$Book;") (by decide +kernel)) (fun _ h9 => h9) rfl dX3_giveUp_56 ?_
    refine lv_iload_n hx hb dX3_giveUp_59 rfl (lv_at hl 0 rfl) ?_
    refine wr_v (runV1 (As := [.int (backS d r (Wd k))]) (rest := []) ⟨hx, hb, hml, hown, hts⟩ (met_X0_payOut l dC dI cI cW X Bk d r n ch pd pr yr (upW (upW Wd k (upd (Wd k) 4 2)) k (upd ((upW Wd k (upd (Wd k) 4 2)) k) 5 ((Wd k 5) + (backS d r (Wd k))))) (bk cW X Br n2 ch2 pd2 pr2 yr2 W2 ++ (obj X Bk Br :: R)) (backS d r (Wd k)) _) (cwV 1 hts gX3_giveUp_X0_payOut rfl rfl rfl (by decide +kernel) ⟨Nat.le_of_ble_eq_true rfl, Nat.le_of_ble_eq_true rfl⟩) hKK hP hD 0 3 rfl rfl rfl hl.1 (Nat.le_of_ble_eq_true rfl) rfl dX3_giveUp_60 ⟨Nat.zero_le _, Nat.zero_le _⟩) hD hS hA (fun H locs hP hD hS => ?_)
    have hP : va_P (dC, dI) vwCl (tab cI X d r ++ (bk cW X Bk n (ch - (backS d r (Wd k))) (pd + (backS d r (Wd k))) pr yr (upW (upW Wd k (upd (Wd k) 4 2)) k (upd ((upW Wd k (upd (Wd k) 4 2)) k) 5 ((Wd k 5) + (backS d r (Wd k))))) ++ (bk cW X Br n2 ch2 pd2 pr2 yr2 W2 ++ (obj X Bk Br :: R)))) H := hP
    have hD : va_D A (tab cI X d r ++ (bk cW X Bk n (ch - (backS d r (Wd k))) (pd + (backS d r (Wd k))) pr yr (upW (upW Wd k (upd (Wd k) 4 2)) k (upd ((upW Wd k (upd (Wd k) 4 2)) k) 5 ((Wd k 5) + (backS d r (Wd k))))) ++ (bk cW X Br n2 ch2 pd2 pr2 yr2 W2 ++ (obj X Bk Br :: R)))) := hD
    refine lv_iload_n hx hb dX3_giveUp_63 rfl (lv_at hl 0 rfl) ?_
    have hP9 : va_P (dC, dI) vwCl (tab cI X d r ++ (bk cW X Bk n (ch - (backS d r (Wd k))) (pd + (backS d r (Wd k))) pr yr (upW (upW Wd k (upd (Wd k) 4 2)) k (upd ((upW Wd k (upd (Wd k) 4 2)) k) 5 ((Wd k 5) + (backS d r (Wd k))))) ++ (bk cW X Br n2 ch2 pd2 pr2 yr2 W2 ++ (obj X Bk Br :: R)))) _ := hP
    have hD9 : va_D A (tab cI X d r ++ (bk cW X Bk n (ch - (backS d r (Wd k))) (pd + (backS d r (Wd k))) pr yr (upW (upW Wd k (upd (Wd k) 4 2)) k (upd ((upW Wd k (upd (Wd k) 4 2)) k) 5 ((Wd k 5) + (backS d r (Wd k))))) ++ (bk cW X Br n2 ch2 pd2 pr2 yr2 W2 ++ (obj X Bk Br :: R)))) := hD
    rw [upW_upW, upW_at] at hP9 hD9
    have hz : (backS d r (Wd k)) = backS d r (Wd k) := rfl
    exact W.iret (v := (backS d r (Wd k))) hx hb hr (fun t ht hW => ⟨⟨_, (), rfl, hz, by rw [ht]; exact hP9, by rw [hAe]; exact hD9⟩, by rw [hAe]; exact hS.F ht⟩) hS.2.2 dX3_giveUp_64
  · have bc_4 : ¬ ((Wd k) 4 = 0 ∧ 2 ≤ (Wd k) 3) := b0.mp c_4
    exact absurd hcan bc_4
set_option maxHeartbeats 4000000 in
set_option maxRecDepth 100000 in
theorem met_X3_put (l : Launch) (dC : Nat → ClassId) (dI : Nat → Nat → Nat) (cI cW : ClassId) (X Bk Br : Nat → Nat) (d r : Nat → Int32) (n : Nat) (ch pd pr yr : Int32) (Wd : Nat → Nat → Int32) (n2 : Nat) (ch2 pd2 pr2 yr2 : Int32) (W2 : Nat → Nat → Int32) (R : va_W) (x : Int32) (h4 : -99999 ≤ x ∧ x ≤ 99999) (sz : Nat) : Met l yX3_put wsX3_put ({ frames := 1, cells := 0, slots := 0, locals := 22 }) (Pre1 dC dI cI cW [.ref (X 0), .int x] (tab cI X d r ++ (bk cW X Bk n ch pd pr yr Wd ++ (bk cW X Br n2 ch2 pd2 pr2 yr2 W2 ++ (obj X Bk Br :: R)))) sz) (Qi1 dC dI (fun z => z = takeS ch x) (tab cI X d r ++ (bk cW X Bk n ch pd pr yr Wd ++ (bk cW X Br n2 ch2 pd2 pr2 yr2 W2 ++ (obj X Bk Br :: R)))) (tab cI X d r ++ (bk cW X Bk n (takeS ch x) pd pr yr Wd ++ (bk cW X Br n2 ch2 pd2 pr2 yr2 W2 ++ (obj X Bk Br :: R)))) sz) 0 0 (va_A (tab cI X d r ++ (bk cW X Bk n ch pd pr yr Wd ++ (bk cW X Br n2 ch2 pd2 pr2 yr2 W2 ++ (obj X Bk Br :: R)))) sz) := by
  refine Met.ofW (cc := cX3_put) (maxL := 2) (ret := (some .int)) (by decide) rfl ?_
  intro p e s m args below meth c s₁ B hml hv
  obtain ⟨rfl, hsz, hP, hD0, hKK⟩ := hv
  subst hsz
  have hx := B.exec
  have hb := B.bytes
  have hr := B.returns
  have hts := atoms_spec (ws := wsX3_put) B.pre
  have hown : s.vm.findClass RX3 = some m.cls := findClass_of_methodNamed B.named
  have hlocks := B.notSynchronized
  have hD := hD0.self (sz := s.heap.size)
  generalize hAe : va_A (tab cI X d r ++ (bk cW X Bk n ch pd pr yr Wd ++ (bk cW X Br n2 ch2 pd2 pr2 yr2 W2 ++ (obj X Bk Br :: R)))) s.heap.size = A at hD ⊢
  have hA : ∀ q : Nat, s.heap.size ≤ q → A q := fun q h => by rw [← hAe]; exact Or.inr h
  have hS : va_S A s.heap s.heap [] := va_S.rf
  have hl := lv_entry ([.ref (X 0), .int x]) (n := 2) (Nat.le_of_ble_eq_true rfl)
  rw [lg_entry_eq]
  generalize (lg_sl ([.ref (X 0), .int x]) ++ List.replicate (2 - (lg_sl ([.ref (X 0), .int x])).length) Slot.unset).toArray = ls at hl ⊢
  have hl : lv_has ls 2 [(0, .ref (X 0)), (1, .int x)] := hl
  refine lv_iload_n hx hb dX3_put_0 rfl (lv_at hl 1 rfl) ?_
  refine lv_ldc (v := (-99999)) hx hb hown (hts (.constant RX3 130 (-99999)) (by decide +kernel)) dX3_put_1 ?_
  refine lv_icmp_lt (tgt := 12) hx hb dX3_put_3 (by decide) (fun c_1 => ?_) (fun c_1 => ?_)
  · exact absurd h4.1 (Int32.not_le.mpr c_1)
  · refine lv_iload_n hx hb dX3_put_6 rfl (lv_at hl 1 rfl) ?_
    refine lv_ldc (v := 99999) hx hb hown (hts (.constant RX3 131 99999) (by decide +kernel)) dX3_put_7 ?_
    refine lv_icmp_le (tgt := 22) hx hb dX3_put_9 (by decide) (fun c_2 => ?_) (fun c_2 => ?_)
    · refine lv_aload_n hx hb dX3_put_22 rfl (lv_at hl 0 rfl) ?_
      refine va_get (D := (dC, dI)) (ci := 3) (v := .ref (Bk 0)) (C := RX3) (T := TX3) (N := 3) hx hb hts (by decide +kernel) hown hKK.1 hP 27 cw_obj rfl 1 (by decide) (hts (.fieldLink RX3 21 "WidowPennies" "book" "LWidowPennies$Book;") (by decide +kernel)) (fun _ h9 => h9) rfl dX3_put_23 ?_
      refine lv_iload_n hx hb dX3_put_26 rfl (lv_at hl 1 rfl) ?_
      refine wr_v (runV1 (As := [.int x]) (rest := []) ⟨hx, hb, hml, hown, hts⟩ (met_X0_takeIn l dC dI cI cW X Bk d r n ch pd pr yr Wd (bk cW X Br n2 ch2 pd2 pr2 yr2 W2 ++ (obj X Bk Br :: R)) x _) (cwV 1 hts gX3_put_X0_takeIn rfl rfl rfl (by decide +kernel) ⟨Nat.le_of_ble_eq_true rfl, Nat.le_of_ble_eq_true rfl⟩) hKK hP hD 0 3 rfl rfl rfl hl.1 (Nat.le_of_ble_eq_true rfl) rfl dX3_put_27 ⟨Nat.zero_le _, Nat.zero_le _⟩) hD hS hA (fun H locs hP hD hS => ?_)
      have hP : va_P (dC, dI) vwCl (tab cI X d r ++ (bk cW X Bk n (takeS ch x) pd pr yr Wd ++ (bk cW X Br n2 ch2 pd2 pr2 yr2 W2 ++ (obj X Bk Br :: R)))) H := hP
      have hD : va_D A (tab cI X d r ++ (bk cW X Bk n (takeS ch x) pd pr yr Wd ++ (bk cW X Br n2 ch2 pd2 pr2 yr2 W2 ++ (obj X Bk Br :: R)))) := hD
      refine lv_aload_n hx hb dX3_put_30 rfl (lv_at hl 0 rfl) ?_
      refine va_get (D := (dC, dI)) (ci := 3) (v := .ref (Bk 0)) (C := RX3) (T := TX3) (N := 3) hx hb hts (by decide +kernel) hown hKK.1 hP 27 cw_obj rfl 1 (by decide) (hts (.fieldLink RX3 21 "WidowPennies" "book" "LWidowPennies$Book;") (by decide +kernel)) (fun _ h9 => h9) rfl dX3_put_31 ?_
      refine va_get (D := (dC, dI)) (ci := 0) (v := .int (takeS ch x)) (C := RX0) (T := TX0) (N := 7) hx hb hts (by decide +kernel) hown hKK.1 hP 3 rfl rfl 3 (by decide) (hts (.fieldLink RX3 137 "WidowPennies$Book" "chest" "I") (by decide +kernel)) (fun _ h9 => h9) rfl dX3_put_34 ?_
      have hP9 : va_P (dC, dI) vwCl (tab cI X d r ++ (bk cW X Bk n (takeS ch x) pd pr yr Wd ++ (bk cW X Br n2 ch2 pd2 pr2 yr2 W2 ++ (obj X Bk Br :: R)))) _ := hP
      have hD9 : va_D A (tab cI X d r ++ (bk cW X Bk n (takeS ch x) pd pr yr Wd ++ (bk cW X Br n2 ch2 pd2 pr2 yr2 W2 ++ (obj X Bk Br :: R)))) := hD
      have hz : (takeS ch x) = takeS ch x := rfl
      exact W.iret (v := (takeS ch x)) hx hb hr (fun t ht hW => ⟨⟨_, (), rfl, hz, by rw [ht]; exact hP9, by rw [hAe]; exact hD9⟩, by rw [hAe]; exact hS.F ht⟩) hS.2.2 dX3_put_37
    · exact absurd h4.2 c_2
set_option maxHeartbeats 4000000 in
set_option maxRecDepth 100000 in
theorem met_X3_pass (l : Launch) (dC : Nat → ClassId) (dI : Nat → Nat → Nat) (cI cW : ClassId) (X Bk Br : Nat → Nat) (d r : Nat → Int32) (n : Nat) (ch pd pr yr : Int32) (Wd : Nat → Nat → Int32) (n2 : Nat) (ch2 pd2 pr2 yr2 : Int32) (W2 : Nat → Nat → Int32) (R : va_W) (hn : n ≤ 10) (hok : ∀ k, k < n → okW (Wd k)) (y : Nat) (h1 : 1 ≤ y) (h2 : y ≤ 50) (hi : ¬ (1000 : Int32) + r 0 = 0) (hi0 : ¬ r 0 < 0) (sz : Nat) : Met l yX3_pass wsX3_pass ({ frames := 7, cells := 0, slots := 0, locals := 110 }) (Pre1 dC dI cI cW [.ref (X 0), .int (nI y)] (tab cI X d r ++ (bk cW X Bk n ch pd pr yr Wd ++ (bk cW X Br n2 ch2 pd2 pr2 yr2 W2 ++ (obj X Bk Br :: R)))) sz) (Qi1 dC dI (fun z => z = (yIter (r 0) n y (ch, pd, yr, Wd)).2.1 - pd) (tab cI X d r ++ (bk cW X Bk n ch pd pr yr Wd ++ (bk cW X Br n2 ch2 pd2 pr2 yr2 W2 ++ (obj X Bk Br :: R)))) (tab cI X d r ++ (bk cW X Bk n ((yIter (r 0) n y (ch, pd, yr, Wd)).1) ((yIter (r 0) n y (ch, pd, yr, Wd)).2.1) pr ((yIter (r 0) n y (ch, pd, yr, Wd)).2.2.1) ((yIter (r 0) n y (ch, pd, yr, Wd)).2.2.2) ++ (bk cW X Br n2 ch2 pd2 pr2 yr2 W2 ++ (obj X Bk Br :: R)))) sz) 0 0 (va_A (tab cI X d r ++ (bk cW X Bk n ch pd pr yr Wd ++ (bk cW X Br n2 ch2 pd2 pr2 yr2 W2 ++ (obj X Bk Br :: R)))) sz) := by
  refine Met.ofW (cc := cX3_pass) (maxL := 3) (ret := (some .int)) (by decide) rfl ?_
  intro p e s m args below meth c s₁ B hml hv
  obtain ⟨rfl, hsz, hP, hD0, hKK⟩ := hv
  subst hsz
  have hx := B.exec
  have hb := B.bytes
  have hr := B.returns
  have hts := atoms_spec (ws := wsX3_pass) B.pre
  have hown : s.vm.findClass RX3 = some m.cls := findClass_of_methodNamed B.named
  have hlocks := B.notSynchronized
  have hD := hD0.self (sz := s.heap.size)
  generalize hAe : va_A (tab cI X d r ++ (bk cW X Bk n ch pd pr yr Wd ++ (bk cW X Br n2 ch2 pd2 pr2 yr2 W2 ++ (obj X Bk Br :: R)))) s.heap.size = A at hD ⊢
  have hA : ∀ q : Nat, s.heap.size ≤ q → A q := fun q h => by rw [← hAe]; exact Or.inr h
  have hS : va_S A s.heap s.heap [] := va_S.rf
  have hl := lv_entry ([.ref (X 0), .int (nI y)]) (n := 3) (Nat.le_of_ble_eq_true rfl)
  rw [lg_entry_eq]
  generalize (lg_sl ([.ref (X 0), .int (nI y)]) ++ List.replicate (3 - (lg_sl ([.ref (X 0), .int (nI y)])).length) Slot.unset).toArray = ls at hl ⊢
  have hl : lv_has ls 3 [(0, .ref (X 0)), (1, .int (nI y))] := hl
  refine lv_iload_n hx hb dX3_pass_0 rfl (lv_at hl 1 rfl) ?_
  refine rd_v (runS0 (As := [.int (nI y)]) (rest := []) ⟨hx, hb, hml, hown, hts⟩ (met_X3_checkYearsPassing l dC dI cI cW  (nI y) (yrs_in h1 h2)) (va_cwS 1 hts gX3_pass_X3_checkYearsPassing rfl rfl rfl (by decide +kernel) ⟨Nat.le_of_ble_eq_true rfl, Nat.le_of_ble_eq_true rfl⟩) hKK nilP rfl hl.1 (Nat.le_of_ble_eq_true rfl) rfl dX3_pass_1 ⟨Nat.zero_le _, Nat.zero_le _⟩) ?_
  refine lv_aload_n hx hb dX3_pass_4 rfl (lv_at hl 0 rfl) ?_
  refine va_get (D := (dC, dI)) (ci := 3) (v := .ref (Bk 0)) (C := RX3) (T := TX3) (N := 3) hx hb hts (by decide +kernel) hown hKK.1 hP 27 cw_obj rfl 1 (by decide) (hts (.fieldLink RX3 21 "WidowPennies" "book" "LWidowPennies$Book;") (by decide +kernel)) (fun _ h9 => h9) rfl dX3_pass_5 ?_
  refine va_get (D := (dC, dI)) (ci := 0) (v := .int pd) (C := RX0) (T := TX0) (N := 7) hx hb hts (by decide +kernel) hown hKK.1 hP 3 rfl rfl 4 (by decide) (hts (.fieldLink RX3 157 "WidowPennies$Book" "paidOut" "I") (by decide +kernel)) (fun _ h9 => h9) rfl dX3_pass_8 ?_
  refine lv_istore_n (lv' := [(2, .int pd), (0, .ref (X 0)), (1, .int (nI y))]) hx hb dX3_pass_11 rfl hl (by decide) rfl (fun ls hl => ?_)
  refine lv_aload_n hx hb dX3_pass_12 rfl (lv_at hl 1 rfl) ?_
  refine va_get (D := (dC, dI)) (ci := 3) (v := .ref (Bk 0)) (C := RX3) (T := TX3) (N := 3) hx hb hts (by decide +kernel) hown hKK.1 hP 27 cw_obj rfl 1 (by decide) (hts (.fieldLink RX3 21 "WidowPennies" "book" "LWidowPennies$Book;") (by decide +kernel)) (fun _ h9 => h9) rfl dX3_pass_13 ?_
  refine lv_iload_n hx hb dX3_pass_16 rfl (lv_at hl 2 rfl) ?_
  refine wr_v (runV1 (As := [.int (nI y)]) (rest := []) ⟨hx, hb, hml, hown, hts⟩ (met_X0_passYears l dC dI cI cW X Bk d r n ch pd pr yr Wd (bk cW X Br n2 ch2 pd2 pr2 yr2 W2 ++ (obj X Bk Br :: R)) hn hok hi hi0 y (by omega) _) (cwV 1 hts gX3_pass_X0_passYears rfl rfl rfl (by decide +kernel) ⟨Nat.le_of_ble_eq_true rfl, Nat.le_of_ble_eq_true rfl⟩) hKK hP hD 0 3 rfl rfl rfl hl.1 (Nat.le_of_ble_eq_true rfl) rfl dX3_pass_17 ⟨Nat.zero_le _, Nat.zero_le _⟩) hD hS hA (fun H locs hP hD hS => ?_)
  have hP : va_P (dC, dI) vwCl (tab cI X d r ++ (bk cW X Bk n ((yIter (r 0) n y (ch, pd, yr, Wd)).1) ((yIter (r 0) n y (ch, pd, yr, Wd)).2.1) pr ((yIter (r 0) n y (ch, pd, yr, Wd)).2.2.1) ((yIter (r 0) n y (ch, pd, yr, Wd)).2.2.2) ++ (bk cW X Br n2 ch2 pd2 pr2 yr2 W2 ++ (obj X Bk Br :: R)))) H := hP
  have hD : va_D A (tab cI X d r ++ (bk cW X Bk n ((yIter (r 0) n y (ch, pd, yr, Wd)).1) ((yIter (r 0) n y (ch, pd, yr, Wd)).2.1) pr ((yIter (r 0) n y (ch, pd, yr, Wd)).2.2.1) ((yIter (r 0) n y (ch, pd, yr, Wd)).2.2.2) ++ (bk cW X Br n2 ch2 pd2 pr2 yr2 W2 ++ (obj X Bk Br :: R)))) := hD
  refine lv_aload_n hx hb dX3_pass_20 rfl (lv_at hl 1 rfl) ?_
  refine va_get (D := (dC, dI)) (ci := 3) (v := .ref (Bk 0)) (C := RX3) (T := TX3) (N := 3) hx hb hts (by decide +kernel) hown hKK.1 hP 27 cw_obj rfl 1 (by decide) (hts (.fieldLink RX3 21 "WidowPennies" "book" "LWidowPennies$Book;") (by decide +kernel)) (fun _ h9 => h9) rfl dX3_pass_21 ?_
  refine va_get (D := (dC, dI)) (ci := 0) (v := .int ((yIter (r 0) n y (ch, pd, yr, Wd)).2.1)) (C := RX0) (T := TX0) (N := 7) hx hb hts (by decide +kernel) hown hKK.1 hP 3 rfl rfl 4 (by decide) (hts (.fieldLink RX3 157 "WidowPennies$Book" "paidOut" "I") (by decide +kernel)) (fun _ h9 => h9) rfl dX3_pass_24 ?_
  refine lv_iload_n hx hb dX3_pass_27 rfl (lv_at hl 0 rfl) ?_
  refine lv_isub hx hb dX3_pass_28 ?_
  have hP9 : va_P (dC, dI) vwCl (tab cI X d r ++ (bk cW X Bk n ((yIter (r 0) n y (ch, pd, yr, Wd)).1) ((yIter (r 0) n y (ch, pd, yr, Wd)).2.1) pr ((yIter (r 0) n y (ch, pd, yr, Wd)).2.2.1) ((yIter (r 0) n y (ch, pd, yr, Wd)).2.2.2) ++ (bk cW X Br n2 ch2 pd2 pr2 yr2 W2 ++ (obj X Bk Br :: R)))) _ := hP
  have hD9 : va_D A (tab cI X d r ++ (bk cW X Bk n ((yIter (r 0) n y (ch, pd, yr, Wd)).1) ((yIter (r 0) n y (ch, pd, yr, Wd)).2.1) pr ((yIter (r 0) n y (ch, pd, yr, Wd)).2.2.1) ((yIter (r 0) n y (ch, pd, yr, Wd)).2.2.2) ++ (bk cW X Br n2 ch2 pd2 pr2 yr2 W2 ++ (obj X Bk Br :: R)))) := hD
  have hz : (((yIter (r 0) n y (ch, pd, yr, Wd)).2.1) - pd) = (yIter (r 0) n y (ch, pd, yr, Wd)).2.1 - pd := rfl
  exact W.iret (v := (((yIter (r 0) n y (ch, pd, yr, Wd)).2.1) - pd)) hx hb hr (fun t ht hW => ⟨⟨_, (), rfl, hz, by rw [ht]; exact hP9, by rw [hAe]; exact hD9⟩, by rw [hAe]; exact hS.F ht⟩) hS.2.2 dX3_pass_29
