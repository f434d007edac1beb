set_option maxHeartbeats 4000000 in
set_option maxRecDepth 100000 in
theorem met_X3_worth (l : Launch) (dC : Nat → ClassId) (dI : Nat → Nat → Nat) (cI cW : ClassId) (X Bk Br : Nat → Nat) (d r : Nat → Int32) (n : Nat) (ch pd pr yr : Int32) (Wd : Nat → Nat → Int32) (n2 : Nat) (ch2 pd2 pr2 yr2 : Int32) (W2 : Nat → Nat → Int32) (R : va_W) (ka kb : Nat) (h1 : 50 ≤ ka) (h2 : ka ≤ 99) (h3 : kb ≤ 30) (hi : ¬ (1000 : Int32) + r 0 = 0) (hi0 : ¬ r 0 < 0) : Met l yX3_worth wsX3_worth ({ frames := 7, cells := 0, slots := 0, locals := 110 }) (Pre0 dC dI cI cW [.ref (X 0), .int (nI ka), .int (nI kb)] (tab cI X d r ++ (bk cW X Bk n ch pd pr yr Wd ++ (bk cW X Br n2 ch2 pd2 pr2 yr2 W2 ++ (obj X Bk Br :: R))))) (vp_Si (fun z => z = wN d (r 0) (100 - ka) kb)) 0 0 (fun _ => False) := by
  refine Met.ofW (cc := cX3_worth) (maxL := 3) (ret := (some .int)) (by decide) rfl ?_
  intro p e s m args below meth c s₁ B hml hv
  obtain ⟨rfl, hP, hKK⟩ := hv
  have hx := B.exec
  have hb := B.bytes
  have hr := B.returns
  have hts := atoms_spec (ws := wsX3_worth) B.pre
  have hown : s.vm.findClass RX3 = some m.cls := findClass_of_methodNamed B.named
  have hlocks := B.notSynchronized
  have hl := lv_entry ([.ref (X 0), .int (nI ka), .int (nI kb)]) (n := 3) (Nat.le_of_ble_eq_true rfl)
  rw [lg_entry_eq]
  generalize (lg_sl ([.ref (X 0), .int (nI ka), .int (nI kb)]) ++ List.replicate (3 - (lg_sl ([.ref (X 0), .int (nI ka), .int (nI kb)])).length) Slot.unset).toArray = ls at hl ⊢
  have hl : lv_has ls 3 [(0, .ref (X 0)), (1, .int (nI ka)), (2, .int (nI kb))] := hl
  refine lv_iload_n hx hb dX3_worth_0 rfl (lv_at hl 1 rfl) ?_
  refine rd_v (runS0 (As := [.int (nI ka)]) (rest := []) ⟨hx, hb, hml, hown, hts⟩ (met_X3_checkAge l dC dI cI cW  (nI ka) (age_in h1 h2)) (va_cwS 1 hts gX3_worth_X3_checkAge rfl rfl rfl (by decide +kernel) ⟨Nat.le_of_ble_eq_true rfl, Nat.le_of_ble_eq_true rfl⟩) hKK nilP rfl hl.1 (Nat.le_of_ble_eq_true rfl) rfl dX3_worth_1 ⟨Nat.zero_le _, Nat.zero_le _⟩) ?_
  refine lv_iload_n hx hb dX3_worth_4 rfl (lv_at hl 2 rfl) ?_
  refine rd_v (runS0 (As := [.int (nI kb)]) (rest := []) ⟨hx, hb, hml, hown, hts⟩ (met_X3_checkPutOff l dC dI cI cW  (nI kb) (put_in h3)) (va_cwS 1 hts gX3_worth_X3_checkPutOff rfl rfl rfl (by decide +kernel) ⟨Nat.le_of_ble_eq_true rfl, Nat.le_of_ble_eq_true rfl⟩) hKK nilP rfl hl.1 (Nat.le_of_ble_eq_true rfl) rfl dX3_worth_5 ⟨Nat.zero_le _, Nat.zero_le _⟩) ?_
  refine lv_aload_n hx hb dX3_worth_8 rfl (lv_at hl 0 rfl) ?_
  refine va_get (D := (dC, dI)) (ci := 3) (v := .ref (X 1)) (C := RX3) (T := TX3) (N := 3) hx hb hts (by decide +kernel) hown hKK.1 hP 27 cw_obj rfl 0 (by decide) (hts (.fieldLink RX3 12 "WidowPennies" "tables" "LWidowPennies$Tables;") (by decide +kernel)) (fun _ h9 => h9) rfl dX3_worth_9 ?_
  refine lv_iload_n hx hb dX3_worth_12 rfl (lv_at hl 1 rfl) ?_
  refine lv_iload_n hx hb dX3_worth_13 rfl (lv_at hl 2 rfl) ?_
  refine rd_i (runV0 (As := [.int (nI ka), .int (nI kb)]) (rest := []) ⟨hx, hb, hml, hown, hts⟩ (met_X1_worthNow l dC dI cI cW X d r ka kb h1 h2 h3 hi hi0) (cwV 2 hts gX3_worth_X1_worthNow rfl rfl rfl (by decide +kernel) ⟨Nat.le_of_ble_eq_true rfl, Nat.le_of_ble_eq_true rfl⟩) hKK (ws_left hP) 1 0 rfl rfl rfl hl.1 (Nat.le_of_ble_eq_true rfl) rfl dX3_worth_14 ⟨Nat.zero_le _, Nat.zero_le _⟩) (fun r_3 hr_3 => ?_)
  subst hr_3
  have hz : (wN d (r 0) (100 - ka) kb) = wN d (r 0) (100 - ka) kb := rfl
  exact W.iret (v := (wN d (r 0) (100 - ka) kb)) hx hb hr (fun t ht hW => ⟨_, rfl, hz, ht⟩) (fun q hq => absurd hq List.not_mem_nil) dX3_worth_17
set_option maxHeartbeats 4000000 in
set_option maxRecDepth 100000 in
theorem bad_X3_worth (l : Launch) (hl0 : l.stackTraces = false) (dC : Nat → ClassId) (dI : Nat → Nat → Nat) (cI cW : ClassId) (X Bk Br : Nat → Nat) (d r : Nat → Int32) (n : Nat) (ch pd pr yr : Int32) (Wd : Nat → Nat → Int32) (n2 : Nat) (ch2 pd2 pr2 yr2 : Int32) (W2 : Nat → Nat → Int32) (R : va_W) (a p9 : Int32) (h9 : ¬ ((50 ≤ a ∧ a ≤ 99) ∧ (0 ≤ p9 ∧ p9 ≤ 30))) (sz : Nat) : vx_Met l yX3_worth wsX3_worth ({ frames := 7, cells := 1, slots := 6, locals := 110 }) (PreX dC dI cI cW [.ref (X 0), .int a, .int p9] (tab cI X d r ++ (bk cW X Bk n ch pd pr yr Wd ++ (bk cW X Br n2 ch2 pd2 pr2 yr2 W2 ++ (obj X Bk Br :: R)))) sz) (NoI sz) (XCr xIA sz) 1 6 (NEW sz) := by
  refine vx_ofW (cc := cX3_worth) (maxL := 3) (ret := (some .int)) (by decide) rfl ?_
  intro p e s m args below meth c s₁ B hml ht hv
  obtain ⟨rfl, hsz, hP, hKK, hKX⟩ := hv
  subst hsz
  have hx := B.exec
  have hb := B.bytes
  have hts := atoms_spec (ws := wsX3_worth) B.pre
  have hown : s.vm.findClass RX3 = some m.cls := findClass_of_methodNamed B.named
  have hlocks := B.notSynchronized
  have hl := lv_entry ([.ref (X 0), .int a, .int p9]) (n := 3) (Nat.le_of_ble_eq_true rfl)
  rw [lg_entry_eq]
  generalize (lg_sl ([.ref (X 0), .int a, .int p9]) ++ List.replicate (3 - (lg_sl ([.ref (X 0), .int a, .int p9])).length) Slot.unset).toArray = ls at hl ⊢
  have hl : lv_has ls 3 [(0, .ref (X 0)), (1, .int a), (2, .int p9)] := hl
  refine lv_iload_n hx hb dX3_worth_0 rfl (lv_at hl 1 rfl) ?_
  rcases Classical.em (50 ≤ a ∧ a ≤ 99) with k_1 | k_1
  case inr => exact badS (As := [.int a]) (rest := []) ⟨hx, hb, hml, hown, hts⟩ (bad_X3_checkAge l hl0 dC dI cI cW  a k_1 _) (va_cwS 1 hts gX3_worth_X3_checkAge rfl rfl rfl (by decide +kernel) ⟨Nat.le_of_ble_eq_true rfl, Nat.le_of_ble_eq_true rfl⟩) hKK hKX nilP rfl hl.1 (Nat.le_of_ble_eq_true rfl) rfl dX3_worth_1 ⟨Nat.le_of_ble_eq_true rfl, Nat.le_of_ble_eq_true rfl⟩ ht hlocks rfl
  refine rd_v (runS0 (As := [.int a]) (rest := []) ⟨hx, hb, hml, hown, hts⟩ (met_X3_checkAge l dC dI cI cW  a k_1) (va_cwS 1 hts gX3_worth_X3_checkAge rfl rfl rfl (by decide +kernel) ⟨Nat.le_of_ble_eq_true rfl, Nat.le_of_ble_eq_true rfl⟩) hKK nilP rfl hl.1 (Nat.le_of_ble_eq_true rfl) rfl dX3_worth_1 ⟨Nat.zero_le _, Nat.zero_le _⟩) ?_
  refine lv_iload_n hx hb dX3_worth_4 rfl (lv_at hl 2 rfl) ?_
  rcases Classical.em (0 ≤ p9 ∧ p9 ≤ 30) with k_2 | k_2
  case inr => exact badS (As := [.int p9]) (rest := []) ⟨hx, hb, hml, hown, hts⟩ (bad_X3_checkPutOff l hl0 dC dI cI cW  p9 k_2 _) (va_cwS 1 hts gX3_worth_X3_checkPutOff rfl rfl rfl (by decide +kernel) ⟨Nat.le_of_ble_eq_true rfl, Nat.le_of_ble_eq_true rfl⟩) hKK hKX nilP rfl hl.1 (Nat.le_of_ble_eq_true rfl) rfl dX3_worth_5 ⟨Nat.le_of_ble_eq_true rfl, Nat.le_of_ble_eq_true rfl⟩ ht hlocks rfl
  refine rd_v (runS0 (As := [.int p9]) (rest := []) ⟨hx, hb, hml, hown, hts⟩ (met_X3_checkPutOff l dC dI cI cW  p9 k_2) (va_cwS 1 hts gX3_worth_X3_checkPutOff rfl rfl rfl (by decide +kernel) ⟨Nat.le_of_ble_eq_true rfl, Nat.le_of_ble_eq_true rfl⟩) hKK nilP rfl hl.1 (Nat.le_of_ble_eq_true rfl) rfl dX3_worth_5 ⟨Nat.zero_le _, Nat.zero_le _⟩) ?_
  exact (h9 ⟨k_1, k_2⟩).elim
set_option maxHeartbeats 4000000 in
set_option maxRecDepth 100000 in
theorem met_X3_price (l : Launch) (dC : Nat → ClassId) (dI : Nat → Nat → Nat) (cI cW : ClassId) (X Bk Br : Nat → Nat) (d r : Nat → Int32) (n : Nat) (ch pd pr yr : Int32) (Wd : Nat → Nat → Int32) (n2 : Nat) (ch2 pd2 pr2 yr2 : Int32) (W2 : Nat → Nat → Int32) (R : va_W) (ka : Nat) (x : Int32) (kb : Nat) (h1 : 50 ≤ ka) (h2 : ka ≤ 99) (hx9 : 1 ≤ x ∧ x ≤ 999) (h3 : kb ≤ 30) (hi : ¬ (1000 : Int32) + r 0 = 0) (hi0 : ¬ r 0 < 0) : Met l yX3_price wsX3_price ({ frames := 7, cells := 0, slots := 0, locals := 110 }) (Pre0 dC dI cI cW [.ref (X 0), .int (nI ka), .int x, .int (nI kb)] (tab cI X d r ++ (bk cW X Bk n ch pd pr yr Wd ++ (bk cW X Br n2 ch2 pd2 pr2 yr2 W2 ++ (obj X Bk Br :: R))))) (vp_Si (fun z => z = priceS (r 1) x (wN d (r 0) (100 - ka) kb))) 0 0 (fun _ => False) := by
  refine Met.ofW (cc := cX3_price) (maxL := 4) (ret := (some .int)) (by decide) rfl ?_
  intro p e s m args below meth c s₁ B hml hv
  obtain ⟨rfl, hP, hKK⟩ := hv
  have hx := B.exec
  have hb := B.bytes
  have hr := B.returns
  have hts := atoms_spec (ws := wsX3_price) B.pre
  have hown : s.vm.findClass RX3 = some m.cls := findClass_of_methodNamed B.named
  have hlocks := B.notSynchronized
  have hl := lv_entry ([.ref (X 0), .int (nI ka), .int x, .int (nI kb)]) (n := 4) (Nat.le_of_ble_eq_true rfl)
  rw [lg_entry_eq]
  generalize (lg_sl ([.ref (X 0), .int (nI ka), .int x, .int (nI kb)]) ++ List.replicate (4 - (lg_sl ([.ref (X 0), .int (nI ka), .int x, .int (nI kb)])).length) Slot.unset).toArray = ls at hl ⊢
  have hl : lv_has ls 4 [(0, .ref (X 0)), (1, .int (nI ka)), (2, .int x), (3, .int (nI kb))] := hl
  refine lv_iload_n hx hb dX3_price_0 rfl (lv_at hl 1 rfl) ?_
  refine rd_v (runS0 (As := [.int (nI ka)]) (rest := []) ⟨hx, hb, hml, hown, hts⟩ (met_X3_checkAge l dC dI cI cW  (nI ka) (age_in h1 h2)) (va_cwS 1 hts gX3_price_X3_checkAge rfl rfl rfl (by decide +kernel) ⟨Nat.le_of_ble_eq_true rfl, Nat.le_of_ble_eq_true rfl⟩) hKK nilP rfl hl.1 (Nat.le_of_ble_eq_true rfl) rfl dX3_price_1 ⟨Nat.zero_le _, Nat.zero_le _⟩) ?_
  refine lv_iload_n hx hb dX3_price_4 rfl (lv_at hl 2 rfl) ?_
  refine rd_v (runS0 (As := [.int x]) (rest := []) ⟨hx, hb, hml, hown, hts⟩ (met_X3_checkSum l dC dI cI cW  x hx9) (va_cwS 1 hts gX3_price_X3_checkSum rfl rfl rfl (by decide +kernel) ⟨Nat.le_of_ble_eq_true rfl, Nat.le_of_ble_eq_true rfl⟩) hKK nilP rfl hl.1 (Nat.le_of_ble_eq_true rfl) rfl dX3_price_5 ⟨Nat.zero_le _, Nat.zero_le _⟩) ?_
  refine lv_iload_n hx hb dX3_price_8 rfl (lv_at hl 3 rfl) ?_
  refine rd_v (runS0 (As := [.int (nI kb)]) (rest := []) ⟨hx, hb, hml, hown, hts⟩ (met_X3_checkPutOff l dC dI cI cW  (nI kb) (put_in h3)) (va_cwS 1 hts gX3_price_X3_checkPutOff rfl rfl rfl (by decide +kernel) ⟨Nat.le_of_ble_eq_true rfl, Nat.le_of_ble_eq_true rfl⟩) hKK nilP rfl hl.1 (Nat.le_of_ble_eq_true rfl) rfl dX3_price_9 ⟨Nat.zero_le _, Nat.zero_le _⟩) ?_
  refine lv_aload_n hx hb dX3_price_12 rfl (lv_at hl 0 rfl) ?_
  refine va_get (D := (dC, dI)) (ci := 3) (v := .ref (X 1)) (C := RX3) (T := TX3) (N := 3) hx hb hts (by decide +kernel) hown hKK.1 hP 27 cw_obj rfl 0 (by decide) (hts (.fieldLink RX3 12 "WidowPennies" "tables" "LWidowPennies$Tables;") (by decide +kernel)) (fun _ h9 => h9) rfl dX3_price_13 ?_
  refine lv_iload_n hx hb dX3_price_16 rfl (lv_at hl 2 rfl) ?_
  refine lv_aload_n hx hb dX3_price_17 rfl (lv_at hl 0 rfl) ?_
  refine va_get (D := (dC, dI)) (ci := 3) (v := .ref (X 1)) (C := RX3) (T := TX3) (N := 3) hx hb hts (by decide +kernel) hown hKK.1 hP 27 cw_obj rfl 0 (by decide) (hts (.fieldLink RX3 12 "WidowPennies" "tables" "LWidowPennies$Tables;") (by decide +kernel)) (fun _ h9 => h9) rfl dX3_price_18 ?_
  refine lv_iload_n hx hb dX3_price_21 rfl (lv_at hl 1 rfl) ?_
  refine lv_iload_n hx hb dX3_price_22 rfl (lv_at hl 3 rfl) ?_
  refine rd_i (runV0 (As := [.int (nI ka), .int (nI kb)]) (rest := [.int x, .ref (X 1)]) ⟨hx, hb, hml, hown, hts⟩ (met_X1_worthNow l dC dI cI cW X d r ka kb h1 h2 h3 hi hi0) (cwV 2 hts gX3_price_X1_worthNow rfl rfl rfl (by decide +kernel) ⟨Nat.le_of_ble_eq_true rfl, Nat.le_of_ble_eq_true rfl⟩) hKK (ws_left hP) 1 0 rfl rfl rfl hl.1 (Nat.le_of_ble_eq_true rfl) rfl dX3_price_23 ⟨Nat.zero_le _, Nat.zero_le _⟩) (fun r_4 hr_4 => ?_)
  subst hr_4
  refine rd_i (runV0 (As := [.int x, .int (wN d (r 0) (100 - ka) kb)]) (rest := []) ⟨hx, hb, hml, hown, hts⟩ (met_X1_priceOf l dC dI cI cW X d r x (wN d (r 0) (100 - ka) kb)) (cwV 2 hts gX3_price_X1_priceOf rfl rfl rfl (by decide +kernel) ⟨Nat.le_of_ble_eq_true rfl, Nat.le_of_ble_eq_true rfl⟩) hKK (ws_left hP) 1 0 rfl rfl rfl hl.1 (Nat.le_of_ble_eq_true rfl) rfl dX3_price_26 ⟨Nat.zero_le _, Nat.zero_le _⟩) (fun r_5 hr_5 => ?_)
  subst hr_5
  have hz : (priceS (r 1) x (wN d (r 0) (100 - ka) kb)) = priceS (r 1) x (wN d (r 0) (100 - ka) kb) := rfl
  exact W.iret (v := (priceS (r 1) x (wN d (r 0) (100 - ka) kb))) hx hb hr (fun t ht hW => ⟨_, rfl, hz, ht⟩) (fun q hq => absurd hq List.not_mem_nil) dX3_price_29
set_option maxHeartbeats 4000000 in
set_option maxRecDepth 100000 in
theorem bad_X3_price (l : Launch) (hl0 : l.stackTraces = false) (dC : Nat → ClassId) (dI : Nat → Nat → Nat) (cI cW : ClassId) (X Bk Br : Nat → Nat) (d r : Nat → Int32) (n : Nat) (ch pd pr yr : Int32) (Wd : Nat → Nat → Int32) (n2 : Nat) (ch2 pd2 pr2 yr2 : Int32) (W2 : Nat → Nat → Int32) (R : va_W) (a x p9 : Int32) (h9 : ¬ ((50 ≤ a ∧ a ≤ 99) ∧ (1 ≤ x ∧ x ≤ 999) ∧ (0 ≤ p9 ∧ p9 ≤ 30))) (sz : Nat) : vx_Met l yX3_price wsX3_price ({ frames := 7, cells := 1, slots := 6, locals := 110 }) (PreX dC dI cI cW [.ref (X 0), .int a, .int x, .int p9] (tab cI X d r ++ (bk cW X Bk n ch pd pr yr Wd ++ (bk cW X Br n2 ch2 pd2 pr2 yr2 W2 ++ (obj X Bk Br :: R)))) sz) (NoI sz) (XCr xIA sz) 1 6 (NEW sz) := by
  refine vx_ofW (cc := cX3_price) (maxL := 4) (ret := (some .int)) (by decide) rfl ?_
  intro p e s m args below meth c s₁ B hml ht hv
  obtain ⟨rfl, hsz, hP, hKK, hKX⟩ := hv
  subst hsz
  have hx := B.exec
  have hb := B.bytes
  have hts := atoms_spec (ws := wsX3_price) B.pre
  have hown : s.vm.findClass RX3 = some m.cls := findClass_of_methodNamed B.named
  have hlocks := B.notSynchronized
  have hl := lv_entry ([.ref (X 0), .int a, .int x, .int p9]) (n := 4) (Nat.le_of_ble_eq_true rfl)
  rw [lg_entry_eq]
  generalize (lg_sl ([.ref (X 0), .int a, .int x, .int p9]) ++ List.replicate (4 - (lg_sl ([.ref (X 0), .int a, .int x, .int p9])).length) Slot.unset).toArray = ls at hl ⊢
  have hl : lv_has ls 4 [(0, .ref (X 0)), (1, .int a), (2, .int x), (3, .int p9)] := hl
  refine lv_iload_n hx hb dX3_price_0 rfl (lv_at hl 1 rfl) ?_
  rcases Classical.em (50 ≤ a ∧ a ≤ 99) with k_1 | k_1
  case inr => exact badS (As := [.int a]) (rest := []) ⟨hx, hb, hml, hown, hts⟩ (bad_X3_checkAge l hl0 dC dI cI cW  a k_1 _) (va_cwS 1 hts gX3_price_X3_checkAge rfl rfl rfl (by decide +kernel) ⟨Nat.le_of_ble_eq_true rfl, Nat.le_of_ble_eq_true rfl⟩) hKK hKX nilP rfl hl.1 (Nat.le_of_ble_eq_true rfl) rfl dX3_price_1 ⟨Nat.le_of_ble_eq_true rfl, Nat.le_of_ble_eq_true rfl⟩ ht hlocks rfl
  refine rd_v (runS0 (As := [.int a]) (rest := []) ⟨hx, hb, hml, hown, hts⟩ (met_X3_checkAge l dC dI cI cW  a k_1) (va_cwS 1 hts gX3_price_X3_checkAge rfl rfl rfl (by decide +kernel) ⟨Nat.le_of_ble_eq_true rfl, Nat.le_of_ble_eq_true rfl⟩) hKK nilP rfl hl.1 (Nat.le_of_ble_eq_true rfl) rfl dX3_price_1 ⟨Nat.zero_le _, Nat.zero_le _⟩) ?_
  refine lv_iload_n hx hb dX3_price_4 rfl (lv_at hl 2 rfl) ?_
  rcases Classical.em (1 ≤ x ∧ x ≤ 999) with k_2 | k_2
  case inr => exact badS (As := [.int x]) (rest := []) ⟨hx, hb, hml, hown, hts⟩ (bad_X3_checkSum l hl0 dC dI cI cW  x k_2 _) (va_cwS 1 hts gX3_price_X3_checkSum rfl rfl rfl (by decide +kernel) ⟨Nat.le_of_ble_eq_true rfl, Nat.le_of_ble_eq_true rfl⟩) hKK hKX nilP rfl hl.1 (Nat.le_of_ble_eq_true rfl) rfl dX3_price_5 ⟨Nat.le_of_ble_eq_true rfl, Nat.le_of_ble_eq_true rfl⟩ ht hlocks rfl
  refine rd_v (runS0 (As := [.int x]) (rest := []) ⟨hx, hb, hml, hown, hts⟩ (met_X3_checkSum l dC dI cI cW  x k_2) (va_cwS 1 hts gX3_price_X3_checkSum rfl rfl rfl (by decide +kernel) ⟨Nat.le_of_ble_eq_true rfl, Nat.le_of_ble_eq_true rfl⟩) hKK nilP rfl hl.1 (Nat.le_of_ble_eq_true rfl) rfl dX3_price_5 ⟨Nat.zero_le _, Nat.zero_le _⟩) ?_
  refine lv_iload_n hx hb dX3_price_8 rfl (lv_at hl 3 rfl) ?_
  rcases Classical.em (0 ≤ p9 ∧ p9 ≤ 30) with k_3 | k_3
  case inr => exact badS (As := [.int p9]) (rest := []) ⟨hx, hb, hml, hown, hts⟩ (bad_X3_checkPutOff l hl0 dC dI cI cW  p9 k_3 _) (va_cwS 1 hts gX3_price_X3_checkPutOff rfl rfl rfl (by decide +kernel) ⟨Nat.le_of_ble_eq_true rfl, Nat.le_of_ble_eq_true rfl⟩) hKK hKX nilP rfl hl.1 (Nat.le_of_ble_eq_true rfl) rfl dX3_price_9 ⟨Nat.le_of_ble_eq_true rfl, Nat.le_of_ble_eq_true rfl⟩ ht hlocks rfl
  refine rd_v (runS0 (As := [.int p9]) (rest := []) ⟨hx, hb, hml, hown, hts⟩ (met_X3_checkPutOff l dC dI cI cW  p9 k_3) (va_cwS 1 hts gX3_price_X3_checkPutOff rfl rfl rfl (by decide +kernel) ⟨Nat.le_of_ble_eq_true rfl, Nat.le_of_ble_eq_true rfl⟩) hKK nilP rfl hl.1 (Nat.le_of_ble_eq_true rfl) rfl dX3_price_9 ⟨Nat.zero_le _, Nat.zero_le _⟩) ?_
  exact (h9 ⟨k_1, k_2, k_3⟩).elim
set_option maxHeartbeats 4000000 in
set_option maxRecDepth 100000 in
theorem met_X3_told (l : Launch) (dC : Nat → ClassId) (dI : Nat → Nat → Nat) (cI cW : ClassId) (X Bk Br : Nat → Nat) (d r : Nat → Int32) (n : Nat) (ch pd pr yr : Int32) (Wd : Nat → Nat → Int32) (n2 : Nat) (ch2 pd2 pr2 yr2 : Int32) (W2 : Nat → Nat → Int32) (R : va_W) (hn : n ≤ 10) (hok : ∀ k, k < n → okW (Wd k)) (k f : Nat) (hk : k < n) (hf : f < 9) (hi : ¬ (1000 : Int32) + r 0 = 0) (hi0 : ¬ r 0 < 0) : Met l yX3_told wsX3_told ({ frames := 7, cells := 0, slots := 0, locals := 155 }) (Pre0 dC dI cI cW [.ref (X 0), .int (nI k), .int (nI f)] (tab cI X d r ++ (bk cW X Bk n ch pd pr yr Wd ++ (bk cW X Br n2 ch2 pd2 pr2 yr2 W2 ++ (obj X Bk Br :: R))))) (vp_Si (fun z => z = tellS d r (Wd k) f)) 0 0 (fun _ => False) := by
  refine Met.ofW (cc := cX3_told) (maxL := 3) (ret := (some .int)) (by decide) rfl ?_
  intro p e s m args below meth c s₁ B hml hv
  obtain ⟨rfl, hP, hKK⟩ := hv
  have hx := B.exec
  have hb := B.bytes
  have hr := B.returns
  have hts := atoms_spec (ws := wsX3_told) B.pre
  have hown : s.vm.findClass RX3 = some m.cls := findClass_of_methodNamed B.named
  have hlocks := B.notSynchronized
  have hl := lv_entry ([.ref (X 0), .int (nI k), .int (nI f)]) (n := 3) (Nat.le_of_ble_eq_true rfl)
  rw [lg_entry_eq]
  generalize (lg_sl ([.ref (X 0), .int (nI k), .int (nI f)]) ++ List.replicate (3 - (lg_sl ([.ref (X 0), .int (nI k), .int (nI f)])).length) Slot.unset).toArray = ls at hl ⊢
  have hl : lv_has ls 3 [(0, .ref (X 0)), (1, .int (nI k)), (2, .int (nI f))] := hl
  refine lv_aload_n hx hb dX3_told_0 rfl (lv_at hl 0 rfl) ?_
  refine lv_iload_n hx hb dX3_told_1 rfl (lv_at hl 1 rfl) ?_
  refine rd_v (runV0 (As := [.int (nI k)]) (rest := []) ⟨hx, hb, hml, hown, hts⟩ (met_X3_checkWidow l dC dI cI cW X Bk Br d r n ch pd pr yr Wd n2 ch2 pd2 pr2 yr2 W2 R (nI k) (wid_in hk hn)) (cwV 1 hts gX3_told_X3_checkWidow rfl rfl rfl (by decide +kernel) ⟨Nat.le_of_ble_eq_true rfl, Nat.le_of_ble_eq_true rfl⟩) hKK hP 3 27 rfl cw_obj rfl hl.1 (Nat.le_of_ble_eq_true rfl) rfl dX3_told_2 ⟨Nat.zero_le _, Nat.zero_le _⟩) ?_
  refine lv_iload_n hx hb dX3_told_5 rfl (lv_at hl 2 rfl) ?_
  refine lv_if_lt (tgt := 15) hx hb dX3_told_6 (by decide) (fun c_2 => ?_) (fun c_2 => ?_)
  · exact absurd c_2 (nI_pos (by omega))
  · refine lv_iload_n hx hb dX3_told_9 rfl (lv_at hl 2 rfl) ?_
    refine lv_bipush (v := 9) hx hb dX3_told_10 (by decide) ?_
    refine lv_icmp_lt (tgt := 25) hx hb dX3_told_12 (by decide) (fun c_3 => ?_) (fun c_3 => ?_)
    · refine lv_aload_n hx hb dX3_told_25 rfl (lv_at hl 0 rfl) ?_
      refine va_get (D := (dC, dI)) (ci := 3) (v := .ref (X 1)) (C := RX3) (T := TX3) (N := 3) hx hb hts (by decide +kernel) hown hKK.1 hP 27 cw_obj rfl 0 (by decide) (hts (.fieldLink RX3 12 "WidowPennies" "tables" "LWidowPennies$Tables;") (by decide +kernel)) (fun _ h9 => h9) rfl dX3_told_26 ?_
      refine lv_aload_n hx hb dX3_told_29 rfl (lv_at hl 0 rfl) ?_
      refine va_get (D := (dC, dI)) (ci := 3) (v := .ref (Bk 0)) (C := RX3) (T := TX3) (N := 3) hx hb hts (by decide +kernel) hown hKK.1 hP 27 cw_obj rfl 1 (by decide) (hts (.fieldLink RX3 21 "WidowPennies" "book" "LWidowPennies$Book;") (by decide +kernel)) (fun _ h9 => h9) rfl dX3_told_30 ?_
      refine lv_iload_n hx hb dX3_told_33 rfl (lv_at hl 1 rfl) ?_
      have hk10 : k < 10 := by omega
      refine rd_r (runV0 (As := [.int (nI k)]) (rest := [.ref (X 1)]) ⟨hx, hb, hml, hown, hts⟩ (met_X0_widowAt l dC dI cI cW X Bk n ch pd pr yr Wd k (show k < 10 by omega)) (cwV 1 hts gX3_told_X0_widowAt rfl rfl rfl (by decide +kernel) ⟨Nat.le_of_ble_eq_true rfl, Nat.le_of_ble_eq_true rfl⟩) hKK (ws_left (ws_right hP)) 0 0 rfl rfl rfl hl.1 (Nat.le_of_ble_eq_true rfl) rfl dX3_told_34 ⟨Nat.zero_le _, Nat.zero_le _⟩) (fun r_4 hr_4 => ?_)
      subst hr_4
      refine lv_iload_n hx hb dX3_told_37 rfl (lv_at hl 2 rfl) ?_
      refine rd_i (runV0 (As := [.ref (Bk (k + 2)), .int (nI f)]) (rest := []) ⟨hx, hb, hml, hown, hts⟩ (met_X1_tellOf l dC dI cI cW X d r (Bk (k + 2)) (Wd k) (hok k hk) hi hi0 f hf) (cwV 2 hts gX3_told_X1_tellOf rfl rfl rfl (by decide +kernel) ⟨Nat.le_of_ble_eq_true rfl, Nat.le_of_ble_eq_true rfl⟩) hKK ((ws_left hP).app (ws_one hP (bw_at hk10))) 1 0 rfl rfl rfl hl.1 (Nat.le_of_ble_eq_true rfl) rfl dX3_told_38 ⟨Nat.zero_le _, Nat.zero_le _⟩) (fun r_5 hr_5 => ?_)
      subst hr_5
      have hz : (tellS d r (Wd k) f) = tellS d r (Wd k) f := rfl
      exact W.iret (v := (tellS d r (Wd k) f)) hx hb hr (fun t ht hW => ⟨_, rfl, hz, ht⟩) (fun q hq => absurd hq List.not_mem_nil) dX3_told_41
    · exact absurd ((lt_nI (b := 9) (by omega)).mpr hf) c_3
set_option maxHeartbeats 4000000 in
set_option maxRecDepth 100000 in
theorem bad_X3_told (l : Launch) (hl0 : l.stackTraces = false) (dC : Nat → ClassId) (dI : Nat → Nat → Nat) (cI cW : ClassId) (X Bk Br : Nat → Nat) (d r : Nat → Int32) (n : Nat) (ch pd pr yr : Int32) (Wd : Nat → Nat → Int32) (n2 : Nat) (ch2 pd2 pr2 yr2 : Int32) (W2 : Nat → Nat → Int32) (R : va_W) (a f : Int32) (h9 : ¬ ((0 ≤ a ∧ a < nI n) ∧ (0 ≤ f ∧ f ≤ 8))) (sz : Nat) : vx_Met l yX3_told wsX3_told ({ frames := 7, cells := 1, slots := 6, locals := 155 }) (PreX dC dI cI cW [.ref (X 0), .int a, .int f] (tab cI X d r ++ (bk cW X Bk n ch pd pr yr Wd ++ (bk cW X Br n2 ch2 pd2 pr2 yr2 W2 ++ (obj X Bk Br :: R)))) sz) (NoI sz) (XCr xIO sz) 1 6 (NEW sz) := by
  refine vx_ofW (cc := cX3_told) (maxL := 3) (ret := (some .int)) (by decide) rfl ?_
  intro p e s m args below meth c s₁ B hml ht hv
  obtain ⟨rfl, hsz, hP, hKK, hKX⟩ := hv
  subst hsz
  have hx := B.exec
  have hb := B.bytes
  have hts := atoms_spec (ws := wsX3_told) B.pre
  have hown : s.vm.findClass RX3 = some m.cls := findClass_of_methodNamed B.named
  have hlocks := B.notSynchronized
  have hl := lv_entry ([.ref (X 0), .int a, .int f]) (n := 3) (Nat.le_of_ble_eq_true rfl)
  rw [lg_entry_eq]
  generalize (lg_sl ([.ref (X 0), .int a, .int f]) ++ List.replicate (3 - (lg_sl ([.ref (X 0), .int a, .int f])).length) Slot.unset).toArray = ls at hl ⊢
  have hl : lv_has ls 3 [(0, .ref (X 0)), (1, .int a), (2, .int f)] := hl
  refine lv_aload_n hx hb dX3_told_0 rfl (lv_at hl 0 rfl) ?_
  refine lv_iload_n hx hb dX3_told_1 rfl (lv_at hl 1 rfl) ?_
  rcases Classical.em (0 ≤ a ∧ a < nI n) with k_1 | k_1
  case inr => exact badV (As := [.int a]) (rest := []) ⟨hx, hb, hml, hown, hts⟩ (bad_X3_checkWidow l hl0 dC dI cI cW X Bk Br d r n ch pd pr yr Wd n2 ch2 pd2 pr2 yr2 W2 R a k_1 _) (cwV 1 hts gX3_told_X3_checkWidow rfl rfl rfl (by decide +kernel) ⟨Nat.le_of_ble_eq_true rfl, Nat.le_of_ble_eq_true rfl⟩) hKK hKX hP 3 27 rfl cw_obj rfl hl.1 (Nat.le_of_ble_eq_true rfl) rfl dX3_told_2 ⟨Nat.le_of_ble_eq_true rfl, Nat.le_of_ble_eq_true rfl⟩ ht hlocks rfl
  refine rd_v (runV0 (As := [.int a]) (rest := []) ⟨hx, hb, hml, hown, hts⟩ (met_X3_checkWidow l dC dI cI cW X Bk Br d r n ch pd pr yr Wd n2 ch2 pd2 pr2 yr2 W2 R a k_1) (cwV 1 hts gX3_told_X3_checkWidow rfl rfl rfl (by decide +kernel) ⟨Nat.le_of_ble_eq_true rfl, Nat.le_of_ble_eq_true rfl⟩) hKK hP 3 27 rfl cw_obj rfl hl.1 (Nat.le_of_ble_eq_true rfl) rfl dX3_told_2 ⟨Nat.zero_le _, Nat.zero_le _⟩) ?_
  refine lv_iload_n hx hb dX3_told_5 rfl (lv_at hl 2 rfl) ?_
  refine lv_if_lt (tgt := 15) hx hb dX3_told_6 (by decide) (fun c_2 => ?_) (fun c_2 => ?_)
  · exact throwS0 (E := xIO) (text := "what is not 0 to 8") hx hb hl0 hown ht hlocks hKX (by decide +kernel) hKX.1.1.1 (by decide) (hts (.classLink RX3 32 xIO) (by decide +kernel)) (hts (.initialized xIO) (by decide +kernel)) (fun w hw => hts w (List.mem_cons_of_mem _ (List.mem_append_right _ hw))) exN_IO exG_IO (hl.1.trans hml.symm) dX3_told_15 dX3_told_18 dX3_told_19 dX3_told_21 dX3_told_24 (Nat.le_of_ble_eq_true rfl) (Nat.le_of_ble_eq_true rfl) (Nat.le_of_ble_eq_true rfl) (Nat.le_of_ble_eq_true rfl) rfl
  · refine lv_iload_n hx hb dX3_told_9 rfl (lv_at hl 2 rfl) ?_
    refine lv_bipush (v := 9) hx hb dX3_told_10 (by decide) ?_
    refine lv_icmp_lt (tgt := 25) hx hb dX3_told_12 (by decide) (fun c_3 => ?_) (fun c_3 => ?_)
    · exact (h9 ⟨k_1, end8 c_2 c_3⟩).elim
    · exact throwS0 (E := xIO) (text := "what is not 0 to 8") hx hb hl0 hown ht hlocks hKX (by decide +kernel) hKX.1.1.1 (by decide) (hts (.classLink RX3 32 xIO) (by decide +kernel)) (hts (.initialized xIO) (by decide +kernel)) (fun w hw => hts w (List.mem_cons_of_mem _ (List.mem_append_right _ hw))) exN_IO exG_IO (hl.1.trans hml.symm) dX3_told_15 dX3_told_18 dX3_told_19 dX3_told_21 dX3_told_24 (Nat.le_of_ble_eq_true rfl) (Nat.le_of_ble_eq_true rfl) (Nat.le_of_ble_eq_true rfl) (Nat.le_of_ble_eq_true rfl) rfl
set_option maxHeartbeats 4000000 in
set_option maxRecDepth 100000 in
theorem met_X3_count (l : Launch) (dC : Nat → ClassId) (dI : Nat → Nat → Nat) (cI cW : ClassId) (X Bk Br : Nat → Nat) (d r : Nat → Int32) (n : Nat) (ch pd pr yr : Int32) (Wd : Nat → Nat → Int32) (n2 : Nat) (ch2 pd2 pr2 yr2 : Int32) (W2 : Nat → Nat → Int32) (R : va_W) (hn : n ≤ 10) (hok : ∀ k, k < n → okW (Wd k)) (k : Nat) (hk : k < 9) (hi : ¬ (1000 : Int32) + r 0 = 0) (hi0 : ¬ r 0 < 0) : Met l yX3_count wsX3_count ({ frames := 6, cells := 0, slots := 0, locals := 134 }) (Pre0 dC dI cI cW [.ref (X 0), .int (nI k)] (tab cI X d r ++ (bk cW X Bk n ch pd pr yr Wd ++ (bk cW X Br n2 ch2 pd2 pr2 yr2 W2 ++ (obj X Bk Br :: R))))) (vp_Si (fun z => z = countS d r n ch pd pr yr Wd k)) 0 0 (fun _ => False) := by
  refine Met.ofW (cc := cX3_count) (maxL := 2) (ret := (some .int)) (by decide) rfl ?_
  intro p e s m args below meth c s₁ B hml hv
  obtain ⟨rfl, hP, hKK⟩ := hv
  have hx := B.exec
  have hb := B.bytes
  have hr := B.returns
  have hts := atoms_spec (ws := wsX3_count) B.pre
  have hown : s.vm.findClass RX3 = some m.cls := findClass_of_methodNamed B.named
  have hlocks := B.notSynchronized
  have hl := lv_entry ([.ref (X 0), .int (nI k)]) (n := 2) (Nat.le_of_ble_eq_true rfl)
  rw [lg_entry_eq]
  generalize (lg_sl ([.ref (X 0), .int (nI k)]) ++ List.replicate (2 - (lg_sl ([.ref (X 0), .int (nI k)])).length) Slot.unset).toArray = ls at hl ⊢
  have hl : lv_has ls 2 [(0, .ref (X 0)), (1, .int (nI k))] := hl
  refine lv_iload_n hx hb dX3_count_0 rfl (lv_at hl 1 rfl) ?_
  refine lv_if_lt (tgt := 10) hx hb dX3_count_1 (by decide) (fun c_1 => ?_) (fun c_1 => ?_)
  · exact absurd c_1 (nI_pos (by omega))
  · refine lv_iload_n hx hb dX3_count_4 rfl (lv_at hl 1 rfl) ?_
    refine lv_bipush (v := 9) hx hb dX3_count_5 (by decide) ?_
    refine lv_icmp_lt (tgt := 20) hx hb dX3_count_7 (by decide) (fun c_2 => ?_) (fun c_2 => ?_)
    · refine lv_aload_n hx hb dX3_count_20 rfl (lv_at hl 0 rfl) ?_
      refine va_get (D := (dC, dI)) (ci := 3) (v := .ref (Bk 0)) (C := RX3) (T := TX3) (N := 3) hx hb hts (by decide +kernel) hown hKK.1 hP 27 cw_obj rfl 1 (by decide) (hts (.fieldLink RX3 21 "WidowPennies" "book" "LWidowPennies$Book;") (by decide +kernel)) (fun _ h9 => h9) rfl dX3_count_21 ?_
      refine lv_iload_n hx hb dX3_count_24 rfl (lv_at hl 1 rfl) ?_
      refine rd_i (runV0 (As := [.int (nI k)]) (rest := []) ⟨hx, hb, hml, hown, hts⟩ (met_X0_tell l dC dI cI cW X Bk d r n ch pd pr yr Wd (bk cW X Br n2 ch2 pd2 pr2 yr2 W2 ++ (obj X Bk Br :: R)) hn hok k hk hi hi0) (cwV 1 hts gX3_count_X0_tell rfl rfl rfl (by decide +kernel) ⟨Nat.le_of_ble_eq_true rfl, Nat.le_of_ble_eq_true rfl⟩) hKK hP 0 3 rfl rfl rfl hl.1 (Nat.le_of_ble_eq_true rfl) rfl dX3_count_25 ⟨Nat.zero_le _, Nat.zero_le _⟩) (fun r_3 hr_3 => ?_)
      subst hr_3
      have hz : (countS d r n ch pd pr yr Wd k) = countS d r n ch pd pr yr Wd k := rfl
      exact W.iret (v := (countS d r n ch pd pr yr Wd k)) hx hb hr (fun t ht hW => ⟨_, rfl, hz, ht⟩) (fun q hq => absurd hq List.not_mem_nil) dX3_count_28
    · exact absurd ((lt_nI (b := 9) (by omega)).mpr hk) c_2
set_option maxHeartbeats 4000000 in
set_option maxRecDepth 100000 in
theorem bad_X3_count (l : Launch) (hl0 : l.stackTraces = false) (dC : Nat → ClassId) (dI : Nat → Nat → Nat) (cI cW : ClassId) (X Bk Br : Nat → Nat) (d r : Nat → Int32) (n : Nat) (ch pd pr yr : Int32) (Wd : Nat → Nat → Int32) (n2 : Nat) (ch2 pd2 pr2 yr2 : Int32) (W2 : Nat → Nat → Int32) (R : va_W) (f : Int32) (h9 : ¬ (0 ≤ f ∧ f ≤ 8)) (sz : Nat) : vx_Met l yX3_count wsX3_count ({ frames := 6, cells := 1, slots := 6, locals := 134 }) (PreX dC dI cI cW [.ref (X 0), .int f] (tab cI X d r ++ (bk cW X Bk n ch pd pr yr Wd ++ (bk cW X Br n2 ch2 pd2 pr2 yr2 W2 ++ (obj X Bk Br :: R)))) sz) (NoI sz) (XCr xIO sz) 1 6 (NEW sz) := by
  refine vx_ofW (cc := cX3_count) (maxL := 2) (ret := (some .int)) (by decide) rfl ?_
  intro p e s m args below meth c s₁ B hml ht hv
  obtain ⟨rfl, hsz, hP, hKK, hKX⟩ := hv
  subst hsz
  have hx := B.exec
  have hb := B.bytes
  have hts := atoms_spec (ws := wsX3_count) B.pre
  have hown : s.vm.findClass RX3 = some m.cls := findClass_of_methodNamed B.named
  have hlocks := B.notSynchronized
  have hl := lv_entry ([.ref (X 0), .int f]) (n := 2) (Nat.le_of_ble_eq_true rfl)
  rw [lg_entry_eq]
  generalize (lg_sl ([.ref (X 0), .int f]) ++ List.replicate (2 - (lg_sl ([.ref (X 0), .int f])).length) Slot.unset).toArray = ls at hl ⊢
  have hl : lv_has ls 2 [(0, .ref (X 0)), (1, .int f)] := hl
  refine lv_iload_n hx hb dX3_count_0 rfl (lv_at hl 1 rfl) ?_
  refine lv_if_lt (tgt := 10) hx hb dX3_count_1 (by decide) (fun c_1 => ?_) (fun c_1 => ?_)
  · exact throwS0 (E := xIO) (text := "what is not 0 to 8") hx hb hl0 hown ht hlocks hKX (by decide +kernel) hKX.1.1.1 (by decide) (hts (.classLink RX3 32 xIO) (by decide +kernel)) (hts (.initialized xIO) (by decide +kernel)) (fun w hw => hts w (List.mem_cons_of_mem _ (List.mem_append_right _ hw))) exN_IO exG_IO (hl.1.trans hml.symm) dX3_count_10 dX3_count_13 dX3_count_14 dX3_count_16 dX3_count_19 (Nat.le_of_ble_eq_true rfl) (Nat.le_of_ble_eq_true rfl) (Nat.le_of_ble_eq_true rfl) (Nat.le_of_ble_eq_true rfl) rfl
  · refine lv_iload_n hx hb dX3_count_4 rfl (lv_at hl 1 rfl) ?_
    refine lv_bipush (v := 9) hx hb dX3_count_5 (by decide) ?_
    refine lv_icmp_lt (tgt := 20) hx hb dX3_count_7 (by decide) (fun c_2 => ?_) (fun c_2 => ?_)
    · exact (h9 (end8 c_1 c_2)).elim
    · exact throwS0 (E := xIO) (text := "what is not 0 to 8") hx hb hl0 hown ht hlocks hKX (by decide +kernel) hKX.1.1.1 (by decide) (hts (.classLink RX3 32 xIO) (by decide +kernel)) (hts (.initialized xIO) (by decide +kernel)) (fun w hw => hts w (List.mem_cons_of_mem _ (List.mem_append_right _ hw))) exN_IO exG_IO (hl.1.trans hml.symm) dX3_count_10 dX3_count_13 dX3_count_14 dX3_count_16 dX3_count_19 (Nat.le_of_ble_eq_true rfl) (Nat.le_of_ble_eq_true rfl) (Nat.le_of_ble_eq_true rfl) (Nat.le_of_ble_eq_true rfl) rfl
set_option maxHeartbeats 4000000 in
set_option maxRecDepth 100000 in
theorem met_X3_alive (l : Launch) (dC : Nat → ClassId) (dI : Nat → Nat → Nat) (cI cW : ClassId) (X Bk Br : Nat → Nat) (d r : Nat → Int32) (n : Nat) (ch pd pr yr : Int32) (Wd : Nat → Nat → Int32) (n2 : Nat) (ch2 pd2 pr2 yr2 : Int32) (W2 : Nat → Nat → Int32) (R : va_W) (ka y : Nat) (h1 : 50 ≤ ka) (h2 : ka ≤ 99) (h3 : y ≤ 60) : Met l yX3_alive wsX3_alive ({ frames := 7, cells := 0, slots := 0, locals := 110 }) (Pre0 dC dI cI cW [.ref (X 0), .int (nI ka), .int (nI y)] (tab cI X d r ++ (bk cW X Bk n ch pd pr yr Wd ++ (bk cW X Br n2 ch2 pd2 pr2 yr2 W2 ++ (obj X Bk Br :: R))))) (vp_Si (fun z => z = (if 99 < ka + y then 0 else aliveS d (ka - 50) y))) 0 0 (fun _ => False) := by
  refine Met.ofW (cc := cX3_alive) (maxL := 3) (ret := (some .int)) (by decide) rfl ?_
  intro p e s m args below meth c s₁ B hml hv
  obtain ⟨rfl, hP, hKK⟩ := hv
  have hx := B.exec
  have hb := B.bytes
  have hr := B.returns
  have hts := atoms_spec (ws := wsX3_alive) B.pre
  have hown : s.vm.findClass RX3 = some m.cls := findClass_of_methodNamed B.named
  have hlocks := B.notSynchronized
  have hl := lv_entry ([.ref (X 0), .int (nI ka), .int (nI y)]) (n := 3) (Nat.le_of_ble_eq_true rfl)
  rw [lg_entry_eq]
  generalize (lg_sl ([.ref (X 0), .int (nI ka), .int (nI y)]) ++ List.replicate (3 - (lg_sl ([.ref (X 0), .int (nI ka), .int (nI y)])).length) Slot.unset).toArray = ls at hl ⊢
  have hl : lv_has ls 3 [(0, .ref (X 0)), (1, .int (nI ka)), (2, .int (nI y))] := hl
  refine lv_iload_n hx hb dX3_alive_0 rfl (lv_at hl 1 rfl) ?_
  refine rd_v (runS0 (As := [.int (nI ka)]) (rest := []) ⟨hx, hb, hml, hown, hts⟩ (met_X3_checkAge l dC dI cI cW  (nI ka) (age_in h1 h2)) (va_cwS 1 hts gX3_alive_X3_checkAge rfl rfl rfl (by decide +kernel) ⟨Nat.le_of_ble_eq_true rfl, Nat.le_of_ble_eq_true rfl⟩) hKK nilP rfl hl.1 (Nat.le_of_ble_eq_true rfl) rfl dX3_alive_1 ⟨Nat.zero_le _, Nat.zero_le _⟩) ?_
  refine lv_iload_n hx hb dX3_alive_4 rfl (lv_at hl 2 rfl) ?_
  refine lv_if_lt (tgt := 14) hx hb dX3_alive_5 (by decide) (fun c_2 => ?_) (fun c_2 => ?_)
  · exact absurd c_2 (nI_pos (by omega))
  · refine lv_iload_n hx hb dX3_alive_8 rfl (lv_at hl 2 rfl) ?_
    refine lv_bipush (v := 60) hx hb dX3_alive_9 (by decide) ?_
    refine lv_icmp_le (tgt := 24) hx hb dX3_alive_11 (by decide) (fun c_3 => ?_) (fun c_3 => ?_)
    · refine lv_aload_n hx hb dX3_alive_24 rfl (lv_at hl 0 rfl) ?_
      refine va_get (D := (dC, dI)) (ci := 3) (v := .ref (X 1)) (C := RX3) (T := TX3) (N := 3) hx hb hts (by decide +kernel) hown hKK.1 hP 27 cw_obj rfl 0 (by decide) (hts (.fieldLink RX3 12 "WidowPennies" "tables" "LWidowPennies$Tables;") (by decide +kernel)) (fun _ h9 => h9) rfl dX3_alive_25 ?_
      refine lv_iload_n hx hb dX3_alive_28 rfl (lv_at hl 1 rfl) ?_
      refine lv_iload_n hx hb dX3_alive_29 rfl (lv_at hl 2 rfl) ?_
      refine rd_i (runV0 (As := [.int (nI ka), .int (nI y)]) (rest := []) ⟨hx, hb, hml, hown, hts⟩ (met_X1_leftOfThousand l dC dI cI cW X d r ka y h1 h2 h3) (cwV 2 hts gX3_alive_X1_leftOfThousand rfl rfl rfl (by decide +kernel) ⟨Nat.le_of_ble_eq_true rfl, Nat.le_of_ble_eq_true rfl⟩) hKK (ws_left hP) 1 0 rfl rfl rfl hl.1 (Nat.le_of_ble_eq_true rfl) rfl dX3_alive_30 ⟨Nat.zero_le _, Nat.zero_le _⟩) (fun r_4 hr_4 => ?_)
      subst hr_4
      have hz : ((if 99 < ka + y then 0 else aliveS d (ka - 50) y)) = (if 99 < ka + y then 0 else aliveS d (ka - 50) y) := rfl
      exact W.iret (v := (if 99 < ka + y then 0 else aliveS d (ka - 50) y)) hx hb hr (fun t ht hW => ⟨_, rfl, hz, ht⟩) (fun q hq => absurd hq List.not_mem_nil) dX3_alive_33
    · exact absurd ((le_nI (b := 60) (by omega)).mpr h3) c_3
set_option maxHeartbeats 4000000 in
set_option maxRecDepth 100000 in
theorem bad_X3_alive (l : Launch) (hl0 : l.stackTraces = false) (dC : Nat → ClassId) (dI : Nat → Nat → Nat) (cI cW : ClassId) (X Bk Br : Nat → Nat) (d r : Nat → Int32) (n : Nat) (ch pd pr yr : Int32) (Wd : Nat → Nat → Int32) (n2 : Nat) (ch2 pd2 pr2 yr2 : Int32) (W2 : Nat → Nat → Int32) (R : va_W) (a y : Int32) (h9 : ¬ ((50 ≤ a ∧ a ≤ 99) ∧ (0 ≤ y ∧ y ≤ 60))) (sz : Nat) : vx_Met l yX3_alive wsX3_alive ({ frames := 7, cells := 1, slots := 6, locals := 110 }) (PreX dC dI cI cW [.ref (X 0), .int a, .int y] (tab cI X d r ++ (bk cW X Bk n ch pd pr yr Wd ++ (bk cW X Br n2 ch2 pd2 pr2 yr2 W2 ++ (obj X Bk Br :: R)))) sz) (NoI sz) (XCr xIA sz) 1 6 (NEW sz) := by
  refine vx_ofW (cc := cX3_alive) (maxL := 3) (ret := (some .int)) (by decide) rfl ?_
  intro p e s m args below meth c s₁ B hml ht hv
  obtain ⟨rfl, hsz, hP, hKK, hKX⟩ := hv
  subst hsz
  have hx := B.exec
  have hb := B.bytes
  have hts := atoms_spec (ws := wsX3_alive) B.pre
  have hown : s.vm.findClass RX3 = some m.cls := findClass_of_methodNamed B.named
  have hlocks := B.notSynchronized
  have hl := lv_entry ([.ref (X 0), .int a, .int y]) (n := 3) (Nat.le_of_ble_eq_true rfl)
  rw [lg_entry_eq]
  generalize (lg_sl ([.ref (X 0), .int a, .int y]) ++ List.replicate (3 - (lg_sl ([.ref (X 0), .int a, .int y])).length) Slot.unset).toArray = ls at hl ⊢
  have hl : lv_has ls 3 [(0, .ref (X 0)), (1, .int a), (2, .int y)] := hl
  refine lv_iload_n hx hb dX3_alive_0 rfl (lv_at hl 1 rfl) ?_
  rcases Classical.em (50 ≤ a ∧ a ≤ 99) with k_1 | k_1
  case inr => exact badS (As := [.int a]) (rest := []) ⟨hx, hb, hml, hown, hts⟩ (bad_X3_checkAge l hl0 dC dI cI cW  a k_1 _) (va_cwS 1 hts gX3_alive_X3_checkAge rfl rfl rfl (by decide +kernel) ⟨Nat.le_of_ble_eq_true rfl, Nat.le_of_ble_eq_true rfl⟩) hKK hKX nilP rfl hl.1 (Nat.le_of_ble_eq_true rfl) rfl dX3_alive_1 ⟨Nat.le_of_ble_eq_true rfl, Nat.le_of_ble_eq_true rfl⟩ ht hlocks rfl
  refine rd_v (runS0 (As := [.int a]) (rest := []) ⟨hx, hb, hml, hown, hts⟩ (met_X3_checkAge l dC dI cI cW  a k_1) (va_cwS 1 hts gX3_alive_X3_checkAge rfl rfl rfl (by decide +kernel) ⟨Nat.le_of_ble_eq_true rfl, Nat.le_of_ble_eq_true rfl⟩) hKK nilP rfl hl.1 (Nat.le_of_ble_eq_true rfl) rfl dX3_alive_1 ⟨Nat.zero_le _, Nat.zero_le _⟩) ?_
  refine lv_iload_n hx hb dX3_alive_4 rfl (lv_at hl 2 rfl) ?_
  refine lv_if_lt (tgt := 14) hx hb dX3_alive_5 (by decide) (fun c_2 => ?_) (fun c_2 => ?_)
  · exact throwS0 (E := xIA) (text := "years is not 0 to 60") hx hb hl0 hown ht hlocks hKX (by decide +kernel) hKX.1.1.2.1 (by decide) (hts (.classLink RX3 39 xIA) (by decide +kernel)) (hts (.initialized xIA) (by decide +kernel)) (fun w hw => hts w (List.mem_cons_of_mem _ (List.mem_append_right _ hw))) exN_IA exG_IA (hl.1.trans hml.symm) dX3_alive_14 dX3_alive_17 dX3_alive_18 dX3_alive_20 dX3_alive_23 (Nat.le_of_ble_eq_true rfl) (Nat.le_of_ble_eq_true rfl) (Nat.le_of_ble_eq_true rfl) (Nat.le_of_ble_eq_true rfl) rfl
  · refine lv_iload_n hx hb dX3_alive_8 rfl (lv_at hl 2 rfl) ?_
    refine lv_bipush (v := 60) hx hb dX3_alive_9 (by decide) ?_
    refine lv_icmp_le (tgt := 24) hx hb dX3_alive_11 (by decide) (fun c_3 => ?_) (fun c_3 => ?_)
    · exfalso; simp_all [i_le, i_lt] <;> omega
    · exact throwS0 (E := xIA) (text := "years is not 0 to 60") hx hb hl0 hown ht hlocks hKX (by decide +kernel) hKX.1.1.2.1 (by decide) (hts (.classLink RX3 39 xIA) (by decide +kernel)) (hts (.initialized xIA) (by decide +kernel)) (fun w hw => hts w (List.mem_cons_of_mem _ (List.mem_append_right _ hw))) exN_IA exG_IA (hl.1.trans hml.symm) dX3_alive_14 dX3_alive_17 dX3_alive_18 dX3_alive_20 dX3_alive_23 (Nat.le_of_ble_eq_true rfl) (Nat.le_of_ble_eq_true rfl) (Nat.le_of_ble_eq_true rfl) (Nat.le_of_ble_eq_true rfl) rfl
set_option maxHeartbeats 4000000 in
set_option maxRecDepth 100000 in
theorem met_X3_affords (l : Launch) (dC : Nat → ClassId) (dI : Nat → Nat → Nat) (cI cW : ClassId) (X Bk Br : Nat → Nat) (d r : Nat → Int32) (n : Nat) (ch pd pr yr : Int32) (Wd : Nat → Nat → Int32) (n2 : Nat) (ch2 pd2 pr2 yr2 : Int32) (W2 : Nat → Nat → Int32) (R : va_W) (ka kb : Nat) (money : Int32) (h1 : 50 ≤ ka) (h2 : ka ≤ 99) (h3 : kb ≤ 30) (h4 : 1 ≤ money ∧ money ≤ 99999) (hm : ∀ k : Nat, k < 999 → priceS (r 1) (nI (k + 1)) (wN d (r 0) (100 - ka) kb) ≤ money → priceS (r 1) (nI k) (wN d (r 0) (100 - ka) kb) ≤ money) (hi : ¬ (1000 : Int32) + r 0 = 0) (hi0 : ¬ r 0 < 0) : Met l yX3_affords wsX3_affords ({ frames := 7, cells := 0, slots := 0, locals := 110 }) (Pre0 dC dI cI cW [.ref (X 0), .int (nI ka), .int (nI kb), .int money] (tab cI X d r ++ (bk cW X Bk n ch pd pr yr Wd ++ (bk cW X Br n2 ch2 pd2 pr2 yr2 W2 ++ (obj X Bk Br :: R))))) (vp_Si (fun z => z = (if wN d (r 0) (100 - ka) kb = 0 then 0 else nI (gS (r 1) (wN d (r 0) (100 - ka) kb) money)))) 0 0 (fun _ => False) := by
  refine Met.ofW (cc := cX3_affords) (maxL := 5) (ret := (some .int)) (by decide) rfl ?_
  intro p e s m args below meth c s₁ B hml hv
  obtain ⟨rfl, hP, hKK⟩ := hv
  have hx := B.exec
  have hb := B.bytes
  have hr := B.returns
  have hts := atoms_spec (ws := wsX3_affords) B.pre
  have hown : s.vm.findClass RX3 = some m.cls := findClass_of_methodNamed B.named
  have hlocks := B.notSynchronized
  have hl := lv_entry ([.ref (X 0), .int (nI ka), .int (nI kb), .int money]) (n := 5) (Nat.le_of_ble_eq_true rfl)
  rw [lg_entry_eq]
  generalize (lg_sl ([.ref (X 0), .int (nI ka), .int (nI kb), .int money]) ++ List.replicate (5 - (lg_sl ([.ref (X 0), .int (nI ka), .int (nI kb), .int money])).length) Slot.unset).toArray = ls at hl ⊢
  have hl : lv_has ls 5 [(0, .ref (X 0)), (1, .int (nI ka)), (2, .int (nI kb)), (3, .int money)] := hl
  refine lv_iload_n hx hb dX3_affords_0 rfl (lv_at hl 1 rfl) ?_
  refine rd_v (runS0 (As := [.int (nI ka)]) (rest := []) ⟨hx, hb, hml, hown, hts⟩ (met_X3_checkAge l dC dI cI cW  (nI ka) (age_in h1 h2)) (va_cwS 1 hts gX3_affords_X3_checkAge rfl rfl rfl (by decide +kernel) ⟨Nat.le_of_ble_eq_true rfl, Nat.le_of_ble_eq_true rfl⟩) hKK nilP rfl hl.1 (Nat.le_of_ble_eq_true rfl) rfl dX3_affords_1 ⟨Nat.zero_le _, Nat.zero_le _⟩) ?_
  refine lv_iload_n hx hb dX3_affords_4 rfl (lv_at hl 2 rfl) ?_
  refine rd_v (runS0 (As := [.int (nI kb)]) (rest := []) ⟨hx, hb, hml, hown, hts⟩ (met_X3_checkPutOff l dC dI cI cW  (nI kb) (put_in h3)) (va_cwS 1 hts gX3_affords_X3_checkPutOff rfl rfl rfl (by decide +kernel) ⟨Nat.le_of_ble_eq_true rfl, Nat.le_of_ble_eq_true rfl⟩) hKK nilP rfl hl.1 (Nat.le_of_ble_eq_true rfl) rfl dX3_affords_5 ⟨Nat.zero_le _, Nat.zero_le _⟩) ?_
  refine lv_iload_n hx hb dX3_affords_8 rfl (lv_at hl 3 rfl) ?_
  refine lv_iconst (v := 1) hx hb dX3_affords_9 (by decide) ?_
  refine lv_icmp_lt (tgt := 19) hx hb dX3_affords_10 (by decide) (fun c_3 => ?_) (fun c_3 => ?_)
  · exact absurd h4.1 (Int32.not_le.mpr c_3)
  · refine lv_iload_n hx hb dX3_affords_13 rfl (lv_at hl 3 rfl) ?_
    refine lv_ldc (v := 99999) hx hb hown (hts (.constant RX3 131 99999) (by decide +kernel)) dX3_affords_14 ?_
    refine lv_icmp_le (tgt := 29) hx hb dX3_affords_16 (by decide) (fun c_4 => ?_) (fun c_4 => ?_)
    · refine lv_aload_n hx hb dX3_affords_29 rfl (lv_at hl 0 rfl) ?_
      refine va_get (D := (dC, dI)) (ci := 3) (v := .ref (X 1)) (C := RX3) (T := TX3) (N := 3) hx hb hts (by decide +kernel) hown hKK.1 hP 27 cw_obj rfl 0 (by decide) (hts (.fieldLink RX3 12 "WidowPennies" "tables" "LWidowPennies$Tables;") (by decide +kernel)) (fun _ h9 => h9) rfl dX3_affords_30 ?_
      refine lv_iload_n hx hb dX3_affords_33 rfl (lv_at hl 1 rfl) ?_
      refine lv_iload_n hx hb dX3_affords_34 rfl (lv_at hl 2 rfl) ?_
      refine rd_i (runV0 (As := [.int (nI ka), .int (nI kb)]) (rest := []) ⟨hx, hb, hml, hown, hts⟩ (met_X1_worthNow l dC dI cI cW X d r ka kb h1 h2 h3 hi hi0) (cwV 2 hts gX3_affords_X1_worthNow rfl rfl rfl (by decide +kernel) ⟨Nat.le_of_ble_eq_true rfl, Nat.le_of_ble_eq_true rfl⟩) hKK (ws_left hP) 1 0 rfl rfl rfl hl.1 (Nat.le_of_ble_eq_true rfl) rfl dX3_affords_35 ⟨Nat.zero_le _, Nat.zero_le _⟩) (fun r_5 hr_5 => ?_)
      subst hr_5
      refine lv_istore (lv' := [(4, .int (wN d (r 0) (100 - ka) kb)), (0, .ref (X 0)), (1, .int (nI ka)), (2, .int (nI kb)), (3, .int money)]) hx hb dX3_affords_38 hl (by decide) rfl (fun ls hl => ?_)
      refine lv_iload hx hb dX3_affords_40 (lv_at hl 0 rfl) ?_
      refine lv_if_ne (tgt := 49) hx hb dX3_affords_42 (by decide) (fun c_6 => ?_) (fun c_6 => ?_)
      · refine lv_aload_n hx hb dX3_affords_49 rfl (lv_at hl 1 rfl) ?_
        refine va_get (D := (dC, dI)) (ci := 3) (v := .ref (X 1)) (C := RX3) (T := TX3) (N := 3) hx hb hts (by decide +kernel) hown hKK.1 hP 27 cw_obj rfl 0 (by decide) (hts (.fieldLink RX3 12 "WidowPennies" "tables" "LWidowPennies$Tables;") (by decide +kernel)) (fun _ h9 => h9) rfl dX3_affords_50 ?_
        refine lv_iload hx hb dX3_affords_53 (lv_at hl 0 rfl) ?_
        refine lv_iload_n hx hb dX3_affords_55 rfl (lv_at hl 4 rfl) ?_
        refine rd_i (runV0 (As := [.int (wN d (r 0) (100 - ka) kb), .int money]) (rest := []) ⟨hx, hb, hml, hown, hts⟩ (met_X1_greatestSum l dC dI cI cW X d r (wN d (r 0) (100 - ka) kb) money hm) (cwV 2 hts gX3_affords_X1_greatestSum rfl rfl rfl (by decide +kernel) ⟨Nat.le_of_ble_eq_true rfl, Nat.le_of_ble_eq_true rfl⟩) hKK (ws_left hP) 1 0 rfl rfl rfl hl.1 (Nat.le_of_ble_eq_true rfl) rfl dX3_affords_56 ⟨Nat.zero_le _, Nat.zero_le _⟩) (fun r_7 hr_7 => ?_)
        subst hr_7
        have hz : (nI (gS (r 1) (wN d (r 0) (100 - ka) kb) money)) = (if wN d (r 0) (100 - ka) kb = 0 then 0 else nI (gS (r 1) (wN d (r 0) (100 - ka) kb) money)) := by rw [if_neg c_6]
        exact W.iret (v := (nI (gS (r 1) (wN d (r 0) (100 - ka) kb) money))) hx hb hr (fun t ht hW => ⟨_, rfl, hz, ht⟩) (fun q hq => absurd hq List.not_mem_nil) dX3_affords_59
      · refine lv_iconst (v := 0) hx hb dX3_affords_45 (by decide) ?_
        refine lv_goto (tgt := 59) hx hb dX3_affords_46 (by decide) ?_
        have hz : (0) = (if wN d (r 0) (100 - ka) kb = 0 then 0 else nI (gS (r 1) (wN d (r 0) (100 - ka) kb) money)) := by rw [if_pos c_6]
        exact W.iret (v := 0) hx hb hr (fun t ht hW => ⟨_, rfl, hz, ht⟩) (fun q hq => absurd hq List.not_mem_nil) dX3_affords_59
    · exact absurd h4.2 c_4
set_option maxHeartbeats 4000000 in
set_option maxRecDepth 100000 in
theorem bad_X3_affords (l : Launch) (hl0 : l.stackTraces = false) (dC : Nat → ClassId) (dI : Nat → Nat → Nat) (cI cW : ClassId) (X Bk Br : Nat → Nat) (d r : Nat → Int32) (n : Nat) (ch pd pr yr : Int32) (Wd : Nat → Nat → Int32) (n2 : Nat) (ch2 pd2 pr2 yr2 : Int32) (W2 : Nat → Nat → Int32) (R : va_W) (a p9 money : Int32) (h9 : ¬ ((50 ≤ a ∧ a ≤ 99) ∧ (0 ≤ p9 ∧ p9 ≤ 30) ∧ (1 ≤ money ∧ money ≤ 99999))) (sz : Nat) : vx_Met l yX3_affords wsX3_affords ({ frames := 7, cells := 1, slots := 6, locals := 110 }) (PreX dC dI cI cW [.ref (X 0), .int a, .int p9, .int money] (tab cI X d r ++ (bk cW X Bk n ch pd pr yr Wd ++ (bk cW X Br n2 ch2 pd2 pr2 yr2 W2 ++ (obj X Bk Br :: R)))) sz) (NoI sz) (XCr xIA sz) 1 6 (NEW sz) := by
  refine vx_ofW (cc := cX3_affords) (maxL := 5) (ret := (some .int)) (by decide) rfl ?_
  intro p e s m args below meth c s₁ B hml ht hv
  obtain ⟨rfl, hsz, hP, hKK, hKX⟩ := hv
  subst hsz
  have hx := B.exec
  have hb := B.bytes
  have hts := atoms_spec (ws := wsX3_affords) B.pre
  have hown : s.vm.findClass RX3 = some m.cls := findClass_of_methodNamed B.named
  have hlocks := B.notSynchronized
  have hl := lv_entry ([.ref (X 0), .int a, .int p9, .int money]) (n := 5) (Nat.le_of_ble_eq_true rfl)
  rw [lg_entry_eq]
  generalize (lg_sl ([.ref (X 0), .int a, .int p9, .int money]) ++ List.replicate (5 - (lg_sl ([.ref (X 0), .int a, .int p9, .int money])).length) Slot.unset).toArray = ls at hl ⊢
  have hl : lv_has ls 5 [(0, .ref (X 0)), (1, .int a), (2, .int p9), (3, .int money)] := hl
  refine lv_iload_n hx hb dX3_affords_0 rfl (lv_at hl 1 rfl) ?_
  rcases Classical.em (50 ≤ a ∧ a ≤ 99) with k_1 | k_1
  case inr => exact badS (As := [.int a]) (rest := []) ⟨hx, hb, hml, hown, hts⟩ (bad_X3_checkAge l hl0 dC dI cI cW  a k_1 _) (va_cwS 1 hts gX3_affords_X3_checkAge rfl rfl rfl (by decide +kernel) ⟨Nat.le_of_ble_eq_true rfl, Nat.le_of_ble_eq_true rfl⟩) hKK hKX nilP rfl hl.1 (Nat.le_of_ble_eq_true rfl) rfl dX3_affords_1 ⟨Nat.le_of_ble_eq_true rfl, Nat.le_of_ble_eq_true rfl⟩ ht hlocks rfl
  refine rd_v (runS0 (As := [.int a]) (rest := []) ⟨hx, hb, hml, hown, hts⟩ (met_X3_checkAge l dC dI cI cW  a k_1) (va_cwS 1 hts gX3_affords_X3_checkAge rfl rfl rfl (by decide +kernel) ⟨Nat.le_of_ble_eq_true rfl, Nat.le_of_ble_eq_true rfl⟩) hKK nilP rfl hl.1 (Nat.le_of_ble_eq_true rfl) rfl dX3_affords_1 ⟨Nat.zero_le _, Nat.zero_le _⟩) ?_
  refine lv_iload_n hx hb dX3_affords_4 rfl (lv_at hl 2 rfl) ?_
  rcases Classical.em (0 ≤ p9 ∧ p9 ≤ 30) with k_2 | k_2
  case inr => exact badS (As := [.int p9]) (rest := []) ⟨hx, hb, hml, hown, hts⟩ (bad_X3_checkPutOff l hl0 dC dI cI cW  p9 k_2 _) (va_cwS 1 hts gX3_affords_X3_checkPutOff rfl rfl rfl (by decide +kernel) ⟨Nat.le_of_ble_eq_true rfl, Nat.le_of_ble_eq_true rfl⟩) hKK hKX nilP rfl hl.1 (Nat.le_of_ble_eq_true rfl) rfl dX3_affords_5 ⟨Nat.le_of_ble_eq_true rfl, Nat.le_of_ble_eq_true rfl⟩ ht hlocks rfl
  refine rd_v (runS0 (As := [.int p9]) (rest := []) ⟨hx, hb, hml, hown, hts⟩ (met_X3_checkPutOff l dC dI cI cW  p9 k_2) (va_cwS 1 hts gX3_affords_X3_checkPutOff rfl rfl rfl (by decide +kernel) ⟨Nat.le_of_ble_eq_true rfl, Nat.le_of_ble_eq_true rfl⟩) hKK nilP rfl hl.1 (Nat.le_of_ble_eq_true rfl) rfl dX3_affords_5 ⟨Nat.zero_le _, Nat.zero_le _⟩) ?_
  refine lv_iload_n hx hb dX3_affords_8 rfl (lv_at hl 3 rfl) ?_
  refine lv_iconst (v := 1) hx hb dX3_affords_9 (by decide) ?_
  refine lv_icmp_lt (tgt := 19) hx hb dX3_affords_10 (by decide) (fun c_3 => ?_) (fun c_3 => ?_)
  · exact throwS0 (E := xIA) (text := "money is not 1 to 99999") hx hb hl0 hown ht hlocks hKX (by decide +kernel) hKX.1.1.2.1 (by decide) (hts (.classLink RX3 39 xIA) (by decide +kernel)) (hts (.initialized xIA) (by decide +kernel)) (fun w hw => hts w (List.mem_cons_of_mem _ (List.mem_append_right _ hw))) exN_IA exG_IA (hl.1.trans hml.symm) dX3_affords_19 dX3_affords_22 dX3_affords_23 dX3_affords_25 dX3_affords_28 (Nat.le_of_ble_eq_true rfl) (Nat.le_of_ble_eq_true rfl) (Nat.le_of_ble_eq_true rfl) (Nat.le_of_ble_eq_true rfl) rfl
  · refine lv_iload_n hx hb dX3_affords_13 rfl (lv_at hl 3 rfl) ?_
    refine lv_ldc (v := 99999) hx hb hown (hts (.constant RX3 131 99999) (by decide +kernel)) dX3_affords_14 ?_
    refine lv_icmp_le (tgt := 29) hx hb dX3_affords_16 (by decide) (fun c_4 => ?_) (fun c_4 => ?_)
    · exfalso; simp_all [i_le, i_lt] <;> omega
    · exact throwS0 (E := xIA) (text := "money is not 1 to 99999") hx hb hl0 hown ht hlocks hKX (by decide +kernel) hKX.1.1.2.1 (by decide) (hts (.classLink RX3 39 xIA) (by decide +kernel)) (hts (.initialized xIA) (by decide +kernel)) (fun w hw => hts w (List.mem_cons_of_mem _ (List.mem_append_right _ hw))) exN_IA exG_IA (hl.1.trans hml.symm) dX3_affords_19 dX3_affords_22 dX3_affords_23 dX3_affords_25 dX3_affords_28 (Nat.le_of_ble_eq_true rfl) (Nat.le_of_ble_eq_true rfl) (Nat.le_of_ble_eq_true rfl) (Nat.le_of_ble_eq_true rfl) rfl
set_option maxHeartbeats 4000000 in
set_option maxRecDepth 100000 in
theorem met_X3_setDeaths (l : Launch) (dC : Nat → ClassId) (dI : Nat → Nat → Nat) (cI cW : ClassId) (X Bk Br : Nat → Nat) (d r : Nat → Int32) (n : Nat) (ch pd pr yr : Int32) (Wd : Nat → Nat → Int32) (n2 : Nat) (ch2 pd2 pr2 yr2 : Int32) (W2 : Nat → Nat → Int32) (R : va_W) (ka : Nat) (h1 : 50 ≤ ka) (h2 : ka ≤ 99) (x : Int32) (h4 : 0 ≤ x ∧ x ≤ 1000) (sz : Nat) : Met l yX3_setDeaths wsX3_setDeaths ({ frames := 2, cells := 0, slots := 0, locals := 42 }) (Pre1 dC dI cI cW [.ref (X 0), .int (nI ka), .int x] (tab cI X d r ++ (bk cW X Bk n ch pd pr yr Wd ++ (bk cW X Br n2 ch2 pd2 pr2 yr2 W2 ++ (obj X Bk Br :: R)))) sz) (Qi1 dC dI (fun z => z = d (ka - 50)) (tab cI X d r ++ (bk cW X Bk n ch pd pr yr Wd ++ (bk cW X Br n2 ch2 pd2 pr2 yr2 W2 ++ (obj X Bk Br :: R)))) (tab cI X (upd d (ka - 50) x) r ++ (bk cW X Bk n ch pd pr yr Wd ++ (bk cW X Br n2 ch2 pd2 pr2 yr2 W2 ++ (obj X Bk Br :: R)))) sz) 0 0 (va_A (tab cI X d r ++ (bk cW X Bk n ch pd pr yr Wd ++ (bk cW X Br n2 ch2 pd2 pr2 yr2 W2 ++ (obj X Bk Br :: R)))) sz) := by
  refine Met.ofW (cc := cX3_setDeaths) (maxL := 4) (ret := (some .int)) (by decide) rfl ?_
  intro p e s m args below meth c s₁ B hml hv
  obtain ⟨rfl, hsz, hP, hD0, hKK⟩ := hv
  subst hsz
  have hx := B.exec
  have hb := B.bytes
  have hr := B.returns
  have hts := atoms_spec (ws := wsX3_setDeaths) B.pre
  have hown : s.vm.findClass RX3 = some m.cls := findClass_of_methodNamed B.named
  have hlocks := B.notSynchronized
  have hD := hD0.self (sz := s.heap.size)
  generalize hAe : va_A (tab cI X d r ++ (bk cW X Bk n ch pd pr yr Wd ++ (bk cW X Br n2 ch2 pd2 pr2 yr2 W2 ++ (obj X Bk Br :: R)))) s.heap.size = A at hD ⊢
  have hA : ∀ q : Nat, s.heap.size ≤ q → A q := fun q h => by rw [← hAe]; exact Or.inr h
  have hS : va_S A s.heap s.heap [] := va_S.rf
  have hl := lv_entry ([.ref (X 0), .int (nI ka), .int x]) (n := 4) (Nat.le_of_ble_eq_true rfl)
  rw [lg_entry_eq]
  generalize (lg_sl ([.ref (X 0), .int (nI ka), .int x]) ++ List.replicate (4 - (lg_sl ([.ref (X 0), .int (nI ka), .int x])).length) Slot.unset).toArray = ls at hl ⊢
  have hl : lv_has ls 4 [(0, .ref (X 0)), (1, .int (nI ka)), (2, .int x)] := hl
  refine lv_iload_n hx hb dX3_setDeaths_0 rfl (lv_at hl 1 rfl) ?_
  refine rd_i (runS0 (As := [.int (nI ka)]) (rest := []) ⟨hx, hb, hml, hown, hts⟩ (met_X3_isAge l dC dI cI cW (nI ka)) (va_cwS 1 hts gX3_setDeaths_X3_isAge rfl rfl rfl (by decide +kernel) ⟨Nat.le_of_ble_eq_true rfl, Nat.le_of_ble_eq_true rfl⟩) hKK nilP rfl hl.1 (Nat.le_of_ble_eq_true rfl) rfl dX3_setDeaths_1 ⟨Nat.zero_le _, Nat.zero_le _⟩) (fun r_1 hr_1 => ?_)
  subst hr_1
  refine lv_if_ne (tgt := 17) hx hb dX3_setDeaths_4 (by decide) (fun c_2 => ?_) (fun c_2 => ?_)
  · have bc_2 : 50 ≤ (nI ka) ∧ (nI ka) ≤ 99 := b1.mp c_2
    refine lv_iload_n hx hb dX3_setDeaths_17 rfl (lv_at hl 2 rfl) ?_
    refine lv_if_lt (tgt := 28) hx hb dX3_setDeaths_18 (by decide) (fun c_3 => ?_) (fun c_3 => ?_)
    · exact absurd h4.1 (Int32.not_le.mpr c_3)
    · refine lv_iload_n hx hb dX3_setDeaths_21 rfl (lv_at hl 2 rfl) ?_
      refine lv_sipush (v := 1000) hx hb dX3_setDeaths_22 (by decide) ?_
      refine lv_icmp_le (tgt := 38) hx hb dX3_setDeaths_25 (by decide) (fun c_4 => ?_) (fun c_4 => ?_)
      · refine lv_aload_n hx hb dX3_setDeaths_38 rfl (lv_at hl 0 rfl) ?_
        refine va_get (D := (dC, dI)) (ci := 3) (v := .ref (X 1)) (C := RX3) (T := TX3) (N := 3) hx hb hts (by decide +kernel) hown hKK.1 hP 27 cw_obj rfl 0 (by decide) (hts (.fieldLink RX3 12 "WidowPennies" "tables" "LWidowPennies$Tables;") (by decide +kernel)) (fun _ h9 => h9) rfl dX3_setDeaths_39 ?_
        refine lv_iload_n hx hb dX3_setDeaths_42 rfl (lv_at hl 1 rfl) ?_
        refine rd_i (runV0 (As := [.int (nI ka)]) (rest := []) ⟨hx, hb, hml, hown, hts⟩ (met_X1_deathsAt l dC dI cI cW X d r (nI ka)) (cwV 1 hts gX3_setDeaths_X1_deathsAt rfl rfl rfl (by decide +kernel) ⟨Nat.le_of_ble_eq_true rfl, Nat.le_of_ble_eq_true rfl⟩) hKK (ws_left hP) 1 0 rfl rfl rfl hl.1 (Nat.le_of_ble_eq_true rfl) rfl dX3_setDeaths_43 ⟨Nat.zero_le _, Nat.zero_le _⟩) (fun r_5 hr_5 => ?_)
        subst hr_5
        rw [show (dAt d (nI ka) : Int32) = d (ka - 50) from dAt_nI d h1 h2]
        refine lv_istore_n (lv' := [(3, .int (d (ka - 50))), (0, .ref (X 0)), (1, .int (nI ka)), (2, .int x)]) hx hb dX3_setDeaths_46 rfl hl (by decide) rfl (fun ls hl => ?_)
        refine lv_aload_n hx hb dX3_setDeaths_47 rfl (lv_at hl 1 rfl) ?_
        refine va_get (D := (dC, dI)) (ci := 3) (v := .ref (X 1)) (C := RX3) (T := TX3) (N := 3) hx hb hts (by decide +kernel) hown hKK.1 hP 27 cw_obj rfl 0 (by decide) (hts (.fieldLink RX3 12 "WidowPennies" "tables" "LWidowPennies$Tables;") (by decide +kernel)) (fun _ h9 => h9) rfl dX3_setDeaths_48 ?_
        refine lv_iload_n hx hb dX3_setDeaths_51 rfl (lv_at hl 2 rfl) ?_
        refine lv_iload_n hx hb dX3_setDeaths_52 rfl (lv_at hl 3 rfl) ?_
        refine wr_v (runV1 (As := [.int (nI ka), .int x]) (rest := []) ⟨hx, hb, hml, hown, hts⟩ (met_X1_changeDeaths l dC dI cI cW X d r (bk cW X Bk n ch pd pr yr Wd ++ (bk cW X Br n2 ch2 pd2 pr2 yr2 W2 ++ (obj X Bk Br :: R))) ka h1 h2 x _) (cwV 2 hts gX3_setDeaths_X1_changeDeaths rfl rfl rfl (by decide +kernel) ⟨Nat.le_of_ble_eq_true rfl, Nat.le_of_ble_eq_true rfl⟩) hKK hP hD 1 0 rfl rfl rfl hl.1 (Nat.le_of_ble_eq_true rfl) rfl dX3_setDeaths_53 ⟨Nat.zero_le _, Nat.zero_le _⟩) hD hS hA (fun H locs hP hD hS => ?_)
        have hP : va_P (dC, dI) vwCl (tab cI X (upd d (ka - 50) x) r ++ (bk cW X Bk n ch pd pr yr Wd ++ (bk cW X Br n2 ch2 pd2 pr2 yr2 W2 ++ (obj X Bk Br :: R)))) H := hP
        have hD : va_D A (tab cI X (upd d (ka - 50) x) r ++ (bk cW X Bk n ch pd pr yr Wd ++ (bk cW X Br n2 ch2 pd2 pr2 yr2 W2 ++ (obj X Bk Br :: R)))) := hD
        refine lv_iload_n hx hb dX3_setDeaths_56 rfl (lv_at hl 0 rfl) ?_
        have hP9 : va_P (dC, dI) vwCl (tab cI X (upd d (ka - 50) x) r ++ (bk cW X Bk n ch pd pr yr Wd ++ (bk cW X Br n2 ch2 pd2 pr2 yr2 W2 ++ (obj X Bk Br :: R)))) _ := hP
        have hD9 : va_D A (tab cI X (upd d (ka - 50) x) r ++ (bk cW X Bk n ch pd pr yr Wd ++ (bk cW X Br n2 ch2 pd2 pr2 yr2 W2 ++ (obj X Bk Br :: R)))) := hD
        have hz : (d (ka - 50)) = d (ka - 50) := rfl
        exact W.iret (v := (d (ka - 50))) hx hb hr (fun t ht hW => ⟨⟨_, (), rfl, hz, by rw [ht]; exact hP9, by rw [hAe]; exact hD9⟩, by rw [hAe]; exact hS.F ht⟩) hS.2.2 dX3_setDeaths_57
      · exact absurd h4.2 c_4
  · have bc_2 : ¬ (50 ≤ (nI ka) ∧ (nI ka) ≤ 99) := b0.mp c_2
    exact absurd (age_in h1 h2) bc_2
set_option maxHeartbeats 4000000 in
set_option maxRecDepth 100000 in
theorem bad1_X3_setDeaths (l : Launch) (hl0 : l.stackTraces = false) (dC : Nat → ClassId) (dI : Nat → Nat → Nat) (cI cW : ClassId) (X Bk Br : Nat → Nat) (d r : Nat → Int32) (n : Nat) (ch pd pr yr : Int32) (Wd : Nat → Nat → Int32) (n2 : Nat) (ch2 pd2 pr2 yr2 : Int32) (W2 : Nat → Nat → Int32) (R : va_W) (a x : Int32) (h9 : ¬ (50 ≤ a ∧ a ≤ 99)) (sz : Nat) : vx_Met l yX3_setDeaths wsX3_setDeaths ({ frames := 6, cells := 1, slots := 6, locals := 90 }) (PreX dC dI cI cW [.ref (X 0), .int a, .int x] (tab cI X d r ++ (bk cW X Bk n ch pd pr yr Wd ++ (bk cW X Br n2 ch2 pd2 pr2 yr2 W2 ++ (obj X Bk Br :: R)))) sz) (NoI sz) (XCr xIO sz) 1 6 (NEW sz) := by
  refine vx_ofW (cc := cX3_setDeaths) (maxL := 4) (ret := (some .int)) (by decide) rfl ?_
  intro p e s m args below meth c s₁ B hml ht hv
  obtain ⟨rfl, hsz, hP, hKK, hKX⟩ := hv
  subst hsz
  have hx := B.exec
  have hb := B.bytes
  have hts := atoms_spec (ws := wsX3_setDeaths) B.pre
  have hown : s.vm.findClass RX3 = some m.cls := findClass_of_methodNamed B.named
  have hlocks := B.notSynchronized
  have hl := lv_entry ([.ref (X 0), .int a, .int x]) (n := 4) (Nat.le_of_ble_eq_true rfl)
  rw [lg_entry_eq]
  generalize (lg_sl ([.ref (X 0), .int a, .int x]) ++ List.replicate (4 - (lg_sl ([.ref (X 0), .int a, .int x])).length) Slot.unset).toArray = ls at hl ⊢
  have hl : lv_has ls 4 [(0, .ref (X 0)), (1, .int a), (2, .int x)] := hl
  refine lv_iload_n hx hb dX3_setDeaths_0 rfl (lv_at hl 1 rfl) ?_
  refine rd_i (runS0 (As := [.int a]) (rest := []) ⟨hx, hb, hml, hown, hts⟩ (met_X3_isAge l dC dI cI cW a) (va_cwS 1 hts gX3_setDeaths_X3_isAge rfl rfl rfl (by decide +kernel) ⟨Nat.le_of_ble_eq_true rfl, Nat.le_of_ble_eq_true rfl⟩) hKK nilP rfl hl.1 (Nat.le_of_ble_eq_true rfl) rfl dX3_setDeaths_1 ⟨Nat.zero_le _, Nat.zero_le _⟩) (fun r_1 hr_1 => ?_)
  subst hr_1
  refine lv_if_ne (tgt := 17) hx hb dX3_setDeaths_4 (by decide) (fun c_2 => ?_) (fun c_2 => ?_)
  · have bc_2 : 50 ≤ a ∧ a ≤ 99 := b1.mp c_2
    exfalso; simp_all [i_le, i_lt] <;> omega
  · have bc_2 : ¬ (50 ≤ a ∧ a ≤ 99) := b0.mp c_2
    exact throwS0 (E := xIO) (text := "age is not 50 to 99") hx hb hl0 hown ht hlocks hKX (by decide +kernel) hKX.1.1.1 (by decide) (hts (.classLink RX3 32 xIO) (by decide +kernel)) (hts (.initialized xIO) (by decide +kernel)) (fun w hw => hts w (List.mem_cons_of_mem _ (List.mem_append_left _ (List.mem_append_right _ hw)))) exN_IO exG_IO (hl.1.trans hml.symm) dX3_setDeaths_7 dX3_setDeaths_10 dX3_setDeaths_11 dX3_setDeaths_13 dX3_setDeaths_16 (Nat.le_of_ble_eq_true rfl) (Nat.le_of_ble_eq_true rfl) (Nat.le_of_ble_eq_true rfl) (Nat.le_of_ble_eq_true rfl) rfl
set_option maxHeartbeats 4000000 in
set_option maxRecDepth 100000 in
theorem bad2_X3_setDeaths (l : Launch) (hl0 : l.stackTraces = false) (dC : Nat → ClassId) (dI : Nat → Nat → Nat) (cI cW : ClassId) (X Bk Br : Nat → Nat) (d r : Nat → Int32) (n : Nat) (ch pd pr yr : Int32) (Wd : Nat → Nat → Int32) (n2 : Nat) (ch2 pd2 pr2 yr2 : Int32) (W2 : Nat → Nat → Int32) (R : va_W) (a x : Int32) (h8 : 50 ≤ a ∧ a ≤ 99) (h9 : ¬ (0 ≤ x ∧ x ≤ 1000)) (sz : Nat) : vx_Met l yX3_setDeaths wsX3_setDeaths ({ frames := 6, cells := 1, slots := 6, locals := 90 }) (PreX dC dI cI cW [.ref (X 0), .int a, .int x] (tab cI X d r ++ (bk cW X Bk n ch pd pr yr Wd ++ (bk cW X Br n2 ch2 pd2 pr2 yr2 W2 ++ (obj X Bk Br :: R)))) sz) (NoI sz) (XCr xIA sz) 1 6 (NEW sz) := by
  refine vx_ofW (cc := cX3_setDeaths) (maxL := 4) (ret := (some .int)) (by decide) rfl ?_
  intro p e s m args below meth c s₁ B hml ht hv
  obtain ⟨rfl, hsz, hP, hKK, hKX⟩ := hv
  subst hsz
  have hx := B.exec
  have hb := B.bytes
  have hts := atoms_spec (ws := wsX3_setDeaths) B.pre
  have hown : s.vm.findClass RX3 = some m.cls := findClass_of_methodNamed B.named
  have hlocks := B.notSynchronized
  have hl := lv_entry ([.ref (X 0), .int a, .int x]) (n := 4) (Nat.le_of_ble_eq_true rfl)
  rw [lg_entry_eq]
  generalize (lg_sl ([.ref (X 0), .int a, .int x]) ++ List.replicate (4 - (lg_sl ([.ref (X 0), .int a, .int x])).length) Slot.unset).toArray = ls at hl ⊢
  have hl : lv_has ls 4 [(0, .ref (X 0)), (1, .int a), (2, .int x)] := hl
  refine lv_iload_n hx hb dX3_setDeaths_0 rfl (lv_at hl 1 rfl) ?_
  refine rd_i (runS0 (As := [.int a]) (rest := []) ⟨hx, hb, hml, hown, hts⟩ (met_X3_isAge l dC dI cI cW a) (va_cwS 1 hts gX3_setDeaths_X3_isAge rfl rfl rfl (by decide +kernel) ⟨Nat.le_of_ble_eq_true rfl, Nat.le_of_ble_eq_true rfl⟩) hKK nilP rfl hl.1 (Nat.le_of_ble_eq_true rfl) rfl dX3_setDeaths_1 ⟨Nat.zero_le _, Nat.zero_le _⟩) (fun r_1 hr_1 => ?_)
  subst hr_1
  refine lv_if_ne (tgt := 17) hx hb dX3_setDeaths_4 (by decide) (fun c_2 => ?_) (fun c_2 => ?_)
  · have bc_2 : 50 ≤ a ∧ a ≤ 99 := b1.mp c_2
    refine lv_iload_n hx hb dX3_setDeaths_17 rfl (lv_at hl 2 rfl) ?_
    refine lv_if_lt (tgt := 28) hx hb dX3_setDeaths_18 (by decide) (fun c_3 => ?_) (fun c_3 => ?_)
    · exact throwS0 (E := xIA) (text := "deaths is not 0 to 1000") hx hb hl0 hown ht hlocks hKX (by decide +kernel) hKX.1.1.2.1 (by decide) (hts (.classLink RX3 39 xIA) (by decide +kernel)) (hts (.initialized xIA) (by decide +kernel)) (fun w hw => hts w (List.mem_cons_of_mem _ (List.mem_append_right _ hw))) exN_IA exG_IA (hl.1.trans hml.symm) dX3_setDeaths_28 dX3_setDeaths_31 dX3_setDeaths_32 dX3_setDeaths_34 dX3_setDeaths_37 (Nat.le_of_ble_eq_true rfl) (Nat.le_of_ble_eq_true rfl) (Nat.le_of_ble_eq_true rfl) (Nat.le_of_ble_eq_true rfl) rfl
    · refine lv_iload_n hx hb dX3_setDeaths_21 rfl (lv_at hl 2 rfl) ?_
      refine lv_sipush (v := 1000) hx hb dX3_setDeaths_22 (by decide) ?_
      refine lv_icmp_le (tgt := 38) hx hb dX3_setDeaths_25 (by decide) (fun c_4 => ?_) (fun c_4 => ?_)
      · exfalso; simp_all [i_le, i_lt] <;> omega
      · exact throwS0 (E := xIA) (text := "deaths is not 0 to 1000") hx hb hl0 hown ht hlocks hKX (by decide +kernel) hKX.1.1.2.1 (by decide) (hts (.classLink RX3 39 xIA) (by decide +kernel)) (hts (.initialized xIA) (by decide +kernel)) (fun w hw => hts w (List.mem_cons_of_mem _ (List.mem_append_right _ hw))) exN_IA exG_IA (hl.1.trans hml.symm) dX3_setDeaths_28 dX3_setDeaths_31 dX3_setDeaths_32 dX3_setDeaths_34 dX3_setDeaths_37 (Nat.le_of_ble_eq_true rfl) (Nat.le_of_ble_eq_true rfl) (Nat.le_of_ble_eq_true rfl) (Nat.le_of_ble_eq_true rfl) rfl
  · have bc_2 : ¬ (50 ≤ a ∧ a ≤ 99) := b0.mp c_2
    exact absurd h8 bc_2
set_option maxHeartbeats 4000000 in
set_option maxRecDepth 100000 in
theorem met_X3_setRate (l : Launch) (dC : Nat → ClassId) (dI : Nat → Nat → Nat) (cI cW : ClassId) (X Bk Br : Nat → Nat) (d r : Nat → Int32) (n : Nat) (ch pd pr yr : Int32) (Wd : Nat → Nat → Int32) (n2 : Nat) (ch2 pd2 pr2 yr2 : Int32) (W2 : Nat → Nat → Int32) (R : va_W) (k : Nat) (hk : k < 3) (x : Int32) (h4 : 0 ≤ x ∧ x ≤ (if k = 0 then (200 : Int32) else 50)) (sz : Nat) : Met l yX3_setRate wsX3_setRate ({ frames := 1, cells := 0, slots := 0, locals := 22 }) (Pre1 dC dI cI cW [.ref (X 0), .int (nI k), .int x] (tab cI X d r ++ (bk cW X Bk n ch pd pr yr Wd ++ (bk cW X Br n2 ch2 pd2 pr2 yr2 W2 ++ (obj X Bk Br :: R)))) sz) (Qi1 dC dI (fun z => z = r k) (tab cI X d r ++ (bk cW X Bk n ch pd pr yr Wd ++ (bk cW X Br n2 ch2 pd2 pr2 yr2 W2 ++ (obj X Bk Br :: R)))) (tab cI X d (upd r k x) ++ (bk cW X Bk n ch pd pr yr Wd ++ (bk cW X Br n2 ch2 pd2 pr2 yr2 W2 ++ (obj X Bk Br :: R)))) sz) 0 0 (va_A (tab cI X d r ++ (bk cW X Bk n ch pd pr yr Wd ++ (bk cW X Br n2 ch2 pd2 pr2 yr2 W2 ++ (obj X Bk Br :: R)))) sz) := by
  refine Met.ofW (cc := cX3_setRate) (maxL := 4) (ret := (some .int)) (by decide) rfl ?_
  intro p e s m args below meth c s₁ B hml hv
  obtain ⟨rfl, hsz, hP, hD0, hKK⟩ := hv
  subst hsz
  have hx := B.exec
  have hb := B.bytes
  have hr := B.returns
  have hts := atoms_spec (ws := wsX3_setRate) B.pre
  have hown : s.vm.findClass RX3 = some m.cls := findClass_of_methodNamed B.named
  have hlocks := B.notSynchronized
  have hD := hD0.self (sz := s.heap.size)
  generalize hAe : va_A (tab cI X d r ++ (bk cW X Bk n ch pd pr yr Wd ++ (bk cW X Br n2 ch2 pd2 pr2 yr2 W2 ++ (obj X Bk Br :: R)))) s.heap.size = A at hD ⊢
  have hA : ∀ q : Nat, s.heap.size ≤ q → A q := fun q h => by rw [← hAe]; exact Or.inr h
  have hS : va_S A s.heap s.heap [] := va_S.rf
  have hl := lv_entry ([.ref (X 0), .int (nI k), .int x]) (n := 4) (Nat.le_of_ble_eq_true rfl)
  rw [lg_entry_eq]
  generalize (lg_sl ([.ref (X 0), .int (nI k), .int x]) ++ List.replicate (4 - (lg_sl ([.ref (X 0), .int (nI k), .int x])).length) Slot.unset).toArray = ls at hl ⊢
  have hl : lv_has ls 4 [(0, .ref (X 0)), (1, .int (nI k)), (2, .int x)] := hl
  refine lv_iload_n hx hb dX3_setRate_0 rfl (lv_at hl 1 rfl) ?_
  refine lv_if_lt (tgt := 9) hx hb dX3_setRate_1 (by decide) (fun c_1 => ?_) (fun c_1 => ?_)
  · exact absurd c_1 (nI_pos (by omega))
  · refine lv_iload_n hx hb dX3_setRate_4 rfl (lv_at hl 1 rfl) ?_
    refine lv_iconst (v := 3) hx hb dX3_setRate_5 (by decide) ?_
    refine lv_icmp_lt (tgt := 19) hx hb dX3_setRate_6 (by decide) (fun c_2 => ?_) (fun c_2 => ?_)
    · refine lv_iload_n hx hb dX3_setRate_19 rfl (lv_at hl 2 rfl) ?_
      refine lv_if_lt (tgt := 39) hx hb dX3_setRate_20 (by decide) (fun c_3 => ?_) (fun c_3 => ?_)
      · exact absurd h4.1 (Int32.not_le.mpr c_3)
      · refine lv_iload_n hx hb dX3_setRate_23 rfl (lv_at hl 2 rfl) ?_
        refine lv_iload_n hx hb dX3_setRate_24 rfl (lv_at hl 1 rfl) ?_
        refine lv_if_ne (tgt := 34) hx hb dX3_setRate_25 (by decide) (fun c_4 => ?_) (fun c_4 => ?_)
        · have hz9 := br_high_n (k := k) c_4
          refine lv_bipush (v := 50) hx hb dX3_setRate_34 (by decide) ?_
          refine lv_icmp_le (tgt := 49) hx hb dX3_setRate_36 (by decide) (fun c_5 => ?_) (fun c_5 => ?_)
          · refine lv_aload_n hx hb dX3_setRate_49 rfl (lv_at hl 0 rfl) ?_
            refine va_get (D := (dC, dI)) (ci := 3) (v := .ref (X 1)) (C := RX3) (T := TX3) (N := 3) hx hb hts (by decide +kernel) hown hKK.1 hP 27 cw_obj rfl 0 (by decide) (hts (.fieldLink RX3 12 "WidowPennies" "tables" "LWidowPennies$Tables;") (by decide +kernel)) (fun _ h9 => h9) rfl dX3_setRate_50 ?_
            refine lv_iload_n hx hb dX3_setRate_53 rfl (lv_at hl 1 rfl) ?_
            refine rd_i (runV0 (As := [.int (nI k)]) (rest := []) ⟨hx, hb, hml, hown, hts⟩ (met_X1_rate l dC dI cI cW X d r k hk) (cwV 1 hts gX3_setRate_X1_rate rfl rfl rfl (by decide +kernel) ⟨Nat.le_of_ble_eq_true rfl, Nat.le_of_ble_eq_true rfl⟩) hKK (ws_left hP) 1 0 rfl rfl rfl hl.1 (Nat.le_of_ble_eq_true rfl) rfl dX3_setRate_54 ⟨Nat.zero_le _, Nat.zero_le _⟩) (fun r_6 hr_6 => ?_)
            subst hr_6
            refine lv_istore_n (lv' := [(3, .int (r k)), (0, .ref (X 0)), (1, .int (nI k)), (2, .int x)]) hx hb dX3_setRate_57 rfl hl (by decide) rfl (fun ls hl => ?_)
            refine lv_aload_n hx hb dX3_setRate_58 rfl (lv_at hl 1 rfl) ?_
            refine va_get (D := (dC, dI)) (ci := 3) (v := .ref (X 1)) (C := RX3) (T := TX3) (N := 3) hx hb hts (by decide +kernel) hown hKK.1 hP 27 cw_obj rfl 0 (by decide) (hts (.fieldLink RX3 12 "WidowPennies" "tables" "LWidowPennies$Tables;") (by decide +kernel)) (fun _ h9 => h9) rfl dX3_setRate_59 ?_
            refine lv_iload_n hx hb dX3_setRate_62 rfl (lv_at hl 2 rfl) ?_
            refine lv_iload_n hx hb dX3_setRate_63 rfl (lv_at hl 3 rfl) ?_
            refine wr_v (runV1 (As := [.int (nI k), .int x]) (rest := []) ⟨hx, hb, hml, hown, hts⟩ (met_X1_changeRate l dC dI cI cW X d r (bk cW X Bk n ch pd pr yr Wd ++ (bk cW X Br n2 ch2 pd2 pr2 yr2 W2 ++ (obj X Bk Br :: R))) k hk x _) (cwV 2 hts gX3_setRate_X1_changeRate rfl rfl rfl (by decide +kernel) ⟨Nat.le_of_ble_eq_true rfl, Nat.le_of_ble_eq_true rfl⟩) hKK hP hD 1 0 rfl rfl rfl hl.1 (Nat.le_of_ble_eq_true rfl) rfl dX3_setRate_64 ⟨Nat.zero_le _, Nat.zero_le _⟩) hD hS hA (fun H locs hP hD hS => ?_)
            have hP : va_P (dC, dI) vwCl (tab cI X d (upd r k x) ++ (bk cW X Bk n ch pd pr yr Wd ++ (bk cW X Br n2 ch2 pd2 pr2 yr2 W2 ++ (obj X Bk Br :: R)))) H := hP
            have hD : va_D A (tab cI X d (upd r k x) ++ (bk cW X Bk n ch pd pr yr Wd ++ (bk cW X Br n2 ch2 pd2 pr2 yr2 W2 ++ (obj X Bk Br :: R)))) := hD
            refine lv_iload_n hx hb dX3_setRate_67 rfl (lv_at hl 0 rfl) ?_
            have hP9 : va_P (dC, dI) vwCl (tab cI X d (upd r k x) ++ (bk cW X Bk n ch pd pr yr Wd ++ (bk cW X Br n2 ch2 pd2 pr2 yr2 W2 ++ (obj X Bk Br :: R)))) _ := hP
            have hD9 : va_D A (tab cI X d (upd r k x) ++ (bk cW X Bk n ch pd pr yr Wd ++ (bk cW X Br n2 ch2 pd2 pr2 yr2 W2 ++ (obj X Bk Br :: R)))) := hD
            have hz : (r k) = r k := rfl
            exact W.iret (v := (r k)) hx hb hr (fun t ht hW => ⟨⟨_, (), rfl, hz, by rw [ht]; exact hP9, by rw [hAe]; exact hD9⟩, by rw [hAe]; exact hS.F ht⟩) hS.2.2 dX3_setRate_68
          · exact absurd (high_in hk h4.2 hz9) c_5
        · have hz9 := br_high_z (k := k) (by omega) c_4
          refine lv_sipush (v := 200) hx hb dX3_setRate_28 (by decide) ?_
          refine lv_goto (tgt := 36) hx hb dX3_setRate_31 (by decide) ?_
          refine lv_icmp_le (tgt := 49) hx hb dX3_setRate_36 (by decide) (fun c_7 => ?_) (fun c_7 => ?_)
          · refine lv_aload_n hx hb dX3_setRate_49 rfl (lv_at hl 0 rfl) ?_
            refine va_get (D := (dC, dI)) (ci := 3) (v := .ref (X 1)) (C := RX3) (T := TX3) (N := 3) hx hb hts (by decide +kernel) hown hKK.1 hP 27 cw_obj rfl 0 (by decide) (hts (.fieldLink RX3 12 "WidowPennies" "tables" "LWidowPennies$Tables;") (by decide +kernel)) (fun _ h9 => h9) rfl dX3_setRate_50 ?_
            refine lv_iload_n hx hb dX3_setRate_53 rfl (lv_at hl 1 rfl) ?_
            refine rd_i (runV0 (As := [.int (nI k)]) (rest := []) ⟨hx, hb, hml, hown, hts⟩ (met_X1_rate l dC dI cI cW X d r k hk) (cwV 1 hts gX3_setRate_X1_rate rfl rfl rfl (by decide +kernel) ⟨Nat.le_of_ble_eq_true rfl, Nat.le_of_ble_eq_true rfl⟩) hKK (ws_left hP) 1 0 rfl rfl rfl hl.1 (Nat.le_of_ble_eq_true rfl) rfl dX3_setRate_54 ⟨Nat.zero_le _, Nat.zero_le _⟩) (fun r_8 hr_8 => ?_)
            subst hr_8
            refine lv_istore_n (lv' := [(3, .int (r k)), (0, .ref (X 0)), (1, .int (nI k)), (2, .int x)]) hx hb dX3_setRate_57 rfl hl (by decide) rfl (fun ls hl => ?_)
            refine lv_aload_n hx hb dX3_setRate_58 rfl (lv_at hl 1 rfl) ?_
            refine va_get (D := (dC, dI)) (ci := 3) (v := .ref (X 1)) (C := RX3) (T := TX3) (N := 3) hx hb hts (by decide +kernel) hown hKK.1 hP 27 cw_obj rfl 0 (by decide) (hts (.fieldLink RX3 12 "WidowPennies" "tables" "LWidowPennies$Tables;") (by decide +kernel)) (fun _ h9 => h9) rfl dX3_setRate_59 ?_
            refine lv_iload_n hx hb dX3_setRate_62 rfl (lv_at hl 2 rfl) ?_
            refine lv_iload_n hx hb dX3_setRate_63 rfl (lv_at hl 3 rfl) ?_
            refine wr_v (runV1 (As := [.int (nI k), .int x]) (rest := []) ⟨hx, hb, hml, hown, hts⟩ (met_X1_changeRate l dC dI cI cW X d r (bk cW X Bk n ch pd pr yr Wd ++ (bk cW X Br n2 ch2 pd2 pr2 yr2 W2 ++ (obj X Bk Br :: R))) k hk x _) (cwV 2 hts gX3_setRate_X1_changeRate rfl rfl rfl (by decide +kernel) ⟨Nat.le_of_ble_eq_true rfl, Nat.le_of_ble_eq_true rfl⟩) hKK hP hD 1 0 rfl rfl rfl hl.1 (Nat.le_of_ble_eq_true rfl) rfl dX3_setRate_64 ⟨Nat.zero_le _, Nat.zero_le _⟩) hD hS hA (fun H locs hP hD hS => ?_)
            have hP : va_P (dC, dI) vwCl (tab cI X d (upd r k x) ++ (bk cW X Bk n ch pd pr yr Wd ++ (bk cW X Br n2 ch2 pd2 pr2 yr2 W2 ++ (obj X Bk Br :: R)))) H := hP
            have hD : va_D A (tab cI X d (upd r k x) ++ (bk cW X Bk n ch pd pr yr Wd ++ (bk cW X Br n2 ch2 pd2 pr2 yr2 W2 ++ (obj X Bk Br :: R)))) := hD
            refine lv_iload_n hx hb dX3_setRate_67 rfl (lv_at hl 0 rfl) ?_
            have hP9 : va_P (dC, dI) vwCl (tab cI X d (upd r k x) ++ (bk cW X Bk n ch pd pr yr Wd ++ (bk cW X Br n2 ch2 pd2 pr2 yr2 W2 ++ (obj X Bk Br :: R)))) _ := hP
            have hD9 : va_D A (tab cI X d (upd r k x) ++ (bk cW X Bk n ch pd pr yr Wd ++ (bk cW X Br n2 ch2 pd2 pr2 yr2 W2 ++ (obj X Bk Br :: R)))) := hD
            have hz : (r k) = r k := rfl
            exact W.iret (v := (r k)) hx hb hr (fun t ht hW => ⟨⟨_, (), rfl, hz, by rw [ht]; exact hP9, by rw [hAe]; exact hD9⟩, by rw [hAe]; exact hS.F ht⟩) hS.2.2 dX3_setRate_68
          · exact absurd (high_in hk h4.2 hz9) c_7
    · exact absurd ((lt_nI (b := 3) (by omega)).mpr hk) c_2
set_option maxHeartbeats 4000000 in
set_option maxRecDepth 100000 in
theorem bad1_X3_setRate (l : Launch) (hl0 : l.stackTraces = false) (dC : Nat → ClassId) (dI : Nat → Nat → Nat) (cI cW : ClassId) (X Bk Br : Nat → Nat) (d r : Nat → Int32) (n : Nat) (ch pd pr yr : Int32) (Wd : Nat → Nat → Int32) (n2 : Nat) (ch2 pd2 pr2 yr2 : Int32) (W2 : Nat → Nat → Int32) (R : va_W) (a x : Int32) (h9 : ¬ (0 ≤ a ∧ a ≤ 2)) (sz : Nat) : vx_Met l yX3_setRate wsX3_setRate ({ frames := 6, cells := 1, slots := 6, locals := 90 }) (PreX dC dI cI cW [.ref (X 0), .int a, .int x] (tab cI X d r ++ (bk cW X Bk n ch pd pr yr Wd ++ (bk cW X Br n2 ch2 pd2 pr2 yr2 W2 ++ (obj X Bk Br :: R)))) sz) (NoI sz) (XCr xIO sz) 1 6 (NEW sz) := by
  refine vx_ofW (cc := cX3_setRate) (maxL := 4) (ret := (some .int)) (by decide) rfl ?_
  intro p e s m args below meth c s₁ B hml ht hv
  obtain ⟨rfl, hsz, hP, hKK, hKX⟩ := hv
  subst hsz
  have hx := B.exec
  have hb := B.bytes
  have hts := atoms_spec (ws := wsX3_setRate) B.pre
  have hown : s.vm.findClass RX3 = some m.cls := findClass_of_methodNamed B.named
  have hlocks := B.notSynchronized
  have hl := lv_entry ([.ref (X 0), .int a, .int x]) (n := 4) (Nat.le_of_ble_eq_true rfl)
  rw [lg_entry_eq]
  generalize (lg_sl ([.ref (X 0), .int a, .int x]) ++ List.replicate (4 - (lg_sl ([.ref (X 0), .int a, .int x])).length) Slot.unset).toArray = ls at hl ⊢
  have hl : lv_has ls 4 [(0, .ref (X 0)), (1, .int a), (2, .int x)] := hl
  refine lv_iload_n hx hb dX3_setRate_0 rfl (lv_at hl 1 rfl) ?_
  refine lv_if_lt (tgt := 9) hx hb dX3_setRate_1 (by decide) (fun c_1 => ?_) (fun c_1 => ?_)
  · exact throwS0 (E := xIO) (text := "what is not 0 to 2") hx hb hl0 hown ht hlocks hKX (by decide +kernel) hKX.1.1.1 (by decide) (hts (.classLink RX3 32 xIO) (by decide +kernel)) (hts (.initialized xIO) (by decide +kernel)) (fun w hw => hts w (List.mem_cons_of_mem _ (List.mem_append_left _ (List.mem_append_right _ hw)))) exN_IO exG_IO (hl.1.trans hml.symm) dX3_setRate_9 dX3_setRate_12 dX3_setRate_13 dX3_setRate_15 dX3_setRate_18 (Nat.le_of_ble_eq_true rfl) (Nat.le_of_ble_eq_true rfl) (Nat.le_of_ble_eq_true rfl) (Nat.le_of_ble_eq_true rfl) rfl
  · refine lv_iload_n hx hb dX3_setRate_4 rfl (lv_at hl 1 rfl) ?_
    refine lv_iconst (v := 3) hx hb dX3_setRate_5 (by decide) ?_
    refine lv_icmp_lt (tgt := 19) hx hb dX3_setRate_6 (by decide) (fun c_2 => ?_) (fun c_2 => ?_)
    · exact (h9 (end2 c_1 c_2)).elim
    · exact throwS0 (E := xIO) (text := "what is not 0 to 2") hx hb hl0 hown ht hlocks hKX (by decide +kernel) hKX.1.1.1 (by decide) (hts (.classLink RX3 32 xIO) (by decide +kernel)) (hts (.initialized xIO) (by decide +kernel)) (fun w hw => hts w (List.mem_cons_of_mem _ (List.mem_append_left _ (List.mem_append_right _ hw)))) exN_IO exG_IO (hl.1.trans hml.symm) dX3_setRate_9 dX3_setRate_12 dX3_setRate_13 dX3_setRate_15 dX3_setRate_18 (Nat.le_of_ble_eq_true rfl) (Nat.le_of_ble_eq_true rfl) (Nat.le_of_ble_eq_true rfl) (Nat.le_of_ble_eq_true rfl) rfl
set_option maxHeartbeats 4000000 in
set_option maxRecDepth 100000 in
theorem bad2_X3_setRate (l : Launch) (hl0 : l.stackTraces = false) (dC : Nat → ClassId) (dI : Nat → Nat → Nat) (cI cW : ClassId) (X Bk Br : Nat → Nat) (d r : Nat → Int32) (n : Nat) (ch pd pr yr : Int32) (Wd : Nat → Nat → Int32) (n2 : Nat) (ch2 pd2 pr2 yr2 : Int32) (W2 : Nat → Nat → Int32) (R : va_W) (k : Nat) (hk : k < 3) (x : Int32) (h9 : ¬ (0 ≤ x ∧ x ≤ (if k = 0 then (200 : Int32) else 50))) (sz : Nat) : vx_Met l yX3_setRate wsX3_setRate ({ frames := 6, cells := 1, slots := 6, locals := 90 }) (PreX dC dI cI cW [.ref (X 0), .int (nI k), .int x] (tab cI X d r ++ (bk cW X Bk n ch pd pr yr Wd ++ (bk cW X Br n2 ch2 pd2 pr2 yr2 W2 ++ (obj X Bk Br :: R)))) sz) (NoI sz) (XCr xIA sz) 1 6 (NEW sz) := by
  refine vx_ofW (cc := cX3_setRate) (maxL := 4) (ret := (some .int)) (by decide) rfl ?_
  intro p e s m args below meth c s₁ B hml ht hv
  obtain ⟨rfl, hsz, hP, hKK, hKX⟩ := hv
  subst hsz
  have hx := B.exec
  have hb := B.bytes
  have hts := atoms_spec (ws := wsX3_setRate) B.pre
  have hown : s.vm.findClass RX3 = some m.cls := findClass_of_methodNamed B.named
  have hlocks := B.notSynchronized
  have hl := lv_entry ([.ref (X 0), .int (nI k), .int x]) (n := 4) (Nat.le_of_ble_eq_true rfl)
  rw [lg_entry_eq]
  generalize (lg_sl ([.ref (X 0), .int (nI k), .int x]) ++ List.replicate (4 - (lg_sl ([.ref (X 0), .int (nI k), .int x])).length) Slot.unset).toArray = ls at hl ⊢
  have hl : lv_has ls 4 [(0, .ref (X 0)), (1, .int (nI k)), (2, .int x)] := hl
  refine lv_iload_n hx hb dX3_setRate_0 rfl (lv_at hl 1 rfl) ?_
  refine lv_if_lt (tgt := 9) hx hb dX3_setRate_1 (by decide) (fun c_1 => ?_) (fun c_1 => ?_)
  · exact absurd c_1 (nI_pos (by omega))
  · refine lv_iload_n hx hb dX3_setRate_4 rfl (lv_at hl 1 rfl) ?_
    refine lv_iconst (v := 3) hx hb dX3_setRate_5 (by decide) ?_
    refine lv_icmp_lt (tgt := 19) hx hb dX3_setRate_6 (by decide) (fun c_2 => ?_) (fun c_2 => ?_)
    · refine lv_iload_n hx hb dX3_setRate_19 rfl (lv_at hl 2 rfl) ?_
      refine lv_if_lt (tgt := 39) hx hb dX3_setRate_20 (by decide) (fun c_3 => ?_) (fun c_3 => ?_)
      · exact throwS0 (E := xIA) (text := "to is none that it can be") hx hb hl0 hown ht hlocks hKX (by decide +kernel) hKX.1.1.2.1 (by decide) (hts (.classLink RX3 39 xIA) (by decide +kernel)) (hts (.initialized xIA) (by decide +kernel)) (fun w hw => hts w (List.mem_cons_of_mem _ (List.mem_append_right _ hw))) exN_IA exG_IA (hl.1.trans hml.symm) dX3_setRate_39 dX3_setRate_42 dX3_setRate_43 dX3_setRate_45 dX3_setRate_48 (Nat.le_of_ble_eq_true rfl) (Nat.le_of_ble_eq_true rfl) (Nat.le_of_ble_eq_true rfl) (Nat.le_of_ble_eq_true rfl) rfl
      · have hx0 : 0 ≤ x := Int32.not_lt.mp c_3
        refine lv_iload_n hx hb dX3_setRate_23 rfl (lv_at hl 2 rfl) ?_
        refine lv_iload_n hx hb dX3_setRate_24 rfl (lv_at hl 1 rfl) ?_
        refine lv_if_ne (tgt := 34) hx hb dX3_setRate_25 (by decide) (fun c_4 => ?_) (fun c_4 => ?_)
        · have hz9 := br_high_n (k := k) c_4
          refine lv_bipush (v := 50) hx hb dX3_setRate_34 (by decide) ?_
          refine lv_icmp_le (tgt := 49) hx hb dX3_setRate_36 (by decide) (fun c_5 => ?_) (fun c_5 => ?_)
          · exact (h9 ⟨hx0, high_out hz9 c_5⟩).elim
          · exact throwS0 (E := xIA) (text := "to is none that it can be") hx hb hl0 hown ht hlocks hKX (by decide +kernel) hKX.1.1.2.1 (by decide) (hts (.classLink RX3 39 xIA) (by decide +kernel)) (hts (.initialized xIA) (by decide +kernel)) (fun w hw => hts w (List.mem_cons_of_mem _ (List.mem_append_right _ hw))) exN_IA exG_IA (hl.1.trans hml.symm) dX3_setRate_39 dX3_setRate_42 dX3_setRate_43 dX3_setRate_45 dX3_setRate_48 (Nat.le_of_ble_eq_true rfl) (Nat.le_of_ble_eq_true rfl) (Nat.le_of_ble_eq_true rfl) (Nat.le_of_ble_eq_true rfl) rfl
        · have hz9 := br_high_z (k := k) (by omega) c_4
          refine lv_sipush (v := 200) hx hb dX3_setRate_28 (by decide) ?_
          refine lv_goto (tgt := 36) hx hb dX3_setRate_31 (by decide) ?_
          refine lv_icmp_le (tgt := 49) hx hb dX3_setRate_36 (by decide) (fun c_6 => ?_) (fun c_6 => ?_)
          · exact (h9 ⟨hx0, high_out hz9 c_6⟩).elim
          · exact throwS0 (E := xIA) (text := "to is none that it can be") hx hb hl0 hown ht hlocks hKX (by decide +kernel) hKX.1.1.2.1 (by decide) (hts (.classLink RX3 39 xIA) (by decide +kernel)) (hts (.initialized xIA) (by decide +kernel)) (fun w hw => hts w (List.mem_cons_of_mem _ (List.mem_append_right _ hw))) exN_IA exG_IA (hl.1.trans hml.symm) dX3_setRate_39 dX3_setRate_42 dX3_setRate_43 dX3_setRate_45 dX3_setRate_48 (Nat.le_of_ble_eq_true rfl) (Nat.le_of_ble_eq_true rfl) (Nat.le_of_ble_eq_true rfl) (Nat.le_of_ble_eq_true rfl) rfl
    · exact absurd ((lt_nI (b := 3) (by omega)).mpr hk) c_2
