set_option maxHeartbeats 4000000 in
set_option maxRecDepth 100000 in
theorem met_L_price (l : Launch) (dC : Nat → ClassId) (dI : Nat → Nat → Nat) (cI cW : ClassId) (cJ : ClassId) (o : Nat) (f0 : Nat → Int64) (X Bk Br : Nat → Nat) (d r : Nat → Int32) (n : Nat) (ch pd pr yr : Int32) (Wd : Nat → Nat → Int32) (n2 : Nat) (ch2 pd2 pr2 yr2 : Int32) (W2 : Nat → Nat → Int32) (R : va_W) (ka : Nat) (x : Int32) (kb : Nat) (h1 : 50 ≤ ka) (h2 : ka ≤ 99) (hx9 : 1 ≤ x ∧ x ≤ 999) (h3 : kb ≤ 30) (hi : ¬ (1000 : Int32) + r 0 = 0) (hi0 : ¬ r 0 < 0) (sz : Nat) : Met l yL_price wsL_price ({ frames := 8, cells := 0, slots := 0, locals := 133 }) (PreL dC dI cI cW cJ [.ref (X 0), .int (nI ka), .int x, .int (nI kb), .ref o] (tab cI X d r ++ (bk cW X Bk n ch pd pr yr Wd ++ (bk cW X Br n2 ch2 pd2 pr2 yr2 W2 ++ (obj X Bk Br :: (o, .inl (cJ, 1, .inr (.inl f0))) :: R)))) sz) (Qi1 dC dI (fun z => z = 0) (tab cI X d r ++ (bk cW X Bk n ch pd pr yr Wd ++ (bk cW X Br n2 ch2 pd2 pr2 yr2 W2 ++ (obj X Bk Br :: (o, .inl (cJ, 1, .inr (.inl f0))) :: R)))) (tab cI X d r ++ (bk cW X Bk n ch pd pr yr Wd ++ (bk cW X Br n2 ch2 pd2 pr2 yr2 W2 ++ (obj X Bk Br :: (o, .inl (cJ, 1, .inr (.inl (vp_updL f0 0 (priceS (r 1) x (wN d (r 0) (100 - ka) kb)).toInt64)))) :: R)))) sz) 0 0 (va_A (tab cI X d r ++ (bk cW X Bk n ch pd pr yr Wd ++ (bk cW X Br n2 ch2 pd2 pr2 yr2 W2 ++ (obj X Bk Br :: (o, .inl (cJ, 1, .inr (.inl f0))) :: R)))) sz) := by
  refine met_ofWH (cc := cL_price) (maxL := 6) (ret := (some .int)) (hh := [(0, 12, 15, 15)]) (by decide) rfl ?_
  intro p e s m args below meth c s₁ B hml hv
  obtain ⟨rfl, hsz, hP, hD0, hKK, hKJ, hKX⟩ := hv
  subst hsz
  have hx := B.exec
  have hb := B.bytes
  have hr := B.returns
  have hts := atoms_spec (ws := wsL_price) B.pre
  have hown : s.vm.findClass RL = some m.cls := findClass_of_methodNamed B.named
  have hlocks := B.notSynchronized
  have hD := hD0.self (sz := s.heap.size)
  generalize hAe : va_A (tab cI X d r ++ (bk cW X Bk n ch pd pr yr Wd ++ (bk cW X Br n2 ch2 pd2 pr2 yr2 W2 ++ (obj X Bk Br :: (o, .inl (cJ, 1, .inr (.inl f0))) :: R)))) s.heap.size = A at hD ⊢
  have hA : ∀ q : Nat, s.heap.size ≤ q → A q := fun q h => by rw [← hAe]; exact Or.inr h
  have hS : va_S A s.heap s.heap [] := va_S.rf
  have hl := lv_entry ([.ref (X 0), .int (nI ka), .int x, .int (nI kb), .ref o]) (n := 6) (Nat.le_of_ble_eq_true rfl)
  rw [lg_entry_eq]
  generalize (lg_sl ([.ref (X 0), .int (nI ka), .int x, .int (nI kb), .ref o]) ++ List.replicate (6 - (lg_sl ([.ref (X 0), .int (nI ka), .int x, .int (nI kb), .ref o])).length) Slot.unset).toArray = ls at hl ⊢
  have hl : lv_has ls 6 [(0, .ref (X 0)), (1, .int (nI ka)), (2, .int x), (3, .int (nI kb)), (4, .ref o)] := hl
  refine lv_aload hx hb dL_price_0 (lv_at hl 4 rfl) ?_
  refine lv_iconst (v := 0) hx hb dL_price_2 (by decide) ?_
  refine lv_aload_n hx hb dL_price_3 rfl (lv_at hl 0 rfl) ?_
  refine lv_iload_n hx hb dL_price_4 rfl (lv_at hl 1 rfl) ?_
  refine lv_iload_n hx hb dL_price_5 rfl (lv_at hl 2 rfl) ?_
  refine lv_iload_n hx hb dL_price_6 rfl (lv_at hl 3 rfl) ?_
  refine rd_i (runV0 (As := [.int (nI ka), .int x, .int (nI kb)]) (rest := [.int 0, .ref o]) ⟨hx, hb, hml, hown, hts⟩ (met_X3_price l dC dI cI cW X Bk Br d r n ch pd pr yr Wd n2 ch2 pd2 pr2 yr2 W2 ((o, .inl (cJ, 1, .inr (.inl f0))) :: R) ka x kb h1 h2 hx9 h3 hi hi0) (cwV 3 hts gL_price_X3_price rfl rfl rfl (by decide +kernel) ⟨Nat.le_of_ble_eq_true rfl, Nat.le_of_ble_eq_true rfl⟩) hKK hP 3 27 rfl cw_obj rfl hl.1 (Nat.le_of_ble_eq_true rfl) rfl dL_price_7 ⟨Nat.zero_le _, Nat.zero_le _⟩) (fun r_1 hr_1 => ?_)
  subst hr_1
  refine lv_i2l hx hb dL_price_10 rfl ?_
  refine va_last hx hb hKJ hP hD hS (27 + 1) 0 (cw_at rfl) rfl (vp_in_nI (n := 0) (by omega) (by omega)) dL_price_11 (fun H locs hP hD hS => ?_)
  rw [cw_aset] at hP hD
  refine lv_goto (tgt := 19) hx hb dL_price_12 (by decide) ?_
  refine lv_iconst (v := 0) hx hb dL_price_19 (by decide) ?_
  have hP9 : va_P (dC, dI) vwCl (tab cI X d r ++ (bk cW X Bk n ch pd pr yr Wd ++ (bk cW X Br n2 ch2 pd2 pr2 yr2 W2 ++ (obj X Bk Br :: (o, .inl (cJ, 1, .inr (.inl (vp_updL f0 0 (priceS (r 1) x (wN d (r 0) (100 - ka) kb)).toInt64)))) :: R)))) _ := hP
  have hD9 : va_D A (tab cI X d r ++ (bk cW X Bk n ch pd pr yr Wd ++ (bk cW X Br n2 ch2 pd2 pr2 yr2 W2 ++ (obj X Bk Br :: (o, .inl (cJ, 1, .inr (.inl (vp_updL f0 0 (priceS (r 1) x (wN d (r 0) (100 - ka) kb)).toInt64)))) :: R)))) := hD
  have hz : (0 : Int32) = 0 := rfl
  exact W.iret (v := 0) hx hb hr (fun t ht hW => ⟨⟨_, (), rfl, hz, by rw [ht]; exact hP9, by rw [hAe]; exact hD9⟩, by rw [hAe]; exact hS.F ht⟩) hS.2.2 dL_price_20
set_option maxHeartbeats 4000000 in
set_option maxRecDepth 100000 in
theorem bad1_L_price (l : Launch) (dC : Nat → ClassId) (dI : Nat → Nat → Nat) (cI cW : ClassId) (hl0 : l.stackTraces = false) (cJ : ClassId) (o : Nat) (f0 : Nat → Int64) (X Bk Br : Nat → Nat) (d r : Nat → Int32) (n : Nat) (ch pd pr yr : Int32) (Wd : Nat → Nat → Int32) (n2 : Nat) (ch2 pd2 pr2 yr2 : Int32) (W2 : Nat → Nat → Int32) (R : va_W) (a x p9 : Int32) (h9 : ¬ ((50 ≤ a ∧ a ≤ 99) ∧ (1 ≤ x ∧ x ≤ 999) ∧ (0 ≤ p9 ∧ p9 ≤ 30))) (sz : Nat) : Met l yL_price wsL_price ({ frames := 8, cells := 1, slots := 6, locals := 133 }) (PreL dC dI cI cW cJ [.ref (X 0), .int a, .int x, .int p9, .ref o] (tab cI X d r ++ (bk cW X Bk n ch pd pr yr Wd ++ (bk cW X Br n2 ch2 pd2 pr2 yr2 W2 ++ (obj X Bk Br :: (o, .inl (cJ, 1, .inr (.inl f0))) :: R)))) sz) (Qi1 dC dI (fun z => z = 1) (tab cI X d r ++ (bk cW X Bk n ch pd pr yr Wd ++ (bk cW X Br n2 ch2 pd2 pr2 yr2 W2 ++ (obj X Bk Br :: (o, .inl (cJ, 1, .inr (.inl f0))) :: R)))) (tab cI X d r ++ (bk cW X Bk n ch pd pr yr Wd ++ (bk cW X Br n2 ch2 pd2 pr2 yr2 W2 ++ (obj X Bk Br :: (o, .inl (cJ, 1, .inr (.inl f0))) :: R)))) sz) 1 6 (va_A (tab cI X d r ++ (bk cW X Bk n ch pd pr yr Wd ++ (bk cW X Br n2 ch2 pd2 pr2 yr2 W2 ++ (obj X Bk Br :: (o, .inl (cJ, 1, .inr (.inl f0))) :: R)))) sz) := by
  refine met_ofWH (cc := cL_price) (maxL := 6) (ret := (some .int)) (hh := [(0, 12, 15, 15)]) (by decide) rfl ?_
  intro p e s m args below meth c s₁ B hml hv
  obtain ⟨rfl, hsz, hP, hD0, hKK, hKJ, hKX⟩ := hv
  subst hsz
  have hx := B.exec
  have hb := B.bytes
  have hr := B.returns
  have hts := atoms_spec (ws := wsL_price) B.pre
  have hown : s.vm.findClass RL = some m.cls := findClass_of_methodNamed B.named
  have hlocks := B.notSynchronized
  have hD := hD0.self (sz := s.heap.size)
  generalize hAe : va_A (tab cI X d r ++ (bk cW X Bk n ch pd pr yr Wd ++ (bk cW X Br n2 ch2 pd2 pr2 yr2 W2 ++ (obj X Bk Br :: (o, .inl (cJ, 1, .inr (.inl f0))) :: R)))) s.heap.size = A at hD ⊢
  have hA : ∀ q : Nat, s.heap.size ≤ q → A q := fun q h => by rw [← hAe]; exact Or.inr h
  have hS : va_S A s.heap s.heap [] := va_S.rf
  have hl := lv_entry ([.ref (X 0), .int a, .int x, .int p9, .ref o]) (n := 6) (Nat.le_of_ble_eq_true rfl)
  rw [lg_entry_eq]
  generalize (lg_sl ([.ref (X 0), .int a, .int x, .int p9, .ref o]) ++ List.replicate (6 - (lg_sl ([.ref (X 0), .int a, .int x, .int p9, .ref o])).length) Slot.unset).toArray = ls at hl ⊢
  have hl : lv_has ls 6 [(0, .ref (X 0)), (1, .int a), (2, .int x), (3, .int p9), (4, .ref o)] := hl
  refine lv_aload hx hb dL_price_0 (lv_at hl 4 rfl) ?_
  refine lv_iconst (v := 0) hx hb dL_price_2 (by decide) ?_
  refine lv_aload_n hx hb dL_price_3 rfl (lv_at hl 0 rfl) ?_
  refine lv_iload_n hx hb dL_price_4 rfl (lv_at hl 1 rfl) ?_
  refine lv_iload_n hx hb dL_price_5 rfl (lv_at hl 2 rfl) ?_
  refine lv_iload_n hx hb dL_price_6 rfl (lv_at hl 3 rfl) ?_
  have htab : c.exceptionTable.toList = [⟨0, 12, 15, 15⟩] := vx_table (x := yL_price) B (hts (.codeWith yL_price cL_price 6 (some .int) [(0, 12, 15, 15)]) (by unfold wsL_price; exact List.mem_cons_self))
  refine vx_calli (vx_runV (As := [.int a, .int x, .int p9]) (rest := [.int 0, .ref o]) ⟨hx, hb, hml, hown, hts⟩ (bad_X3_price l hl0 dC dI cI cW X Bk Br d r n ch pd pr yr Wd n2 ch2 pd2 pr2 yr2 W2 ((o, .inl (cJ, 1, .inr (.inl f0))) :: R) a x p9 h9 _) (cwV 3 hts gL_price_X3_price rfl rfl rfl (by decide +kernel) ⟨Nat.le_of_ble_eq_true rfl, Nat.le_of_ble_eq_true rfl⟩) ⟨PreX_blind, va_recv (q := (RX3, TX3, 3)) hKK.1 hP rfl cw_obj, fun U hU hW => ⟨rfl, by rw [hU], by rw [hU]; exact hP, hKK.warm hW, by rw [hU]; exact hKX.warm hW⟩⟩ rfl rfl hl.1 rfl (lv_room (Nat.le_of_ble_eq_true rfl)) dL_price_7 ⟨Nat.le_of_ble_eq_true rfl, Nat.le_of_ble_eq_true rfl⟩) hS (fun q _ h => hA q h) (fun q h => hA q h) (fun q _ h => hA q h) (fun E ce q9 u t H1 locs1 ht1 hvm hpx hBX hz hk9 hS1 hce hcv hcl => ?_) (fun r u t H1 locs1 _ _ hw => hw.elim)
  subst hBX
  have hP1 : va_P (dC, dI) vwCl (tab cI X d r ++ (bk cW X Bk n ch pd pr yr Wd ++ (bk cW X Br n2 ch2 pd2 pr2 yr2 W2 ++ (obj X Bk Br :: (o, .inl (cJ, 1, .inr (.inl f0))) :: R)))) H1 := hP.kept (fun k q hk => hk9 q.1 ((hP k q hk).lt) (Nat.not_le.mpr ((hP k q hk).lt)))
  refine vx_catch (own := RL) (name := xIA) hown [] ⟨0, 12, 15, 15⟩ [] htab (fun z hz => nomatch hz) rfl (by decide) (hts (.classLink RL 15 xIA) (by decide +kernel)) (va_Nw.use rfl hKX.1.1.2.1) hce hcv hcl ?_
  refine W.eq (g2 := F0 m 15 ls [.ref q9]) rfl ?_
  have hP := hP1
  have hS := hS1
  refine lv_astore (lv' := [(5, .ref q9), (0, .ref (X 0)), (1, .int a), (2, .int x), (3, .int p9), (4, .ref o)]) hx hb dL_price_15 hl (by decide) rfl (fun ls hl => ?_)
  refine lv_iconst (v := 1) hx hb dL_price_17 (by decide) ?_
  have hP9 : va_P (dC, dI) vwCl (tab cI X d r ++ (bk cW X Bk n ch pd pr yr Wd ++ (bk cW X Br n2 ch2 pd2 pr2 yr2 W2 ++ (obj X Bk Br :: (o, .inl (cJ, 1, .inr (.inl f0))) :: R)))) _ := hP
  have hD9 : va_D A (tab cI X d r ++ (bk cW X Bk n ch pd pr yr Wd ++ (bk cW X Br n2 ch2 pd2 pr2 yr2 W2 ++ (obj X Bk Br :: (o, .inl (cJ, 1, .inr (.inl f0))) :: R)))) := hD
  have hz : (1 : Int32) = 1 := rfl
  exact W.iret (v := 1) hx hb hr (fun t ht hW => ⟨⟨_, (), rfl, hz, by rw [ht]; exact hP9, by rw [hAe]; exact hD9⟩, by rw [hAe]; exact hS.F ht⟩) hS.2.2 dL_price_18
set_option maxHeartbeats 4000000 in
set_option maxRecDepth 100000 in
theorem met_L_told (l : Launch) (dC : Nat → ClassId) (dI : Nat → Nat → Nat) (cI cW : ClassId) (cJ : ClassId) (o : Nat) (f0 : Nat → Int64) (X Bk Br : Nat → Nat) (d r : Nat → Int32) (n : Nat) (ch pd pr yr : Int32) (Wd : Nat → Nat → Int32) (n2 : Nat) (ch2 pd2 pr2 yr2 : Int32) (W2 : Nat → Nat → Int32) (R : va_W) (hn : n ≤ 10) (hok : ∀ k, k < n → okW (Wd k)) (k f : Nat) (hk : k < n) (hf : f < 9) (hi : ¬ (1000 : Int32) + r 0 = 0) (hi0 : ¬ r 0 < 0) (sz : Nat) : Met l yL_told wsL_told ({ frames := 8, cells := 0, slots := 0, locals := 177 }) (PreL dC dI cI cW cJ [.ref (X 0), .int (nI k), .int (nI f), .ref o] (tab cI X d r ++ (bk cW X Bk n ch pd pr yr Wd ++ (bk cW X Br n2 ch2 pd2 pr2 yr2 W2 ++ (obj X Bk Br :: (o, .inl (cJ, 1, .inr (.inl f0))) :: R)))) sz) (Qi1 dC dI (fun z => z = 0) (tab cI X d r ++ (bk cW X Bk n ch pd pr yr Wd ++ (bk cW X Br n2 ch2 pd2 pr2 yr2 W2 ++ (obj X Bk Br :: (o, .inl (cJ, 1, .inr (.inl f0))) :: R)))) (tab cI X d r ++ (bk cW X Bk n ch pd pr yr Wd ++ (bk cW X Br n2 ch2 pd2 pr2 yr2 W2 ++ (obj X Bk Br :: (o, .inl (cJ, 1, .inr (.inl (vp_updL f0 0 (tellS d r (Wd k) f).toInt64)))) :: R)))) sz) 0 0 (va_A (tab cI X d r ++ (bk cW X Bk n ch pd pr yr Wd ++ (bk cW X Br n2 ch2 pd2 pr2 yr2 W2 ++ (obj X Bk Br :: (o, .inl (cJ, 1, .inr (.inl f0))) :: R)))) sz) := by
  refine met_ofWH (cc := cL_told) (maxL := 5) (ret := (some .int)) (hh := [(0, 10, 13, 13)]) (by decide) rfl ?_
  intro p e s m args below meth c s₁ B hml hv
  obtain ⟨rfl, hsz, hP, hD0, hKK, hKJ, hKX⟩ := hv
  subst hsz
  have hx := B.exec
  have hb := B.bytes
  have hr := B.returns
  have hts := atoms_spec (ws := wsL_told) B.pre
  have hown : s.vm.findClass RL = some m.cls := findClass_of_methodNamed B.named
  have hlocks := B.notSynchronized
  have hD := hD0.self (sz := s.heap.size)
  generalize hAe : va_A (tab cI X d r ++ (bk cW X Bk n ch pd pr yr Wd ++ (bk cW X Br n2 ch2 pd2 pr2 yr2 W2 ++ (obj X Bk Br :: (o, .inl (cJ, 1, .inr (.inl f0))) :: R)))) s.heap.size = A at hD ⊢
  have hA : ∀ q : Nat, s.heap.size ≤ q → A q := fun q h => by rw [← hAe]; exact Or.inr h
  have hS : va_S A s.heap s.heap [] := va_S.rf
  have hl := lv_entry ([.ref (X 0), .int (nI k), .int (nI f), .ref o]) (n := 5) (Nat.le_of_ble_eq_true rfl)
  rw [lg_entry_eq]
  generalize (lg_sl ([.ref (X 0), .int (nI k), .int (nI f), .ref o]) ++ List.replicate (5 - (lg_sl ([.ref (X 0), .int (nI k), .int (nI f), .ref o])).length) Slot.unset).toArray = ls at hl ⊢
  have hl : lv_has ls 5 [(0, .ref (X 0)), (1, .int (nI k)), (2, .int (nI f)), (3, .ref o)] := hl
  refine lv_aload_n hx hb dL_told_0 rfl (lv_at hl 3 rfl) ?_
  refine lv_iconst (v := 0) hx hb dL_told_1 (by decide) ?_
  refine lv_aload_n hx hb dL_told_2 rfl (lv_at hl 0 rfl) ?_
  refine lv_iload_n hx hb dL_told_3 rfl (lv_at hl 1 rfl) ?_
  refine lv_iload_n hx hb dL_told_4 rfl (lv_at hl 2 rfl) ?_
  refine rd_i (runV0 (As := [.int (nI k), .int (nI f)]) (rest := [.int 0, .ref o]) ⟨hx, hb, hml, hown, hts⟩ (met_X3_told l dC dI cI cW X Bk Br d r n ch pd pr yr Wd n2 ch2 pd2 pr2 yr2 W2 ((o, .inl (cJ, 1, .inr (.inl f0))) :: R) hn hok k f hk hf hi hi0) (cwV 2 hts gL_told_X3_told rfl rfl rfl (by decide +kernel) ⟨Nat.le_of_ble_eq_true rfl, Nat.le_of_ble_eq_true rfl⟩) hKK hP 3 27 rfl cw_obj rfl hl.1 (Nat.le_of_ble_eq_true rfl) rfl dL_told_5 ⟨Nat.zero_le _, Nat.zero_le _⟩) (fun r_1 hr_1 => ?_)
  subst hr_1
  refine lv_i2l hx hb dL_told_8 rfl ?_
  refine va_last hx hb hKJ hP hD hS (27 + 1) 0 (cw_at rfl) rfl (vp_in_nI (n := 0) (by omega) (by omega)) dL_told_9 (fun H locs hP hD hS => ?_)
  rw [cw_aset] at hP hD
  refine lv_goto (tgt := 17) hx hb dL_told_10 (by decide) ?_
  refine lv_iconst (v := 0) hx hb dL_told_17 (by decide) ?_
  have hP9 : va_P (dC, dI) vwCl (tab cI X d r ++ (bk cW X Bk n ch pd pr yr Wd ++ (bk cW X Br n2 ch2 pd2 pr2 yr2 W2 ++ (obj X Bk Br :: (o, .inl (cJ, 1, .inr (.inl (vp_updL f0 0 (tellS d r (Wd k) f).toInt64)))) :: R)))) _ := hP
  have hD9 : va_D A (tab cI X d r ++ (bk cW X Bk n ch pd pr yr Wd ++ (bk cW X Br n2 ch2 pd2 pr2 yr2 W2 ++ (obj X Bk Br :: (o, .inl (cJ, 1, .inr (.inl (vp_updL f0 0 (tellS d r (Wd k) f).toInt64)))) :: R)))) := hD
  have hz : (0 : Int32) = 0 := rfl
  exact W.iret (v := 0) hx hb hr (fun t ht hW => ⟨⟨_, (), rfl, hz, by rw [ht]; exact hP9, by rw [hAe]; exact hD9⟩, by rw [hAe]; exact hS.F ht⟩) hS.2.2 dL_told_18
set_option maxHeartbeats 4000000 in
set_option maxRecDepth 100000 in
theorem bad1_L_told (l : Launch) (dC : Nat → ClassId) (dI : Nat → Nat → Nat) (cI cW : ClassId) (hl0 : l.stackTraces = false) (cJ : ClassId) (o : Nat) (f0 : Nat → Int64) (X Bk Br : Nat → Nat) (d r : Nat → Int32) (n : Nat) (ch pd pr yr : Int32) (Wd : Nat → Nat → Int32) (n2 : Nat) (ch2 pd2 pr2 yr2 : Int32) (W2 : Nat → Nat → Int32) (R : va_W) (a f : Int32) (h9 : ¬ ((0 ≤ a ∧ a < nI n) ∧ (0 ≤ f ∧ f ≤ 8))) (sz : Nat) : Met l yL_told wsL_told ({ frames := 8, cells := 1, slots := 6, locals := 177 }) (PreL dC dI cI cW cJ [.ref (X 0), .int a, .int f, .ref o] (tab cI X d r ++ (bk cW X Bk n ch pd pr yr Wd ++ (bk cW X Br n2 ch2 pd2 pr2 yr2 W2 ++ (obj X Bk Br :: (o, .inl (cJ, 1, .inr (.inl f0))) :: R)))) sz) (Qi1 dC dI (fun z => z = 1) (tab cI X d r ++ (bk cW X Bk n ch pd pr yr Wd ++ (bk cW X Br n2 ch2 pd2 pr2 yr2 W2 ++ (obj X Bk Br :: (o, .inl (cJ, 1, .inr (.inl f0))) :: R)))) (tab cI X d r ++ (bk cW X Bk n ch pd pr yr Wd ++ (bk cW X Br n2 ch2 pd2 pr2 yr2 W2 ++ (obj X Bk Br :: (o, .inl (cJ, 1, .inr (.inl f0))) :: R)))) sz) 1 6 (va_A (tab cI X d r ++ (bk cW X Bk n ch pd pr yr Wd ++ (bk cW X Br n2 ch2 pd2 pr2 yr2 W2 ++ (obj X Bk Br :: (o, .inl (cJ, 1, .inr (.inl f0))) :: R)))) sz) := by
  refine met_ofWH (cc := cL_told) (maxL := 5) (ret := (some .int)) (hh := [(0, 10, 13, 13)]) (by decide) rfl ?_
  intro p e s m args below meth c s₁ B hml hv
  obtain ⟨rfl, hsz, hP, hD0, hKK, hKJ, hKX⟩ := hv
  subst hsz
  have hx := B.exec
  have hb := B.bytes
  have hr := B.returns
  have hts := atoms_spec (ws := wsL_told) B.pre
  have hown : s.vm.findClass RL = some m.cls := findClass_of_methodNamed B.named
  have hlocks := B.notSynchronized
  have hD := hD0.self (sz := s.heap.size)
  generalize hAe : va_A (tab cI X d r ++ (bk cW X Bk n ch pd pr yr Wd ++ (bk cW X Br n2 ch2 pd2 pr2 yr2 W2 ++ (obj X Bk Br :: (o, .inl (cJ, 1, .inr (.inl f0))) :: R)))) s.heap.size = A at hD ⊢
  have hA : ∀ q : Nat, s.heap.size ≤ q → A q := fun q h => by rw [← hAe]; exact Or.inr h
  have hS : va_S A s.heap s.heap [] := va_S.rf
  have hl := lv_entry ([.ref (X 0), .int a, .int f, .ref o]) (n := 5) (Nat.le_of_ble_eq_true rfl)
  rw [lg_entry_eq]
  generalize (lg_sl ([.ref (X 0), .int a, .int f, .ref o]) ++ List.replicate (5 - (lg_sl ([.ref (X 0), .int a, .int f, .ref o])).length) Slot.unset).toArray = ls at hl ⊢
  have hl : lv_has ls 5 [(0, .ref (X 0)), (1, .int a), (2, .int f), (3, .ref o)] := hl
  refine lv_aload_n hx hb dL_told_0 rfl (lv_at hl 3 rfl) ?_
  refine lv_iconst (v := 0) hx hb dL_told_1 (by decide) ?_
  refine lv_aload_n hx hb dL_told_2 rfl (lv_at hl 0 rfl) ?_
  refine lv_iload_n hx hb dL_told_3 rfl (lv_at hl 1 rfl) ?_
  refine lv_iload_n hx hb dL_told_4 rfl (lv_at hl 2 rfl) ?_
  have htab : c.exceptionTable.toList = [⟨0, 10, 13, 13⟩] := vx_table (x := yL_told) B (hts (.codeWith yL_told cL_told 5 (some .int) [(0, 10, 13, 13)]) (by unfold wsL_told; exact List.mem_cons_self))
  refine vx_calli (vx_runV (As := [.int a, .int f]) (rest := [.int 0, .ref o]) ⟨hx, hb, hml, hown, hts⟩ (bad_X3_told l hl0 dC dI cI cW X Bk Br d r n ch pd pr yr Wd n2 ch2 pd2 pr2 yr2 W2 ((o, .inl (cJ, 1, .inr (.inl f0))) :: R) a f h9 _) (cwV 2 hts gL_told_X3_told rfl rfl rfl (by decide +kernel) ⟨Nat.le_of_ble_eq_true rfl, Nat.le_of_ble_eq_true rfl⟩) ⟨PreX_blind, va_recv (q := (RX3, TX3, 3)) hKK.1 hP rfl cw_obj, fun U hU hW => ⟨rfl, by rw [hU], by rw [hU]; exact hP, hKK.warm hW, by rw [hU]; exact hKX.warm hW⟩⟩ rfl rfl hl.1 rfl (lv_room (Nat.le_of_ble_eq_true rfl)) dL_told_5 ⟨Nat.le_of_ble_eq_true rfl, Nat.le_of_ble_eq_true rfl⟩) hS (fun q _ h => hA q h) (fun q h => hA q h) (fun q _ h => hA q h) (fun E ce q9 u t H1 locs1 ht1 hvm hpx hBX hz hk9 hS1 hce hcv hcl => ?_) (fun r u t H1 locs1 _ _ hw => hw.elim)
  subst hBX
  have hP1 : va_P (dC, dI) vwCl (tab cI X d r ++ (bk cW X Bk n ch pd pr yr Wd ++ (bk cW X Br n2 ch2 pd2 pr2 yr2 W2 ++ (obj X Bk Br :: (o, .inl (cJ, 1, .inr (.inl f0))) :: R)))) H1 := hP.kept (fun k q hk => hk9 q.1 ((hP k q hk).lt) (Nat.not_le.mpr ((hP k q hk).lt)))
  refine vx_catch (own := RL) (name := xIO) hown [] ⟨0, 10, 13, 13⟩ [] htab (fun z hz => nomatch hz) rfl (by decide) (hts (.classLink RL 13 xIO) (by decide +kernel)) (va_Nw.use rfl hKX.1.1.1) hce hcv hcl ?_
  refine W.eq (g2 := F0 m 13 ls [.ref q9]) rfl ?_
  have hP := hP1
  have hS := hS1
  refine lv_astore (lv' := [(4, .ref q9), (0, .ref (X 0)), (1, .int a), (2, .int f), (3, .ref o)]) hx hb dL_told_13 hl (by decide) rfl (fun ls hl => ?_)
  refine lv_iconst (v := 1) hx hb dL_told_15 (by decide) ?_
  have hP9 : va_P (dC, dI) vwCl (tab cI X d r ++ (bk cW X Bk n ch pd pr yr Wd ++ (bk cW X Br n2 ch2 pd2 pr2 yr2 W2 ++ (obj X Bk Br :: (o, .inl (cJ, 1, .inr (.inl f0))) :: R)))) _ := hP
  have hD9 : va_D A (tab cI X d r ++ (bk cW X Bk n ch pd pr yr Wd ++ (bk cW X Br n2 ch2 pd2 pr2 yr2 W2 ++ (obj X Bk Br :: (o, .inl (cJ, 1, .inr (.inl f0))) :: R)))) := hD
  have hz : (1 : Int32) = 1 := rfl
  exact W.iret (v := 1) hx hb hr (fun t ht hW => ⟨⟨_, (), rfl, hz, by rw [ht]; exact hP9, by rw [hAe]; exact hD9⟩, by rw [hAe]; exact hS.F ht⟩) hS.2.2 dL_told_16
set_option maxHeartbeats 4000000 in
set_option maxRecDepth 100000 in
theorem met_L_count (l : Launch) (dC : Nat → ClassId) (dI : Nat → Nat → Nat) (cI cW : ClassId) (cJ : ClassId) (o : Nat) (f0 : Nat → Int64) (X Bk Br : Nat → Nat) (d r : Nat → Int32) (n : Nat) (ch pd pr yr : Int32) (Wd : Nat → Nat → Int32) (n2 : Nat) (ch2 pd2 pr2 yr2 : Int32) (W2 : Nat → Nat → Int32) (R : va_W) (hn : n ≤ 10) (hok : ∀ k, k < n → okW (Wd k)) (k : Nat) (hk : k < 9) (hi : ¬ (1000 : Int32) + r 0 = 0) (hi0 : ¬ r 0 < 0) (sz : Nat) : Met l yL_count wsL_count ({ frames := 7, cells := 0, slots := 0, locals := 155 }) (PreL dC dI cI cW cJ [.ref (X 0), .int (nI k), .ref o] (tab cI X d r ++ (bk cW X Bk n ch pd pr yr Wd ++ (bk cW X Br n2 ch2 pd2 pr2 yr2 W2 ++ (obj X Bk Br :: (o, .inl (cJ, 1, .inr (.inl f0))) :: R)))) sz) (Qi1 dC dI (fun z => z = 0) (tab cI X d r ++ (bk cW X Bk n ch pd pr yr Wd ++ (bk cW X Br n2 ch2 pd2 pr2 yr2 W2 ++ (obj X Bk Br :: (o, .inl (cJ, 1, .inr (.inl f0))) :: R)))) (tab cI X d r ++ (bk cW X Bk n ch pd pr yr Wd ++ (bk cW X Br n2 ch2 pd2 pr2 yr2 W2 ++ (obj X Bk Br :: (o, .inl (cJ, 1, .inr (.inl (vp_updL f0 0 (countS d r n ch pd pr yr Wd k).toInt64)))) :: R)))) sz) 0 0 (va_A (tab cI X d r ++ (bk cW X Bk n ch pd pr yr Wd ++ (bk cW X Br n2 ch2 pd2 pr2 yr2 W2 ++ (obj X Bk Br :: (o, .inl (cJ, 1, .inr (.inl f0))) :: R)))) sz) := by
  refine met_ofWH (cc := cL_count) (maxL := 4) (ret := (some .int)) (hh := [(0, 9, 12, 13)]) (by decide) rfl ?_
  intro p e s m args below meth c s₁ B hml hv
  obtain ⟨rfl, hsz, hP, hD0, hKK, hKJ, hKX⟩ := hv
  subst hsz
  have hx := B.exec
  have hb := B.bytes
  have hr := B.returns
  have hts := atoms_spec (ws := wsL_count) B.pre
  have hown : s.vm.findClass RL = some m.cls := findClass_of_methodNamed B.named
  have hlocks := B.notSynchronized
  have hD := hD0.self (sz := s.heap.size)
  generalize hAe : va_A (tab cI X d r ++ (bk cW X Bk n ch pd pr yr Wd ++ (bk cW X Br n2 ch2 pd2 pr2 yr2 W2 ++ (obj X Bk Br :: (o, .inl (cJ, 1, .inr (.inl f0))) :: R)))) s.heap.size = A at hD ⊢
  have hA : ∀ q : Nat, s.heap.size ≤ q → A q := fun q h => by rw [← hAe]; exact Or.inr h
  have hS : va_S A s.heap s.heap [] := va_S.rf
  have hl := lv_entry ([.ref (X 0), .int (nI k), .ref o]) (n := 4) (Nat.le_of_ble_eq_true rfl)
  rw [lg_entry_eq]
  generalize (lg_sl ([.ref (X 0), .int (nI k), .ref o]) ++ List.replicate (4 - (lg_sl ([.ref (X 0), .int (nI k), .ref o])).length) Slot.unset).toArray = ls at hl ⊢
  have hl : lv_has ls 4 [(0, .ref (X 0)), (1, .int (nI k)), (2, .ref o)] := hl
  refine lv_aload_n hx hb dL_count_0 rfl (lv_at hl 2 rfl) ?_
  refine lv_iconst (v := 0) hx hb dL_count_1 (by decide) ?_
  refine lv_aload_n hx hb dL_count_2 rfl (lv_at hl 0 rfl) ?_
  refine lv_iload_n hx hb dL_count_3 rfl (lv_at hl 1 rfl) ?_
  refine rd_i (runV0 (As := [.int (nI k)]) (rest := [.int 0, .ref o]) ⟨hx, hb, hml, hown, hts⟩ (met_X3_count l dC dI cI cW X Bk Br d r n ch pd pr yr Wd n2 ch2 pd2 pr2 yr2 W2 ((o, .inl (cJ, 1, .inr (.inl f0))) :: R) hn hok k hk hi hi0) (cwV 1 hts gL_count_X3_count rfl rfl rfl (by decide +kernel) ⟨Nat.le_of_ble_eq_true rfl, Nat.le_of_ble_eq_true rfl⟩) hKK hP 3 27 rfl cw_obj rfl hl.1 (Nat.le_of_ble_eq_true rfl) rfl dL_count_4 ⟨Nat.zero_le _, Nat.zero_le _⟩) (fun r_1 hr_1 => ?_)
  subst hr_1
  refine lv_i2l hx hb dL_count_7 rfl ?_
  refine va_last hx hb hKJ hP hD hS (27 + 1) 0 (cw_at rfl) rfl (vp_in_nI (n := 0) (by omega) (by omega)) dL_count_8 (fun H locs hP hD hS => ?_)
  rw [cw_aset] at hP hD
  refine lv_goto (tgt := 15) hx hb dL_count_9 (by decide) ?_
  refine lv_iconst (v := 0) hx hb dL_count_15 (by decide) ?_
  have hP9 : va_P (dC, dI) vwCl (tab cI X d r ++ (bk cW X Bk n ch pd pr yr Wd ++ (bk cW X Br n2 ch2 pd2 pr2 yr2 W2 ++ (obj X Bk Br :: (o, .inl (cJ, 1, .inr (.inl (vp_updL f0 0 (countS d r n ch pd pr yr Wd k).toInt64)))) :: R)))) _ := hP
  have hD9 : va_D A (tab cI X d r ++ (bk cW X Bk n ch pd pr yr Wd ++ (bk cW X Br n2 ch2 pd2 pr2 yr2 W2 ++ (obj X Bk Br :: (o, .inl (cJ, 1, .inr (.inl (vp_updL f0 0 (countS d r n ch pd pr yr Wd k).toInt64)))) :: R)))) := hD
  have hz : (0 : Int32) = 0 := rfl
  exact W.iret (v := 0) hx hb hr (fun t ht hW => ⟨⟨_, (), rfl, hz, by rw [ht]; exact hP9, by rw [hAe]; exact hD9⟩, by rw [hAe]; exact hS.F ht⟩) hS.2.2 dL_count_16
set_option maxHeartbeats 4000000 in
set_option maxRecDepth 100000 in
theorem bad1_L_count (l : Launch) (dC : Nat → ClassId) (dI : Nat → Nat → Nat) (cI cW : ClassId) (hl0 : l.stackTraces = false) (cJ : ClassId) (o : Nat) (f0 : Nat → Int64) (X Bk Br : Nat → Nat) (d r : Nat → Int32) (n : Nat) (ch pd pr yr : Int32) (Wd : Nat → Nat → Int32) (n2 : Nat) (ch2 pd2 pr2 yr2 : Int32) (W2 : Nat → Nat → Int32) (R : va_W) (f : Int32) (h9 : ¬ (0 ≤ f ∧ f ≤ 8)) (sz : Nat) : Met l yL_count wsL_count ({ frames := 7, cells := 1, slots := 6, locals := 155 }) (PreL dC dI cI cW cJ [.ref (X 0), .int f, .ref o] (tab cI X d r ++ (bk cW X Bk n ch pd pr yr Wd ++ (bk cW X Br n2 ch2 pd2 pr2 yr2 W2 ++ (obj X Bk Br :: (o, .inl (cJ, 1, .inr (.inl f0))) :: R)))) sz) (Qi1 dC dI (fun z => z = 1) (tab cI X d r ++ (bk cW X Bk n ch pd pr yr Wd ++ (bk cW X Br n2 ch2 pd2 pr2 yr2 W2 ++ (obj X Bk Br :: (o, .inl (cJ, 1, .inr (.inl f0))) :: R)))) (tab cI X d r ++ (bk cW X Bk n ch pd pr yr Wd ++ (bk cW X Br n2 ch2 pd2 pr2 yr2 W2 ++ (obj X Bk Br :: (o, .inl (cJ, 1, .inr (.inl f0))) :: R)))) sz) 1 6 (va_A (tab cI X d r ++ (bk cW X Bk n ch pd pr yr Wd ++ (bk cW X Br n2 ch2 pd2 pr2 yr2 W2 ++ (obj X Bk Br :: (o, .inl (cJ, 1, .inr (.inl f0))) :: R)))) sz) := by
  refine met_ofWH (cc := cL_count) (maxL := 4) (ret := (some .int)) (hh := [(0, 9, 12, 13)]) (by decide) rfl ?_
  intro p e s m args below meth c s₁ B hml hv
  obtain ⟨rfl, hsz, hP, hD0, hKK, hKJ, hKX⟩ := hv
  subst hsz
  have hx := B.exec
  have hb := B.bytes
  have hr := B.returns
  have hts := atoms_spec (ws := wsL_count) B.pre
  have hown : s.vm.findClass RL = some m.cls := findClass_of_methodNamed B.named
  have hlocks := B.notSynchronized
  have hD := hD0.self (sz := s.heap.size)
  generalize hAe : va_A (tab cI X d r ++ (bk cW X Bk n ch pd pr yr Wd ++ (bk cW X Br n2 ch2 pd2 pr2 yr2 W2 ++ (obj X Bk Br :: (o, .inl (cJ, 1, .inr (.inl f0))) :: R)))) s.heap.size = A at hD ⊢
  have hA : ∀ q : Nat, s.heap.size ≤ q → A q := fun q h => by rw [← hAe]; exact Or.inr h
  have hS : va_S A s.heap s.heap [] := va_S.rf
  have hl := lv_entry ([.ref (X 0), .int f, .ref o]) (n := 4) (Nat.le_of_ble_eq_true rfl)
  rw [lg_entry_eq]
  generalize (lg_sl ([.ref (X 0), .int f, .ref o]) ++ List.replicate (4 - (lg_sl ([.ref (X 0), .int f, .ref o])).length) Slot.unset).toArray = ls at hl ⊢
  have hl : lv_has ls 4 [(0, .ref (X 0)), (1, .int f), (2, .ref o)] := hl
  refine lv_aload_n hx hb dL_count_0 rfl (lv_at hl 2 rfl) ?_
  refine lv_iconst (v := 0) hx hb dL_count_1 (by decide) ?_
  refine lv_aload_n hx hb dL_count_2 rfl (lv_at hl 0 rfl) ?_
  refine lv_iload_n hx hb dL_count_3 rfl (lv_at hl 1 rfl) ?_
  have htab : c.exceptionTable.toList = [⟨0, 9, 12, 13⟩] := vx_table (x := yL_count) B (hts (.codeWith yL_count cL_count 4 (some .int) [(0, 9, 12, 13)]) (by unfold wsL_count; exact List.mem_cons_self))
  refine vx_calli (vx_runV (As := [.int f]) (rest := [.int 0, .ref o]) ⟨hx, hb, hml, hown, hts⟩ (bad_X3_count l hl0 dC dI cI cW X Bk Br d r n ch pd pr yr Wd n2 ch2 pd2 pr2 yr2 W2 ((o, .inl (cJ, 1, .inr (.inl f0))) :: R) f h9 _) (cwV 1 hts gL_count_X3_count rfl rfl rfl (by decide +kernel) ⟨Nat.le_of_ble_eq_true rfl, Nat.le_of_ble_eq_true rfl⟩) ⟨PreX_blind, va_recv (q := (RX3, TX3, 3)) hKK.1 hP rfl cw_obj, fun U hU hW => ⟨rfl, by rw [hU], by rw [hU]; exact hP, hKK.warm hW, by rw [hU]; exact hKX.warm hW⟩⟩ rfl rfl hl.1 rfl (lv_room (Nat.le_of_ble_eq_true rfl)) dL_count_4 ⟨Nat.le_of_ble_eq_true rfl, Nat.le_of_ble_eq_true rfl⟩) hS (fun q _ h => hA q h) (fun q h => hA q h) (fun q _ h => hA q h) (fun E ce q9 u t H1 locs1 ht1 hvm hpx hBX hz hk9 hS1 hce hcv hcl => ?_) (fun r u t H1 locs1 _ _ hw => hw.elim)
  subst hBX
  have hP1 : va_P (dC, dI) vwCl (tab cI X d r ++ (bk cW X Bk n ch pd pr yr Wd ++ (bk cW X Br n2 ch2 pd2 pr2 yr2 W2 ++ (obj X Bk Br :: (o, .inl (cJ, 1, .inr (.inl f0))) :: R)))) H1 := hP.kept (fun k q hk => hk9 q.1 ((hP k q hk).lt) (Nat.not_le.mpr ((hP k q hk).lt)))
  refine vx_catch (own := RL) (name := xIO) hown [] ⟨0, 9, 12, 13⟩ [] htab (fun z hz => nomatch hz) rfl (by decide) (hts (.classLink RL 13 xIO) (by decide +kernel)) (va_Nw.use rfl hKX.1.1.1) hce hcv hcl ?_
  refine W.eq (g2 := F0 m 12 ls [.ref q9]) rfl ?_
  have hP := hP1
  have hS := hS1
  refine lv_astore_n (lv' := [(3, .ref q9), (0, .ref (X 0)), (1, .int f), (2, .ref o)]) hx hb dL_count_12 rfl hl (by decide) rfl (fun ls hl => ?_)
  refine lv_iconst (v := 1) hx hb dL_count_13 (by decide) ?_
  have hP9 : va_P (dC, dI) vwCl (tab cI X d r ++ (bk cW X Bk n ch pd pr yr Wd ++ (bk cW X Br n2 ch2 pd2 pr2 yr2 W2 ++ (obj X Bk Br :: (o, .inl (cJ, 1, .inr (.inl f0))) :: R)))) _ := hP
  have hD9 : va_D A (tab cI X d r ++ (bk cW X Bk n ch pd pr yr Wd ++ (bk cW X Br n2 ch2 pd2 pr2 yr2 W2 ++ (obj X Bk Br :: (o, .inl (cJ, 1, .inr (.inl f0))) :: R)))) := hD
  have hz : (1 : Int32) = 1 := rfl
  exact W.iret (v := 1) hx hb hr (fun t ht hW => ⟨⟨_, (), rfl, hz, by rw [ht]; exact hP9, by rw [hAe]; exact hD9⟩, by rw [hAe]; exact hS.F ht⟩) hS.2.2 dL_count_14
set_option maxHeartbeats 4000000 in
set_option maxRecDepth 100000 in
theorem met_L_alive (l : Launch) (dC : Nat → ClassId) (dI : Nat → Nat → Nat) (cI cW : ClassId) (cJ : ClassId) (o : Nat) (f0 : Nat → Int64) (X Bk Br : Nat → Nat) (d r : Nat → Int32) (n : Nat) (ch pd pr yr : Int32) (Wd : Nat → Nat → Int32) (n2 : Nat) (ch2 pd2 pr2 yr2 : Int32) (W2 : Nat → Nat → Int32) (R : va_W) (ka y : Nat) (h1 : 50 ≤ ka) (h2 : ka ≤ 99) (h3 : y ≤ 60) (sz : Nat) : Met l yL_alive wsL_alive ({ frames := 8, cells := 0, slots := 0, locals := 132 }) (PreL dC dI cI cW cJ [.ref (X 0), .int (nI ka), .int (nI y), .ref o] (tab cI X d r ++ (bk cW X Bk n ch pd pr yr Wd ++ (bk cW X Br n2 ch2 pd2 pr2 yr2 W2 ++ (obj X Bk Br :: (o, .inl (cJ, 1, .inr (.inl f0))) :: R)))) sz) (Qi1 dC dI (fun z => z = 0) (tab cI X d r ++ (bk cW X Bk n ch pd pr yr Wd ++ (bk cW X Br n2 ch2 pd2 pr2 yr2 W2 ++ (obj X Bk Br :: (o, .inl (cJ, 1, .inr (.inl f0))) :: R)))) (tab cI X d r ++ (bk cW X Bk n ch pd pr yr Wd ++ (bk cW X Br n2 ch2 pd2 pr2 yr2 W2 ++ (obj X Bk Br :: (o, .inl (cJ, 1, .inr (.inl (vp_updL f0 0 (if 99 < ka + y then 0 else aliveS d (ka - 50) y).toInt64)))) :: R)))) sz) 0 0 (va_A (tab cI X d r ++ (bk cW X Bk n ch pd pr yr Wd ++ (bk cW X Br n2 ch2 pd2 pr2 yr2 W2 ++ (obj X Bk Br :: (o, .inl (cJ, 1, .inr (.inl f0))) :: R)))) sz) := by
  refine met_ofWH (cc := cL_alive) (maxL := 5) (ret := (some .int)) (hh := [(0, 10, 13, 15)]) (by decide) rfl ?_
  intro p e s m args below meth c s₁ B hml hv
  obtain ⟨rfl, hsz, hP, hD0, hKK, hKJ, hKX⟩ := hv
  subst hsz
  have hx := B.exec
  have hb := B.bytes
  have hr := B.returns
  have hts := atoms_spec (ws := wsL_alive) B.pre
  have hown : s.vm.findClass RL = some m.cls := findClass_of_methodNamed B.named
  have hlocks := B.notSynchronized
  have hD := hD0.self (sz := s.heap.size)
  generalize hAe : va_A (tab cI X d r ++ (bk cW X Bk n ch pd pr yr Wd ++ (bk cW X Br n2 ch2 pd2 pr2 yr2 W2 ++ (obj X Bk Br :: (o, .inl (cJ, 1, .inr (.inl f0))) :: R)))) s.heap.size = A at hD ⊢
  have hA : ∀ q : Nat, s.heap.size ≤ q → A q := fun q h => by rw [← hAe]; exact Or.inr h
  have hS : va_S A s.heap s.heap [] := va_S.rf
  have hl := lv_entry ([.ref (X 0), .int (nI ka), .int (nI y), .ref o]) (n := 5) (Nat.le_of_ble_eq_true rfl)
  rw [lg_entry_eq]
  generalize (lg_sl ([.ref (X 0), .int (nI ka), .int (nI y), .ref o]) ++ List.replicate (5 - (lg_sl ([.ref (X 0), .int (nI ka), .int (nI y), .ref o])).length) Slot.unset).toArray = ls at hl ⊢
  have hl : lv_has ls 5 [(0, .ref (X 0)), (1, .int (nI ka)), (2, .int (nI y)), (3, .ref o)] := hl
  refine lv_aload_n hx hb dL_alive_0 rfl (lv_at hl 3 rfl) ?_
  refine lv_iconst (v := 0) hx hb dL_alive_1 (by decide) ?_
  refine lv_aload_n hx hb dL_alive_2 rfl (lv_at hl 0 rfl) ?_
  refine lv_iload_n hx hb dL_alive_3 rfl (lv_at hl 1 rfl) ?_
  refine lv_iload_n hx hb dL_alive_4 rfl (lv_at hl 2 rfl) ?_
  refine rd_i (runV0 (As := [.int (nI ka), .int (nI y)]) (rest := [.int 0, .ref o]) ⟨hx, hb, hml, hown, hts⟩ (met_X3_alive l dC dI cI cW X Bk Br d r n ch pd pr yr Wd n2 ch2 pd2 pr2 yr2 W2 ((o, .inl (cJ, 1, .inr (.inl f0))) :: R) ka y h1 h2 h3) (cwV 2 hts gL_alive_X3_alive rfl rfl rfl (by decide +kernel) ⟨Nat.le_of_ble_eq_true rfl, Nat.le_of_ble_eq_true rfl⟩) hKK hP 3 27 rfl cw_obj rfl hl.1 (Nat.le_of_ble_eq_true rfl) rfl dL_alive_5 ⟨Nat.zero_le _, Nat.zero_le _⟩) (fun r_1 hr_1 => ?_)
  subst hr_1
  refine lv_i2l hx hb dL_alive_8 rfl ?_
  refine va_last hx hb hKJ hP hD hS (27 + 1) 0 (cw_at rfl) rfl (vp_in_nI (n := 0) (by omega) (by omega)) dL_alive_9 (fun H locs hP hD hS => ?_)
  rw [cw_aset] at hP hD
  refine lv_goto (tgt := 17) hx hb dL_alive_10 (by decide) ?_
  refine lv_iconst (v := 0) hx hb dL_alive_17 (by decide) ?_
  have hP9 : va_P (dC, dI) vwCl (tab cI X d r ++ (bk cW X Bk n ch pd pr yr Wd ++ (bk cW X Br n2 ch2 pd2 pr2 yr2 W2 ++ (obj X Bk Br :: (o, .inl (cJ, 1, .inr (.inl (vp_updL f0 0 (if 99 < ka + y then 0 else aliveS d (ka - 50) y).toInt64)))) :: R)))) _ := hP
  have hD9 : va_D A (tab cI X d r ++ (bk cW X Bk n ch pd pr yr Wd ++ (bk cW X Br n2 ch2 pd2 pr2 yr2 W2 ++ (obj X Bk Br :: (o, .inl (cJ, 1, .inr (.inl (vp_updL f0 0 (if 99 < ka + y then 0 else aliveS d (ka - 50) y).toInt64)))) :: R)))) := hD
  have hz : (0 : Int32) = 0 := rfl
  exact W.iret (v := 0) hx hb hr (fun t ht hW => ⟨⟨_, (), rfl, hz, by rw [ht]; exact hP9, by rw [hAe]; exact hD9⟩, by rw [hAe]; exact hS.F ht⟩) hS.2.2 dL_alive_18
set_option maxHeartbeats 4000000 in
set_option maxRecDepth 100000 in
theorem bad1_L_alive (l : Launch) (dC : Nat → ClassId) (dI : Nat → Nat → Nat) (cI cW : ClassId) (hl0 : l.stackTraces = false) (cJ : ClassId) (o : Nat) (f0 : Nat → Int64) (X Bk Br : Nat → Nat) (d r : Nat → Int32) (n : Nat) (ch pd pr yr : Int32) (Wd : Nat → Nat → Int32) (n2 : Nat) (ch2 pd2 pr2 yr2 : Int32) (W2 : Nat → Nat → Int32) (R : va_W) (a y : Int32) (h9 : ¬ ((50 ≤ a ∧ a ≤ 99) ∧ (0 ≤ y ∧ y ≤ 60))) (sz : Nat) : Met l yL_alive wsL_alive ({ frames := 8, cells := 1, slots := 6, locals := 132 }) (PreL dC dI cI cW cJ [.ref (X 0), .int a, .int y, .ref o] (tab cI X d r ++ (bk cW X Bk n ch pd pr yr Wd ++ (bk cW X Br n2 ch2 pd2 pr2 yr2 W2 ++ (obj X Bk Br :: (o, .inl (cJ, 1, .inr (.inl f0))) :: R)))) sz) (Qi1 dC dI (fun z => z = 1) (tab cI X d r ++ (bk cW X Bk n ch pd pr yr Wd ++ (bk cW X Br n2 ch2 pd2 pr2 yr2 W2 ++ (obj X Bk Br :: (o, .inl (cJ, 1, .inr (.inl f0))) :: R)))) (tab cI X d r ++ (bk cW X Bk n ch pd pr yr Wd ++ (bk cW X Br n2 ch2 pd2 pr2 yr2 W2 ++ (obj X Bk Br :: (o, .inl (cJ, 1, .inr (.inl f0))) :: R)))) sz) 1 6 (va_A (tab cI X d r ++ (bk cW X Bk n ch pd pr yr Wd ++ (bk cW X Br n2 ch2 pd2 pr2 yr2 W2 ++ (obj X Bk Br :: (o, .inl (cJ, 1, .inr (.inl f0))) :: R)))) sz) := by
  refine met_ofWH (cc := cL_alive) (maxL := 5) (ret := (some .int)) (hh := [(0, 10, 13, 15)]) (by decide) rfl ?_
  intro p e s m args below meth c s₁ B hml hv
  obtain ⟨rfl, hsz, hP, hD0, hKK, hKJ, hKX⟩ := hv
  subst hsz
  have hx := B.exec
  have hb := B.bytes
  have hr := B.returns
  have hts := atoms_spec (ws := wsL_alive) B.pre
  have hown : s.vm.findClass RL = some m.cls := findClass_of_methodNamed B.named
  have hlocks := B.notSynchronized
  have hD := hD0.self (sz := s.heap.size)
  generalize hAe : va_A (tab cI X d r ++ (bk cW X Bk n ch pd pr yr Wd ++ (bk cW X Br n2 ch2 pd2 pr2 yr2 W2 ++ (obj X Bk Br :: (o, .inl (cJ, 1, .inr (.inl f0))) :: R)))) s.heap.size = A at hD ⊢
  have hA : ∀ q : Nat, s.heap.size ≤ q → A q := fun q h => by rw [← hAe]; exact Or.inr h
  have hS : va_S A s.heap s.heap [] := va_S.rf
  have hl := lv_entry ([.ref (X 0), .int a, .int y, .ref o]) (n := 5) (Nat.le_of_ble_eq_true rfl)
  rw [lg_entry_eq]
  generalize (lg_sl ([.ref (X 0), .int a, .int y, .ref o]) ++ List.replicate (5 - (lg_sl ([.ref (X 0), .int a, .int y, .ref o])).length) Slot.unset).toArray = ls at hl ⊢
  have hl : lv_has ls 5 [(0, .ref (X 0)), (1, .int a), (2, .int y), (3, .ref o)] := hl
  refine lv_aload_n hx hb dL_alive_0 rfl (lv_at hl 3 rfl) ?_
  refine lv_iconst (v := 0) hx hb dL_alive_1 (by decide) ?_
  refine lv_aload_n hx hb dL_alive_2 rfl (lv_at hl 0 rfl) ?_
  refine lv_iload_n hx hb dL_alive_3 rfl (lv_at hl 1 rfl) ?_
  refine lv_iload_n hx hb dL_alive_4 rfl (lv_at hl 2 rfl) ?_
  have htab : c.exceptionTable.toList = [⟨0, 10, 13, 15⟩] := vx_table (x := yL_alive) B (hts (.codeWith yL_alive cL_alive 5 (some .int) [(0, 10, 13, 15)]) (by unfold wsL_alive; exact List.mem_cons_self))
  refine vx_calli (vx_runV (As := [.int a, .int y]) (rest := [.int 0, .ref o]) ⟨hx, hb, hml, hown, hts⟩ (bad_X3_alive l hl0 dC dI cI cW X Bk Br d r n ch pd pr yr Wd n2 ch2 pd2 pr2 yr2 W2 ((o, .inl (cJ, 1, .inr (.inl f0))) :: R) a y h9 _) (cwV 2 hts gL_alive_X3_alive rfl rfl rfl (by decide +kernel) ⟨Nat.le_of_ble_eq_true rfl, Nat.le_of_ble_eq_true rfl⟩) ⟨PreX_blind, va_recv (q := (RX3, TX3, 3)) hKK.1 hP rfl cw_obj, fun U hU hW => ⟨rfl, by rw [hU], by rw [hU]; exact hP, hKK.warm hW, by rw [hU]; exact hKX.warm hW⟩⟩ rfl rfl hl.1 rfl (lv_room (Nat.le_of_ble_eq_true rfl)) dL_alive_5 ⟨Nat.le_of_ble_eq_true rfl, Nat.le_of_ble_eq_true rfl⟩) hS (fun q _ h => hA q h) (fun q h => hA q h) (fun q _ h => hA q h) (fun E ce q9 u t H1 locs1 ht1 hvm hpx hBX hz hk9 hS1 hce hcv hcl => ?_) (fun r u t H1 locs1 _ _ hw => hw.elim)
  subst hBX
  have hP1 : va_P (dC, dI) vwCl (tab cI X d r ++ (bk cW X Bk n ch pd pr yr Wd ++ (bk cW X Br n2 ch2 pd2 pr2 yr2 W2 ++ (obj X Bk Br :: (o, .inl (cJ, 1, .inr (.inl f0))) :: R)))) H1 := hP.kept (fun k q hk => hk9 q.1 ((hP k q hk).lt) (Nat.not_le.mpr ((hP k q hk).lt)))
  refine vx_catch (own := RL) (name := xIA) hown [] ⟨0, 10, 13, 15⟩ [] htab (fun z hz => nomatch hz) rfl (by decide) (hts (.classLink RL 15 xIA) (by decide +kernel)) (va_Nw.use rfl hKX.1.1.2.1) hce hcv hcl ?_
  refine W.eq (g2 := F0 m 13 ls [.ref q9]) rfl ?_
  have hP := hP1
  have hS := hS1
  refine lv_astore (lv' := [(4, .ref q9), (0, .ref (X 0)), (1, .int a), (2, .int y), (3, .ref o)]) hx hb dL_alive_13 hl (by decide) rfl (fun ls hl => ?_)
  refine lv_iconst (v := 1) hx hb dL_alive_15 (by decide) ?_
  have hP9 : va_P (dC, dI) vwCl (tab cI X d r ++ (bk cW X Bk n ch pd pr yr Wd ++ (bk cW X Br n2 ch2 pd2 pr2 yr2 W2 ++ (obj X Bk Br :: (o, .inl (cJ, 1, .inr (.inl f0))) :: R)))) _ := hP
  have hD9 : va_D A (tab cI X d r ++ (bk cW X Bk n ch pd pr yr Wd ++ (bk cW X Br n2 ch2 pd2 pr2 yr2 W2 ++ (obj X Bk Br :: (o, .inl (cJ, 1, .inr (.inl f0))) :: R)))) := hD
  have hz : (1 : Int32) = 1 := rfl
  exact W.iret (v := 1) hx hb hr (fun t ht hW => ⟨⟨_, (), rfl, hz, by rw [ht]; exact hP9, by rw [hAe]; exact hD9⟩, by rw [hAe]; exact hS.F ht⟩) hS.2.2 dL_alive_16
set_option maxHeartbeats 4000000 in
set_option maxRecDepth 100000 in
theorem met_L_pass (l : Launch) (dC : Nat → ClassId) (dI : Nat → Nat → Nat) (cI cW : ClassId) (cJ : ClassId) (o : Nat) (f0 : Nat → Int64) (X Bk Br : Nat → Nat) (d r : Nat → Int32) (n : Nat) (ch pd pr yr : Int32) (Wd : Nat → Nat → Int32) (n2 : Nat) (ch2 pd2 pr2 yr2 : Int32) (W2 : Nat → Nat → Int32) (R : va_W) (hn : n ≤ 10) (hok : ∀ k, k < n → okW (Wd k)) (y : Nat) (h1 : 1 ≤ y) (h2 : y ≤ 50) (hi : ¬ (1000 : Int32) + r 0 = 0) (hi0 : ¬ r 0 < 0) (sz : Nat) : Met l yL_pass wsL_pass ({ frames := 8, cells := 0, slots := 0, locals := 132 }) (PreL dC dI cI cW cJ [.ref (X 0), .int (nI y), .ref o] (tab cI X d r ++ (bk cW X Bk n ch pd pr yr Wd ++ (bk cW X Br n2 ch2 pd2 pr2 yr2 W2 ++ (obj X Bk Br :: (o, .inl (cJ, 1, .inr (.inl f0))) :: R)))) sz) (Qi1 dC dI (fun z => z = 0) (tab cI X d r ++ (bk cW X Bk n ch pd pr yr Wd ++ (bk cW X Br n2 ch2 pd2 pr2 yr2 W2 ++ (obj X Bk Br :: (o, .inl (cJ, 1, .inr (.inl f0))) :: R)))) (tab cI X d r ++ (bk cW X Bk n ((yIter (r 0) n y (ch, pd, yr, Wd)).1) ((yIter (r 0) n y (ch, pd, yr, Wd)).2.1) pr ((yIter (r 0) n y (ch, pd, yr, Wd)).2.2.1) ((yIter (r 0) n y (ch, pd, yr, Wd)).2.2.2) ++ (bk cW X Br n2 ch2 pd2 pr2 yr2 W2 ++ (obj X Bk Br :: (o, .inl (cJ, 1, .inr (.inl (vp_updL f0 0 ((yIter (r 0) n y (ch, pd, yr, Wd)).2.1 - pd).toInt64)))) :: R)))) sz) 0 0 (va_A (tab cI X d r ++ (bk cW X Bk n ch pd pr yr Wd ++ (bk cW X Br n2 ch2 pd2 pr2 yr2 W2 ++ (obj X Bk Br :: (o, .inl (cJ, 1, .inr (.inl f0))) :: R)))) sz) := by
  refine met_ofWH (cc := cL_pass) (maxL := 4) (ret := (some .int)) (hh := [(0, 9, 12, 15)]) (by decide) rfl ?_
  intro p e s m args below meth c s₁ B hml hv
  obtain ⟨rfl, hsz, hP, hD0, hKK, hKJ, hKX⟩ := hv
  subst hsz
  have hx := B.exec
  have hb := B.bytes
  have hr := B.returns
  have hts := atoms_spec (ws := wsL_pass) B.pre
  have hown : s.vm.findClass RL = some m.cls := findClass_of_methodNamed B.named
  have hlocks := B.notSynchronized
  have hD := hD0.self (sz := s.heap.size)
  generalize hAe : va_A (tab cI X d r ++ (bk cW X Bk n ch pd pr yr Wd ++ (bk cW X Br n2 ch2 pd2 pr2 yr2 W2 ++ (obj X Bk Br :: (o, .inl (cJ, 1, .inr (.inl f0))) :: R)))) s.heap.size = A at hD ⊢
  have hA : ∀ q : Nat, s.heap.size ≤ q → A q := fun q h => by rw [← hAe]; exact Or.inr h
  have hS : va_S A s.heap s.heap [] := va_S.rf
  have hl := lv_entry ([.ref (X 0), .int (nI y), .ref o]) (n := 4) (Nat.le_of_ble_eq_true rfl)
  rw [lg_entry_eq]
  generalize (lg_sl ([.ref (X 0), .int (nI y), .ref o]) ++ List.replicate (4 - (lg_sl ([.ref (X 0), .int (nI y), .ref o])).length) Slot.unset).toArray = ls at hl ⊢
  have hl : lv_has ls 4 [(0, .ref (X 0)), (1, .int (nI y)), (2, .ref o)] := hl
  refine lv_aload_n hx hb dL_pass_0 rfl (lv_at hl 2 rfl) ?_
  refine lv_iconst (v := 0) hx hb dL_pass_1 (by decide) ?_
  refine lv_aload_n hx hb dL_pass_2 rfl (lv_at hl 0 rfl) ?_
  refine lv_iload_n hx hb dL_pass_3 rfl (lv_at hl 1 rfl) ?_
  refine wr_i (runV1 (As := [.int (nI y)]) (rest := [.int 0, .ref o]) ⟨hx, hb, hml, hown, hts⟩ (met_X3_pass l dC dI cI cW X Bk Br d r n ch pd pr yr Wd n2 ch2 pd2 pr2 yr2 W2 ((o, .inl (cJ, 1, .inr (.inl f0))) :: R) hn hok y h1 h2 hi hi0 _) (cwV 1 hts gL_pass_X3_pass rfl rfl rfl (by decide +kernel) ⟨Nat.le_of_ble_eq_true rfl, Nat.le_of_ble_eq_true rfl⟩) hKK hP hD 3 27 rfl cw_obj rfl hl.1 (Nat.le_of_ble_eq_true rfl) rfl dL_pass_4 ⟨Nat.zero_le _, Nat.zero_le _⟩) hD hS hA (fun r_1 H locs hr_1 hP hD hS => ?_)
  subst hr_1
  have hP : va_P (dC, dI) vwCl (tab cI X d r ++ (bk cW X Bk n ((yIter (r 0) n y (ch, pd, yr, Wd)).1) ((yIter (r 0) n y (ch, pd, yr, Wd)).2.1) pr ((yIter (r 0) n y (ch, pd, yr, Wd)).2.2.1) ((yIter (r 0) n y (ch, pd, yr, Wd)).2.2.2) ++ (bk cW X Br n2 ch2 pd2 pr2 yr2 W2 ++ (obj X Bk Br :: (o, .inl (cJ, 1, .inr (.inl f0))) :: R)))) H := hP
  have hD : va_D A (tab cI X d r ++ (bk cW X Bk n ((yIter (r 0) n y (ch, pd, yr, Wd)).1) ((yIter (r 0) n y (ch, pd, yr, Wd)).2.1) pr ((yIter (r 0) n y (ch, pd, yr, Wd)).2.2.1) ((yIter (r 0) n y (ch, pd, yr, Wd)).2.2.2) ++ (bk cW X Br n2 ch2 pd2 pr2 yr2 W2 ++ (obj X Bk Br :: (o, .inl (cJ, 1, .inr (.inl f0))) :: R)))) := hD
  refine lv_i2l hx hb dL_pass_7 rfl ?_
  refine va_last hx hb hKJ hP hD hS (27 + 1) 0 (cw_at rfl) rfl (vp_in_nI (n := 0) (by omega) (by omega)) dL_pass_8 (fun H locs hP hD hS => ?_)
  rw [cw_aset] at hP hD
  refine lv_goto (tgt := 15) hx hb dL_pass_9 (by decide) ?_
  refine lv_iconst (v := 0) hx hb dL_pass_15 (by decide) ?_
  have hP9 : va_P (dC, dI) vwCl (tab cI X d r ++ (bk cW X Bk n ((yIter (r 0) n y (ch, pd, yr, Wd)).1) ((yIter (r 0) n y (ch, pd, yr, Wd)).2.1) pr ((yIter (r 0) n y (ch, pd, yr, Wd)).2.2.1) ((yIter (r 0) n y (ch, pd, yr, Wd)).2.2.2) ++ (bk cW X Br n2 ch2 pd2 pr2 yr2 W2 ++ (obj X Bk Br :: (o, .inl (cJ, 1, .inr (.inl (vp_updL f0 0 ((yIter (r 0) n y (ch, pd, yr, Wd)).2.1 - pd).toInt64)))) :: R)))) _ := hP
  have hD9 : va_D A (tab cI X d r ++ (bk cW X Bk n ((yIter (r 0) n y (ch, pd, yr, Wd)).1) ((yIter (r 0) n y (ch, pd, yr, Wd)).2.1) pr ((yIter (r 0) n y (ch, pd, yr, Wd)).2.2.1) ((yIter (r 0) n y (ch, pd, yr, Wd)).2.2.2) ++ (bk cW X Br n2 ch2 pd2 pr2 yr2 W2 ++ (obj X Bk Br :: (o, .inl (cJ, 1, .inr (.inl (vp_updL f0 0 ((yIter (r 0) n y (ch, pd, yr, Wd)).2.1 - pd).toInt64)))) :: R)))) := hD
  have hz : (0 : Int32) = 0 := rfl
  exact W.iret (v := 0) hx hb hr (fun t ht hW => ⟨⟨_, (), rfl, hz, by rw [ht]; exact hP9, by rw [hAe]; exact hD9⟩, by rw [hAe]; exact hS.F ht⟩) hS.2.2 dL_pass_16
set_option maxHeartbeats 4000000 in
set_option maxRecDepth 100000 in
theorem bad1_L_pass (l : Launch) (dC : Nat → ClassId) (dI : Nat → Nat → Nat) (cI cW : ClassId) (hl0 : l.stackTraces = false) (cJ : ClassId) (o : Nat) (f0 : Nat → Int64) (X Bk Br : Nat → Nat) (d r : Nat → Int32) (n : Nat) (ch pd pr yr : Int32) (Wd : Nat → Nat → Int32) (n2 : Nat) (ch2 pd2 pr2 yr2 : Int32) (W2 : Nat → Nat → Int32) (R : va_W) (a : Int32) (h9 : ¬ (1 ≤ a ∧ a ≤ 50)) (sz : Nat) : Met l yL_pass wsL_pass ({ frames := 8, cells := 1, slots := 6, locals := 132 }) (PreL dC dI cI cW cJ [.ref (X 0), .int a, .ref o] (tab cI X d r ++ (bk cW X Bk n ch pd pr yr Wd ++ (bk cW X Br n2 ch2 pd2 pr2 yr2 W2 ++ (obj X Bk Br :: (o, .inl (cJ, 1, .inr (.inl f0))) :: R)))) sz) (Qi1 dC dI (fun z => z = 1) (tab cI X d r ++ (bk cW X Bk n ch pd pr yr Wd ++ (bk cW X Br n2 ch2 pd2 pr2 yr2 W2 ++ (obj X Bk Br :: (o, .inl (cJ, 1, .inr (.inl f0))) :: R)))) (tab cI X d r ++ (bk cW X Bk n ch pd pr yr Wd ++ (bk cW X Br n2 ch2 pd2 pr2 yr2 W2 ++ (obj X Bk Br :: (o, .inl (cJ, 1, .inr (.inl f0))) :: R)))) sz) 1 6 (va_A (tab cI X d r ++ (bk cW X Bk n ch pd pr yr Wd ++ (bk cW X Br n2 ch2 pd2 pr2 yr2 W2 ++ (obj X Bk Br :: (o, .inl (cJ, 1, .inr (.inl f0))) :: R)))) sz) := by
  refine met_ofWH (cc := cL_pass) (maxL := 4) (ret := (some .int)) (hh := [(0, 9, 12, 15)]) (by decide) rfl ?_
  intro p e s m args below meth c s₁ B hml hv
  obtain ⟨rfl, hsz, hP, hD0, hKK, hKJ, hKX⟩ := hv
  subst hsz
  have hx := B.exec
  have hb := B.bytes
  have hr := B.returns
  have hts := atoms_spec (ws := wsL_pass) B.pre
  have hown : s.vm.findClass RL = some m.cls := findClass_of_methodNamed B.named
  have hlocks := B.notSynchronized
  have hD := hD0.self (sz := s.heap.size)
  generalize hAe : va_A (tab cI X d r ++ (bk cW X Bk n ch pd pr yr Wd ++ (bk cW X Br n2 ch2 pd2 pr2 yr2 W2 ++ (obj X Bk Br :: (o, .inl (cJ, 1, .inr (.inl f0))) :: R)))) s.heap.size = A at hD ⊢
  have hA : ∀ q : Nat, s.heap.size ≤ q → A q := fun q h => by rw [← hAe]; exact Or.inr h
  have hS : va_S A s.heap s.heap [] := va_S.rf
  have hl := lv_entry ([.ref (X 0), .int a, .ref o]) (n := 4) (Nat.le_of_ble_eq_true rfl)
  rw [lg_entry_eq]
  generalize (lg_sl ([.ref (X 0), .int a, .ref o]) ++ List.replicate (4 - (lg_sl ([.ref (X 0), .int a, .ref o])).length) Slot.unset).toArray = ls at hl ⊢
  have hl : lv_has ls 4 [(0, .ref (X 0)), (1, .int a), (2, .ref o)] := hl
  refine lv_aload_n hx hb dL_pass_0 rfl (lv_at hl 2 rfl) ?_
  refine lv_iconst (v := 0) hx hb dL_pass_1 (by decide) ?_
  refine lv_aload_n hx hb dL_pass_2 rfl (lv_at hl 0 rfl) ?_
  refine lv_iload_n hx hb dL_pass_3 rfl (lv_at hl 1 rfl) ?_
  have htab : c.exceptionTable.toList = [⟨0, 9, 12, 15⟩] := vx_table (x := yL_pass) B (hts (.codeWith yL_pass cL_pass 4 (some .int) [(0, 9, 12, 15)]) (by unfold wsL_pass; exact List.mem_cons_self))
  refine vx_calli (vx_runV (As := [.int a]) (rest := [.int 0, .ref o]) ⟨hx, hb, hml, hown, hts⟩ (bad_X3_pass l hl0 dC dI cI cW X Bk Br d r n ch pd pr yr Wd n2 ch2 pd2 pr2 yr2 W2 ((o, .inl (cJ, 1, .inr (.inl f0))) :: R) a h9 _) (cwV 1 hts gL_pass_X3_pass rfl rfl rfl (by decide +kernel) ⟨Nat.le_of_ble_eq_true rfl, Nat.le_of_ble_eq_true rfl⟩) ⟨PreX_blind, va_recv (q := (RX3, TX3, 3)) hKK.1 hP rfl cw_obj, fun U hU hW => ⟨rfl, by rw [hU], by rw [hU]; exact hP, hKK.warm hW, by rw [hU]; exact hKX.warm hW⟩⟩ rfl rfl hl.1 rfl (lv_room (Nat.le_of_ble_eq_true rfl)) dL_pass_4 ⟨Nat.le_of_ble_eq_true rfl, Nat.le_of_ble_eq_true rfl⟩) hS (fun q _ h => hA q h) (fun q h => hA q h) (fun q _ h => hA q h) (fun E ce q9 u t H1 locs1 ht1 hvm hpx hBX hz hk9 hS1 hce hcv hcl => ?_) (fun r u t H1 locs1 _ _ hw => hw.elim)
  subst hBX
  have hP1 : va_P (dC, dI) vwCl (tab cI X d r ++ (bk cW X Bk n ch pd pr yr Wd ++ (bk cW X Br n2 ch2 pd2 pr2 yr2 W2 ++ (obj X Bk Br :: (o, .inl (cJ, 1, .inr (.inl f0))) :: R)))) H1 := hP.kept (fun k q hk => hk9 q.1 ((hP k q hk).lt) (Nat.not_le.mpr ((hP k q hk).lt)))
  refine vx_catch (own := RL) (name := xIA) hown [] ⟨0, 9, 12, 15⟩ [] htab (fun z hz => nomatch hz) rfl (by decide) (hts (.classLink RL 15 xIA) (by decide +kernel)) (va_Nw.use rfl hKX.1.1.2.1) hce hcv hcl ?_
  refine W.eq (g2 := F0 m 12 ls [.ref q9]) rfl ?_
  have hP := hP1
  have hS := hS1
  refine lv_astore_n (lv' := [(3, .ref q9), (0, .ref (X 0)), (1, .int a), (2, .ref o)]) hx hb dL_pass_12 rfl hl (by decide) rfl (fun ls hl => ?_)
  refine lv_iconst (v := 1) hx hb dL_pass_13 (by decide) ?_
  have hP9 : va_P (dC, dI) vwCl (tab cI X d r ++ (bk cW X Bk n ch pd pr yr Wd ++ (bk cW X Br n2 ch2 pd2 pr2 yr2 W2 ++ (obj X Bk Br :: (o, .inl (cJ, 1, .inr (.inl f0))) :: R)))) _ := hP
  have hD9 : va_D A (tab cI X d r ++ (bk cW X Bk n ch pd pr yr Wd ++ (bk cW X Br n2 ch2 pd2 pr2 yr2 W2 ++ (obj X Bk Br :: (o, .inl (cJ, 1, .inr (.inl f0))) :: R)))) := hD
  have hz : (1 : Int32) = 1 := rfl
  exact W.iret (v := 1) hx hb hr (fun t ht hW => ⟨⟨_, (), rfl, hz, by rw [ht]; exact hP9, by rw [hAe]; exact hD9⟩, by rw [hAe]; exact hS.F ht⟩) hS.2.2 dL_pass_14
set_option maxHeartbeats 4000000 in
set_option maxRecDepth 100000 in
theorem met_L_foresee (l : Launch) (dC : Nat → ClassId) (dI : Nat → Nat → Nat) (cI cW : ClassId) (cJ : ClassId) (o : Nat) (f0 : Nat → Int64) (X Bk Br : Nat → Nat) (d r : Nat → Int32) (n : Nat) (ch pd pr yr : Int32) (Wd : Nat → Nat → Int32) (n2 : Nat) (ch2 pd2 pr2 yr2 : Int32) (W2 : Nat → Nat → Int32) (R : va_W) (hn : n ≤ 10) (hok : ∀ k, k < n → okW (Wd k)) (y k : Nat) (h1 : 1 ≤ y) (h2 : y ≤ 50) (h3 : 2 ≤ k) (h4 : k ≤ 7) (hi : ¬ (1000 : Int32) + r 0 = 0) (hi0 : ¬ r 0 < 0) (sz : Nat) : Met l yL_foresee wsL_foresee ({ frames := 8, cells := 0, slots := 0, locals := 156 }) (PreL dC dI cI cW cJ [.ref (X 0), .int (nI y), .int (nI k), .ref o] (tab cI X d r ++ (bk cW X Bk n ch pd pr yr Wd ++ (bk cW X Br n2 ch2 pd2 pr2 yr2 W2 ++ (obj X Bk Br :: (o, .inl (cJ, 1, .inr (.inl f0))) :: R)))) sz) (Qi1 dC dI (fun z => z = 0) (tab cI X d r ++ (bk cW X Bk n ch pd pr yr Wd ++ (bk cW X Br n2 ch2 pd2 pr2 yr2 W2 ++ (obj X Bk Br :: (o, .inl (cJ, 1, .inr (.inl f0))) :: R)))) (tab cI X d r ++ (bk cW X Bk n ch pd pr yr Wd ++ (bk cW X Br n ((yIter (r 0) n y (ch, pd, yr, Wd)).1) ((yIter (r 0) n y (ch, pd, yr, Wd)).2.1) pr ((yIter (r 0) n y (ch, pd, yr, Wd)).2.2.1) ((yIter (r 0) n y (ch, pd, yr, Wd)).2.2.2) ++ (obj X Bk Br :: (o, .inl (cJ, 1, .inr (.inl (vp_updL f0 0 (countS d r n (yIter (r 0) n y (ch, pd, yr, Wd)).1 (yIter (r 0) n y (ch, pd, yr, Wd)).2.1 pr (yIter (r 0) n y (ch, pd, yr, Wd)).2.2.1 (yIter (r 0) n y (ch, pd, yr, Wd)).2.2.2 k).toInt64)))) :: R)))) sz) 0 0 (va_A (tab cI X d r ++ (bk cW X Bk n ch pd pr yr Wd ++ (bk cW X Br n2 ch2 pd2 pr2 yr2 W2 ++ (obj X Bk Br :: (o, .inl (cJ, 1, .inr (.inl f0))) :: R)))) sz) := by
  refine met_ofWH (cc := cL_foresee) (maxL := 5) (ret := (some .int)) (hh := [(0, 10, 13, 15), (0, 10, 17, 13)]) (by decide) rfl ?_
  intro p e s m args below meth c s₁ B hml hv
  obtain ⟨rfl, hsz, hP, hD0, hKK, hKJ, hKX⟩ := hv
  subst hsz
  have hx := B.exec
  have hb := B.bytes
  have hr := B.returns
  have hts := atoms_spec (ws := wsL_foresee) B.pre
  have hown : s.vm.findClass RL = some m.cls := findClass_of_methodNamed B.named
  have hlocks := B.notSynchronized
  have hD := hD0.self (sz := s.heap.size)
  generalize hAe : va_A (tab cI X d r ++ (bk cW X Bk n ch pd pr yr Wd ++ (bk cW X Br n2 ch2 pd2 pr2 yr2 W2 ++ (obj X Bk Br :: (o, .inl (cJ, 1, .inr (.inl f0))) :: R)))) s.heap.size = A at hD ⊢
  have hA : ∀ q : Nat, s.heap.size ≤ q → A q := fun q h => by rw [← hAe]; exact Or.inr h
  have hS : va_S A s.heap s.heap [] := va_S.rf
  have hl := lv_entry ([.ref (X 0), .int (nI y), .int (nI k), .ref o]) (n := 5) (Nat.le_of_ble_eq_true rfl)
  rw [lg_entry_eq]
  generalize (lg_sl ([.ref (X 0), .int (nI y), .int (nI k), .ref o]) ++ List.replicate (5 - (lg_sl ([.ref (X 0), .int (nI y), .int (nI k), .ref o])).length) Slot.unset).toArray = ls at hl ⊢
  have hl : lv_has ls 5 [(0, .ref (X 0)), (1, .int (nI y)), (2, .int (nI k)), (3, .ref o)] := hl
  refine lv_aload_n hx hb dL_foresee_0 rfl (lv_at hl 3 rfl) ?_
  refine lv_iconst (v := 0) hx hb dL_foresee_1 (by decide) ?_
  refine lv_aload_n hx hb dL_foresee_2 rfl (lv_at hl 0 rfl) ?_
  refine lv_iload_n hx hb dL_foresee_3 rfl (lv_at hl 1 rfl) ?_
  refine lv_iload_n hx hb dL_foresee_4 rfl (lv_at hl 2 rfl) ?_
  refine wr_i (runV1 (As := [.int (nI y), .int (nI k)]) (rest := [.int 0, .ref o]) ⟨hx, hb, hml, hown, hts⟩ (met_X3_foresee l dC dI cI cW X Bk Br d r n ch pd pr yr Wd n2 ch2 pd2 pr2 yr2 W2 ((o, .inl (cJ, 1, .inr (.inl f0))) :: R) hn hok y k h1 h2 h3 h4 hi hi0 _) (cwV 2 hts gL_foresee_X3_foresee rfl rfl rfl (by decide +kernel) ⟨Nat.le_of_ble_eq_true rfl, Nat.le_of_ble_eq_true rfl⟩) hKK hP hD 3 27 rfl cw_obj rfl hl.1 (Nat.le_of_ble_eq_true rfl) rfl dL_foresee_5 ⟨Nat.zero_le _, Nat.zero_le _⟩) hD hS hA (fun r_1 H locs hr_1 hP hD hS => ?_)
  subst hr_1
  have hP : va_P (dC, dI) vwCl (tab cI X d r ++ (bk cW X Bk n ch pd pr yr Wd ++ (bk cW X Br n ((yIter (r 0) n y (ch, pd, yr, Wd)).1) ((yIter (r 0) n y (ch, pd, yr, Wd)).2.1) pr ((yIter (r 0) n y (ch, pd, yr, Wd)).2.2.1) ((yIter (r 0) n y (ch, pd, yr, Wd)).2.2.2) ++ (obj X Bk Br :: (o, .inl (cJ, 1, .inr (.inl f0))) :: R)))) H := hP
  have hD : va_D A (tab cI X d r ++ (bk cW X Bk n ch pd pr yr Wd ++ (bk cW X Br n ((yIter (r 0) n y (ch, pd, yr, Wd)).1) ((yIter (r 0) n y (ch, pd, yr, Wd)).2.1) pr ((yIter (r 0) n y (ch, pd, yr, Wd)).2.2.1) ((yIter (r 0) n y (ch, pd, yr, Wd)).2.2.2) ++ (obj X Bk Br :: (o, .inl (cJ, 1, .inr (.inl f0))) :: R)))) := hD
  refine lv_i2l hx hb dL_foresee_8 rfl ?_
  refine va_last hx hb hKJ hP hD hS (27 + 1) 0 (cw_at rfl) rfl (vp_in_nI (n := 0) (by omega) (by omega)) dL_foresee_9 (fun H locs hP hD hS => ?_)
  rw [cw_aset] at hP hD
  refine lv_goto (tgt := 21) hx hb dL_foresee_10 (by decide) ?_
  refine lv_iconst (v := 0) hx hb dL_foresee_21 (by decide) ?_
  have hP9 : va_P (dC, dI) vwCl (tab cI X d r ++ (bk cW X Bk n ch pd pr yr Wd ++ (bk cW X Br n ((yIter (r 0) n y (ch, pd, yr, Wd)).1) ((yIter (r 0) n y (ch, pd, yr, Wd)).2.1) pr ((yIter (r 0) n y (ch, pd, yr, Wd)).2.2.1) ((yIter (r 0) n y (ch, pd, yr, Wd)).2.2.2) ++ (obj X Bk Br :: (o, .inl (cJ, 1, .inr (.inl (vp_updL f0 0 (countS d r n (yIter (r 0) n y (ch, pd, yr, Wd)).1 (yIter (r 0) n y (ch, pd, yr, Wd)).2.1 pr (yIter (r 0) n y (ch, pd, yr, Wd)).2.2.1 (yIter (r 0) n y (ch, pd, yr, Wd)).2.2.2 k).toInt64)))) :: R)))) _ := hP
  have hD9 : va_D A (tab cI X d r ++ (bk cW X Bk n ch pd pr yr Wd ++ (bk cW X Br n ((yIter (r 0) n y (ch, pd, yr, Wd)).1) ((yIter (r 0) n y (ch, pd, yr, Wd)).2.1) pr ((yIter (r 0) n y (ch, pd, yr, Wd)).2.2.1) ((yIter (r 0) n y (ch, pd, yr, Wd)).2.2.2) ++ (obj X Bk Br :: (o, .inl (cJ, 1, .inr (.inl (vp_updL f0 0 (countS d r n (yIter (r 0) n y (ch, pd, yr, Wd)).1 (yIter (r 0) n y (ch, pd, yr, Wd)).2.1 pr (yIter (r 0) n y (ch, pd, yr, Wd)).2.2.1 (yIter (r 0) n y (ch, pd, yr, Wd)).2.2.2 k).toInt64)))) :: R)))) := hD
  have hz : (0 : Int32) = 0 := rfl
  exact W.iret (v := 0) hx hb hr (fun t ht hW => ⟨⟨_, (), rfl, hz, by rw [ht]; exact hP9, by rw [hAe]; exact hD9⟩, by rw [hAe]; exact hS.F ht⟩) hS.2.2 dL_foresee_22
set_option maxHeartbeats 4000000 in
set_option maxRecDepth 100000 in
theorem bad1_L_foresee (l : Launch) (dC : Nat → ClassId) (dI : Nat → Nat → Nat) (cI cW : ClassId) (hl0 : l.stackTraces = false) (cJ : ClassId) (o : Nat) (f0 : Nat → Int64) (X Bk Br : Nat → Nat) (d r : Nat → Int32) (n : Nat) (ch pd pr yr : Int32) (Wd : Nat → Nat → Int32) (n2 : Nat) (ch2 pd2 pr2 yr2 : Int32) (W2 : Nat → Nat → Int32) (R : va_W) (a f : Int32) (h9 : ¬ (1 ≤ a ∧ a ≤ 50)) (sz : Nat) : Met l yL_foresee wsL_foresee ({ frames := 8, cells := 1, slots := 6, locals := 156 }) (PreL dC dI cI cW cJ [.ref (X 0), .int a, .int f, .ref o] (tab cI X d r ++ (bk cW X Bk n ch pd pr yr Wd ++ (bk cW X Br n2 ch2 pd2 pr2 yr2 W2 ++ (obj X Bk Br :: (o, .inl (cJ, 1, .inr (.inl f0))) :: R)))) sz) (Qi1 dC dI (fun z => z = 1) (tab cI X d r ++ (bk cW X Bk n ch pd pr yr Wd ++ (bk cW X Br n2 ch2 pd2 pr2 yr2 W2 ++ (obj X Bk Br :: (o, .inl (cJ, 1, .inr (.inl f0))) :: R)))) (tab cI X d r ++ (bk cW X Bk n ch pd pr yr Wd ++ (bk cW X Br n2 ch2 pd2 pr2 yr2 W2 ++ (obj X Bk Br :: (o, .inl (cJ, 1, .inr (.inl f0))) :: R)))) sz) 1 6 (va_A (tab cI X d r ++ (bk cW X Bk n ch pd pr yr Wd ++ (bk cW X Br n2 ch2 pd2 pr2 yr2 W2 ++ (obj X Bk Br :: (o, .inl (cJ, 1, .inr (.inl f0))) :: R)))) sz) := by
  refine met_ofWH (cc := cL_foresee) (maxL := 5) (ret := (some .int)) (hh := [(0, 10, 13, 15), (0, 10, 17, 13)]) (by decide) rfl ?_
  intro p e s m args below meth c s₁ B hml hv
  obtain ⟨rfl, hsz, hP, hD0, hKK, hKJ, hKX⟩ := hv
  subst hsz
  have hx := B.exec
  have hb := B.bytes
  have hr := B.returns
  have hts := atoms_spec (ws := wsL_foresee) B.pre
  have hown : s.vm.findClass RL = some m.cls := findClass_of_methodNamed B.named
  have hlocks := B.notSynchronized
  have hD := hD0.self (sz := s.heap.size)
  generalize hAe : va_A (tab cI X d r ++ (bk cW X Bk n ch pd pr yr Wd ++ (bk cW X Br n2 ch2 pd2 pr2 yr2 W2 ++ (obj X Bk Br :: (o, .inl (cJ, 1, .inr (.inl f0))) :: R)))) s.heap.size = A at hD ⊢
  have hA : ∀ q : Nat, s.heap.size ≤ q → A q := fun q h => by rw [← hAe]; exact Or.inr h
  have hS : va_S A s.heap s.heap [] := va_S.rf
  have hl := lv_entry ([.ref (X 0), .int a, .int f, .ref o]) (n := 5) (Nat.le_of_ble_eq_true rfl)
  rw [lg_entry_eq]
  generalize (lg_sl ([.ref (X 0), .int a, .int f, .ref o]) ++ List.replicate (5 - (lg_sl ([.ref (X 0), .int a, .int f, .ref o])).length) Slot.unset).toArray = ls at hl ⊢
  have hl : lv_has ls 5 [(0, .ref (X 0)), (1, .int a), (2, .int f), (3, .ref o)] := hl
  refine lv_aload_n hx hb dL_foresee_0 rfl (lv_at hl 3 rfl) ?_
  refine lv_iconst (v := 0) hx hb dL_foresee_1 (by decide) ?_
  refine lv_aload_n hx hb dL_foresee_2 rfl (lv_at hl 0 rfl) ?_
  refine lv_iload_n hx hb dL_foresee_3 rfl (lv_at hl 1 rfl) ?_
  refine lv_iload_n hx hb dL_foresee_4 rfl (lv_at hl 2 rfl) ?_
  have htab : c.exceptionTable.toList = [⟨0, 10, 13, 15⟩, ⟨0, 10, 17, 13⟩] := vx_table (x := yL_foresee) B (hts (.codeWith yL_foresee cL_foresee 5 (some .int) [(0, 10, 13, 15), (0, 10, 17, 13)]) (by unfold wsL_foresee; exact List.mem_cons_self))
  refine vx_calli (vx_runV (As := [.int a, .int f]) (rest := [.int 0, .ref o]) ⟨hx, hb, hml, hown, hts⟩ (bad1_X3_foresee l hl0 dC dI cI cW X Bk Br d r n ch pd pr yr Wd n2 ch2 pd2 pr2 yr2 W2 ((o, .inl (cJ, 1, .inr (.inl f0))) :: R) a f h9 _) (cwV 2 hts gL_foresee_X3_foresee rfl rfl rfl (by decide +kernel) ⟨Nat.le_of_ble_eq_true rfl, Nat.le_of_ble_eq_true rfl⟩) ⟨PreX_blind, va_recv (q := (RX3, TX3, 3)) hKK.1 hP rfl cw_obj, fun U hU hW => ⟨rfl, by rw [hU], by rw [hU]; exact hP, hKK.warm hW, by rw [hU]; exact hKX.warm hW⟩⟩ rfl rfl hl.1 rfl (lv_room (Nat.le_of_ble_eq_true rfl)) dL_foresee_5 ⟨Nat.le_of_ble_eq_true rfl, Nat.le_of_ble_eq_true rfl⟩) hS (fun q _ h => hA q h) (fun q h => hA q h) (fun q _ h => hA q h) (fun E ce q9 u t H1 locs1 ht1 hvm hpx hBX hz hk9 hS1 hce hcv hcl => ?_) (fun r u t H1 locs1 _ _ hw => hw.elim)
  subst hBX
  have hP1 : va_P (dC, dI) vwCl (tab cI X d r ++ (bk cW X Bk n ch pd pr yr Wd ++ (bk cW X Br n2 ch2 pd2 pr2 yr2 W2 ++ (obj X Bk Br :: (o, .inl (cJ, 1, .inr (.inl f0))) :: R)))) H1 := hP.kept (fun k q hk => hk9 q.1 ((hP k q hk).lt) (Nat.not_le.mpr ((hP k q hk).lt)))
  refine vx_catch (own := RL) (name := xIA) hown [] ⟨0, 10, 13, 15⟩ [⟨0, 10, 17, 13⟩] htab (fun z hz => nomatch hz) rfl (by decide) (hts (.classLink RL 15 xIA) (by decide +kernel)) (va_Nw.use rfl hKX.1.1.2.1) hce hcv hcl ?_
  refine W.eq (g2 := F0 m 13 ls [.ref q9]) rfl ?_
  have hP := hP1
  have hS := hS1
  refine lv_astore (lv' := [(4, .ref q9), (0, .ref (X 0)), (1, .int a), (2, .int f), (3, .ref o)]) hx hb dL_foresee_13 hl (by decide) rfl (fun ls hl => ?_)
  refine lv_iconst (v := 1) hx hb dL_foresee_15 (by decide) ?_
  have hP9 : va_P (dC, dI) vwCl (tab cI X d r ++ (bk cW X Bk n ch pd pr yr Wd ++ (bk cW X Br n2 ch2 pd2 pr2 yr2 W2 ++ (obj X Bk Br :: (o, .inl (cJ, 1, .inr (.inl f0))) :: R)))) _ := hP
  have hD9 : va_D A (tab cI X d r ++ (bk cW X Bk n ch pd pr yr Wd ++ (bk cW X Br n2 ch2 pd2 pr2 yr2 W2 ++ (obj X Bk Br :: (o, .inl (cJ, 1, .inr (.inl f0))) :: R)))) := hD
  have hz : (1 : Int32) = 1 := rfl
  exact W.iret (v := 1) hx hb hr (fun t ht hW => ⟨⟨_, (), rfl, hz, by rw [ht]; exact hP9, by rw [hAe]; exact hD9⟩, by rw [hAe]; exact hS.F ht⟩) hS.2.2 dL_foresee_16
set_option maxHeartbeats 4000000 in
set_option maxRecDepth 100000 in
theorem bad2_L_foresee (l : Launch) (dC : Nat → ClassId) (dI : Nat → Nat → Nat) (cI cW : ClassId) (hl0 : l.stackTraces = false) (cJ : ClassId) (o : Nat) (f0 : Nat → Int64) (X Bk Br : Nat → Nat) (d r : Nat → Int32) (n : Nat) (ch pd pr yr : Int32) (Wd : Nat → Nat → Int32) (n2 : Nat) (ch2 pd2 pr2 yr2 : Int32) (W2 : Nat → Nat → Int32) (R : va_W) (a f : Int32) (h8 : 1 ≤ a ∧ a ≤ 50) (h9 : ¬ (2 ≤ f ∧ f ≤ 7)) (sz : Nat) : Met l yL_foresee wsL_foresee ({ frames := 8, cells := 1, slots := 6, locals := 156 }) (PreL dC dI cI cW cJ [.ref (X 0), .int a, .int f, .ref o] (tab cI X d r ++ (bk cW X Bk n ch pd pr yr Wd ++ (bk cW X Br n2 ch2 pd2 pr2 yr2 W2 ++ (obj X Bk Br :: (o, .inl (cJ, 1, .inr (.inl f0))) :: R)))) sz) (Qi1 dC dI (fun z => z = 2) (tab cI X d r ++ (bk cW X Bk n ch pd pr yr Wd ++ (bk cW X Br n2 ch2 pd2 pr2 yr2 W2 ++ (obj X Bk Br :: (o, .inl (cJ, 1, .inr (.inl f0))) :: R)))) (tab cI X d r ++ (bk cW X Bk n ch pd pr yr Wd ++ (bk cW X Br n2 ch2 pd2 pr2 yr2 W2 ++ (obj X Bk Br :: (o, .inl (cJ, 1, .inr (.inl f0))) :: R)))) sz) 1 6 (va_A (tab cI X d r ++ (bk cW X Bk n ch pd pr yr Wd ++ (bk cW X Br n2 ch2 pd2 pr2 yr2 W2 ++ (obj X Bk Br :: (o, .inl (cJ, 1, .inr (.inl f0))) :: R)))) sz) := by
  refine met_ofWH (cc := cL_foresee) (maxL := 5) (ret := (some .int)) (hh := [(0, 10, 13, 15), (0, 10, 17, 13)]) (by decide) rfl ?_
  intro p e s m args below meth c s₁ B hml hv
  obtain ⟨rfl, hsz, hP, hD0, hKK, hKJ, hKX⟩ := hv
  subst hsz
  have hx := B.exec
  have hb := B.bytes
  have hr := B.returns
  have hts := atoms_spec (ws := wsL_foresee) B.pre
  have hown : s.vm.findClass RL = some m.cls := findClass_of_methodNamed B.named
  have hlocks := B.notSynchronized
  have hD := hD0.self (sz := s.heap.size)
  generalize hAe : va_A (tab cI X d r ++ (bk cW X Bk n ch pd pr yr Wd ++ (bk cW X Br n2 ch2 pd2 pr2 yr2 W2 ++ (obj X Bk Br :: (o, .inl (cJ, 1, .inr (.inl f0))) :: R)))) s.heap.size = A at hD ⊢
  have hA : ∀ q : Nat, s.heap.size ≤ q → A q := fun q h => by rw [← hAe]; exact Or.inr h
  have hS : va_S A s.heap s.heap [] := va_S.rf
  have hl := lv_entry ([.ref (X 0), .int a, .int f, .ref o]) (n := 5) (Nat.le_of_ble_eq_true rfl)
  rw [lg_entry_eq]
  generalize (lg_sl ([.ref (X 0), .int a, .int f, .ref o]) ++ List.replicate (5 - (lg_sl ([.ref (X 0), .int a, .int f, .ref o])).length) Slot.unset).toArray = ls at hl ⊢
  have hl : lv_has ls 5 [(0, .ref (X 0)), (1, .int a), (2, .int f), (3, .ref o)] := hl
  refine lv_aload_n hx hb dL_foresee_0 rfl (lv_at hl 3 rfl) ?_
  refine lv_iconst (v := 0) hx hb dL_foresee_1 (by decide) ?_
  refine lv_aload_n hx hb dL_foresee_2 rfl (lv_at hl 0 rfl) ?_
  refine lv_iload_n hx hb dL_foresee_3 rfl (lv_at hl 1 rfl) ?_
  refine lv_iload_n hx hb dL_foresee_4 rfl (lv_at hl 2 rfl) ?_
  have htab : c.exceptionTable.toList = [⟨0, 10, 13, 15⟩, ⟨0, 10, 17, 13⟩] := vx_table (x := yL_foresee) B (hts (.codeWith yL_foresee cL_foresee 5 (some .int) [(0, 10, 13, 15), (0, 10, 17, 13)]) (by unfold wsL_foresee; exact List.mem_cons_self))
  refine vx_calli (vx_runV (As := [.int a, .int f]) (rest := [.int 0, .ref o]) ⟨hx, hb, hml, hown, hts⟩ (bad2_X3_foresee l hl0 dC dI cI cW X Bk Br d r n ch pd pr yr Wd n2 ch2 pd2 pr2 yr2 W2 ((o, .inl (cJ, 1, .inr (.inl f0))) :: R) a f h8 h9 _) (cwV 2 hts gL_foresee_X3_foresee rfl rfl rfl (by decide +kernel) ⟨Nat.le_of_ble_eq_true rfl, Nat.le_of_ble_eq_true rfl⟩) ⟨PreX_blind, va_recv (q := (RX3, TX3, 3)) hKK.1 hP rfl cw_obj, fun U hU hW => ⟨rfl, by rw [hU], by rw [hU]; exact hP, hKK.warm hW, by rw [hU]; exact hKX.warm hW⟩⟩ rfl rfl hl.1 rfl (lv_room (Nat.le_of_ble_eq_true rfl)) dL_foresee_5 ⟨Nat.le_of_ble_eq_true rfl, Nat.le_of_ble_eq_true rfl⟩) hS (fun q _ h => hA q h) (fun q h => hA q h) (fun q _ h => hA q h) (fun E ce q9 u t H1 locs1 ht1 hvm hpx hBX hz hk9 hS1 hce hcv hcl => ?_) (fun r u t H1 locs1 _ _ hw => hw.elim)
  subst hBX
  have hP1 : va_P (dC, dI) vwCl (tab cI X d r ++ (bk cW X Bk n ch pd pr yr Wd ++ (bk cW X Br n2 ch2 pd2 pr2 yr2 W2 ++ (obj X Bk Br :: (o, .inl (cJ, 1, .inr (.inl f0))) :: R)))) H1 := hP.kept (fun k q hk => hk9 q.1 ((hP k q hk).lt) (Nat.not_le.mpr ((hP k q hk).lt)))
  refine vx_catch (own := RL) (name := xIO) hown [⟨0, 10, 13, 15⟩] ⟨0, 10, 17, 13⟩ [] htab (fun z hz => by cases List.mem_singleton.mp hz; exact Or.inr ⟨by decide, xIA, hts (.classLink RL 15 xIA) (by decide +kernel), hKX.2.1.2.2.2⟩) rfl (by decide) (hts (.classLink RL 13 xIO) (by decide +kernel)) (va_Nw.use rfl hKX.1.1.1) hce hcv hcl ?_
  refine W.eq (g2 := F0 m 17 ls [.ref q9]) rfl ?_
  have hP := hP1
  have hS := hS1
  refine lv_astore (lv' := [(4, .ref q9), (0, .ref (X 0)), (1, .int a), (2, .int f), (3, .ref o)]) hx hb dL_foresee_17 hl (by decide) rfl (fun ls hl => ?_)
  refine lv_iconst (v := 2) hx hb dL_foresee_19 (by decide) ?_
  have hP9 : va_P (dC, dI) vwCl (tab cI X d r ++ (bk cW X Bk n ch pd pr yr Wd ++ (bk cW X Br n2 ch2 pd2 pr2 yr2 W2 ++ (obj X Bk Br :: (o, .inl (cJ, 1, .inr (.inl f0))) :: R)))) _ := hP
  have hD9 : va_D A (tab cI X d r ++ (bk cW X Bk n ch pd pr yr Wd ++ (bk cW X Br n2 ch2 pd2 pr2 yr2 W2 ++ (obj X Bk Br :: (o, .inl (cJ, 1, .inr (.inl f0))) :: R)))) := hD
  have hz : (2 : Int32) = 2 := rfl
  exact W.iret (v := 2) hx hb hr (fun t ht hW => ⟨⟨_, (), rfl, hz, by rw [ht]; exact hP9, by rw [hAe]; exact hD9⟩, by rw [hAe]; exact hS.F ht⟩) hS.2.2 dL_foresee_20
set_option maxHeartbeats 4000000 in
set_option maxRecDepth 100000 in
theorem met_L_affords (l : Launch) (dC : Nat → ClassId) (dI : Nat → Nat → Nat) (cI cW : ClassId) (cJ : ClassId) (o : Nat) (f0 : Nat → Int64) (X Bk Br : Nat → Nat) (d r : Nat → Int32) (n : Nat) (ch pd pr yr : Int32) (Wd : Nat → Nat → Int32) (n2 : Nat) (ch2 pd2 pr2 yr2 : Int32) (W2 : Nat → Nat → Int32) (R : va_W) (ka kb : Nat) (money : Int32) (h1 : 50 ≤ ka) (h2 : ka ≤ 99) (h3 : kb ≤ 30) (h4 : 1 ≤ money ∧ money ≤ 99999) (hm : ∀ k : Nat, k < 999 → priceS (r 1) (nI (k + 1)) (wN d (r 0) (100 - ka) kb) ≤ money → priceS (r 1) (nI k) (wN d (r 0) (100 - ka) kb) ≤ money) (hi : ¬ (1000 : Int32) + r 0 = 0) (hi0 : ¬ r 0 < 0) (sz : Nat) : Met l yL_affords wsL_affords ({ frames := 8, cells := 0, slots := 0, locals := 134 }) (PreL dC dI cI cW cJ [.ref (X 0), .int (nI ka), .int (nI kb), .int money, .ref o] (tab cI X d r ++ (bk cW X Bk n ch pd pr yr Wd ++ (bk cW X Br n2 ch2 pd2 pr2 yr2 W2 ++ (obj X Bk Br :: (o, .inl (cJ, 1, .inr (.inl f0))) :: R)))) sz) (Qi1 dC dI (fun z => z = 0) (tab cI X d r ++ (bk cW X Bk n ch pd pr yr Wd ++ (bk cW X Br n2 ch2 pd2 pr2 yr2 W2 ++ (obj X Bk Br :: (o, .inl (cJ, 1, .inr (.inl f0))) :: R)))) (tab cI X d r ++ (bk cW X Bk n ch pd pr yr Wd ++ (bk cW X Br n2 ch2 pd2 pr2 yr2 W2 ++ (obj X Bk Br :: (o, .inl (cJ, 1, .inr (.inl (vp_updL f0 0 (if wN d (r 0) (100 - ka) kb = 0 then 0 else nI (gS (r 1) (wN d (r 0) (100 - ka) kb) money)).toInt64)))) :: R)))) sz) 0 0 (va_A (tab cI X d r ++ (bk cW X Bk n ch pd pr yr Wd ++ (bk cW X Br n2 ch2 pd2 pr2 yr2 W2 ++ (obj X Bk Br :: (o, .inl (cJ, 1, .inr (.inl f0))) :: R)))) sz) := by
  refine met_ofWH (cc := cL_affords) (maxL := 6) (ret := (some .int)) (hh := [(0, 12, 15, 15)]) (by decide) rfl ?_
  intro p e s m args below meth c s₁ B hml hv
  obtain ⟨rfl, hsz, hP, hD0, hKK, hKJ, hKX⟩ := hv
  subst hsz
  have hx := B.exec
  have hb := B.bytes
  have hr := B.returns
  have hts := atoms_spec (ws := wsL_affords) B.pre
  have hown : s.vm.findClass RL = some m.cls := findClass_of_methodNamed B.named
  have hlocks := B.notSynchronized
  have hD := hD0.self (sz := s.heap.size)
  generalize hAe : va_A (tab cI X d r ++ (bk cW X Bk n ch pd pr yr Wd ++ (bk cW X Br n2 ch2 pd2 pr2 yr2 W2 ++ (obj X Bk Br :: (o, .inl (cJ, 1, .inr (.inl f0))) :: R)))) s.heap.size = A at hD ⊢
  have hA : ∀ q : Nat, s.heap.size ≤ q → A q := fun q h => by rw [← hAe]; exact Or.inr h
  have hS : va_S A s.heap s.heap [] := va_S.rf
  have hl := lv_entry ([.ref (X 0), .int (nI ka), .int (nI kb), .int money, .ref o]) (n := 6) (Nat.le_of_ble_eq_true rfl)
  rw [lg_entry_eq]
  generalize (lg_sl ([.ref (X 0), .int (nI ka), .int (nI kb), .int money, .ref o]) ++ List.replicate (6 - (lg_sl ([.ref (X 0), .int (nI ka), .int (nI kb), .int money, .ref o])).length) Slot.unset).toArray = ls at hl ⊢
  have hl : lv_has ls 6 [(0, .ref (X 0)), (1, .int (nI ka)), (2, .int (nI kb)), (3, .int money), (4, .ref o)] := hl
  refine lv_aload hx hb dL_affords_0 (lv_at hl 4 rfl) ?_
  refine lv_iconst (v := 0) hx hb dL_affords_2 (by decide) ?_
  refine lv_aload_n hx hb dL_affords_3 rfl (lv_at hl 0 rfl) ?_
  refine lv_iload_n hx hb dL_affords_4 rfl (lv_at hl 1 rfl) ?_
  refine lv_iload_n hx hb dL_affords_5 rfl (lv_at hl 2 rfl) ?_
  refine lv_iload_n hx hb dL_affords_6 rfl (lv_at hl 3 rfl) ?_
  refine rd_i (runV0 (As := [.int (nI ka), .int (nI kb), .int money]) (rest := [.int 0, .ref o]) ⟨hx, hb, hml, hown, hts⟩ (met_X3_affords l dC dI cI cW X Bk Br d r n ch pd pr yr Wd n2 ch2 pd2 pr2 yr2 W2 ((o, .inl (cJ, 1, .inr (.inl f0))) :: R) ka kb money h1 h2 h3 h4 hm hi hi0) (cwV 3 hts gL_affords_X3_affords rfl rfl rfl (by decide +kernel) ⟨Nat.le_of_ble_eq_true rfl, Nat.le_of_ble_eq_true rfl⟩) hKK hP 3 27 rfl cw_obj rfl hl.1 (Nat.le_of_ble_eq_true rfl) rfl dL_affords_7 ⟨Nat.zero_le _, Nat.zero_le _⟩) (fun r_1 hr_1 => ?_)
  subst hr_1
  refine lv_i2l hx hb dL_affords_10 rfl ?_
  refine va_last hx hb hKJ hP hD hS (27 + 1) 0 (cw_at rfl) rfl (vp_in_nI (n := 0) (by omega) (by omega)) dL_affords_11 (fun H locs hP hD hS => ?_)
  rw [cw_aset] at hP hD
  refine lv_goto (tgt := 19) hx hb dL_affords_12 (by decide) ?_
  refine lv_iconst (v := 0) hx hb dL_affords_19 (by decide) ?_
  have hP9 : va_P (dC, dI) vwCl (tab cI X d r ++ (bk cW X Bk n ch pd pr yr Wd ++ (bk cW X Br n2 ch2 pd2 pr2 yr2 W2 ++ (obj X Bk Br :: (o, .inl (cJ, 1, .inr (.inl (vp_updL f0 0 (if wN d (r 0) (100 - ka) kb = 0 then 0 else nI (gS (r 1) (wN d (r 0) (100 - ka) kb) money)).toInt64)))) :: R)))) _ := hP
  have hD9 : va_D A (tab cI X d r ++ (bk cW X Bk n ch pd pr yr Wd ++ (bk cW X Br n2 ch2 pd2 pr2 yr2 W2 ++ (obj X Bk Br :: (o, .inl (cJ, 1, .inr (.inl (vp_updL f0 0 (if wN d (r 0) (100 - ka) kb = 0 then 0 else nI (gS (r 1) (wN d (r 0) (100 - ka) kb) money)).toInt64)))) :: R)))) := hD
  have hz : (0 : Int32) = 0 := rfl
  exact W.iret (v := 0) hx hb hr (fun t ht hW => ⟨⟨_, (), rfl, hz, by rw [ht]; exact hP9, by rw [hAe]; exact hD9⟩, by rw [hAe]; exact hS.F ht⟩) hS.2.2 dL_affords_20
set_option maxHeartbeats 4000000 in
set_option maxRecDepth 100000 in
theorem bad1_L_affords (l : Launch) (dC : Nat → ClassId) (dI : Nat → Nat → Nat) (cI cW : ClassId) (hl0 : l.stackTraces = false) (cJ : ClassId) (o : Nat) (f0 : Nat → Int64) (X Bk Br : Nat → Nat) (d r : Nat → Int32) (n : Nat) (ch pd pr yr : Int32) (Wd : Nat → Nat → Int32) (n2 : Nat) (ch2 pd2 pr2 yr2 : Int32) (W2 : Nat → Nat → Int32) (R : va_W) (a p9 money : Int32) (h9 : ¬ ((50 ≤ a ∧ a ≤ 99) ∧ (0 ≤ p9 ∧ p9 ≤ 30) ∧ (1 ≤ money ∧ money ≤ 99999))) (sz : Nat) : Met l yL_affords wsL_affords ({ frames := 8, cells := 1, slots := 6, locals := 134 }) (PreL dC dI cI cW cJ [.ref (X 0), .int a, .int p9, .int money, .ref o] (tab cI X d r ++ (bk cW X Bk n ch pd pr yr Wd ++ (bk cW X Br n2 ch2 pd2 pr2 yr2 W2 ++ (obj X Bk Br :: (o, .inl (cJ, 1, .inr (.inl f0))) :: R)))) sz) (Qi1 dC dI (fun z => z = 1) (tab cI X d r ++ (bk cW X Bk n ch pd pr yr Wd ++ (bk cW X Br n2 ch2 pd2 pr2 yr2 W2 ++ (obj X Bk Br :: (o, .inl (cJ, 1, .inr (.inl f0))) :: R)))) (tab cI X d r ++ (bk cW X Bk n ch pd pr yr Wd ++ (bk cW X Br n2 ch2 pd2 pr2 yr2 W2 ++ (obj X Bk Br :: (o, .inl (cJ, 1, .inr (.inl f0))) :: R)))) sz) 1 6 (va_A (tab cI X d r ++ (bk cW X Bk n ch pd pr yr Wd ++ (bk cW X Br n2 ch2 pd2 pr2 yr2 W2 ++ (obj X Bk Br :: (o, .inl (cJ, 1, .inr (.inl f0))) :: R)))) sz) := by
  refine met_ofWH (cc := cL_affords) (maxL := 6) (ret := (some .int)) (hh := [(0, 12, 15, 15)]) (by decide) rfl ?_
  intro p e s m args below meth c s₁ B hml hv
  obtain ⟨rfl, hsz, hP, hD0, hKK, hKJ, hKX⟩ := hv
  subst hsz
  have hx := B.exec
  have hb := B.bytes
  have hr := B.returns
  have hts := atoms_spec (ws := wsL_affords) B.pre
  have hown : s.vm.findClass RL = some m.cls := findClass_of_methodNamed B.named
  have hlocks := B.notSynchronized
  have hD := hD0.self (sz := s.heap.size)
  generalize hAe : va_A (tab cI X d r ++ (bk cW X Bk n ch pd pr yr Wd ++ (bk cW X Br n2 ch2 pd2 pr2 yr2 W2 ++ (obj X Bk Br :: (o, .inl (cJ, 1, .inr (.inl f0))) :: R)))) s.heap.size = A at hD ⊢
  have hA : ∀ q : Nat, s.heap.size ≤ q → A q := fun q h => by rw [← hAe]; exact Or.inr h
  have hS : va_S A s.heap s.heap [] := va_S.rf
  have hl := lv_entry ([.ref (X 0), .int a, .int p9, .int money, .ref o]) (n := 6) (Nat.le_of_ble_eq_true rfl)
  rw [lg_entry_eq]
  generalize (lg_sl ([.ref (X 0), .int a, .int p9, .int money, .ref o]) ++ List.replicate (6 - (lg_sl ([.ref (X 0), .int a, .int p9, .int money, .ref o])).length) Slot.unset).toArray = ls at hl ⊢
  have hl : lv_has ls 6 [(0, .ref (X 0)), (1, .int a), (2, .int p9), (3, .int money), (4, .ref o)] := hl
  refine lv_aload hx hb dL_affords_0 (lv_at hl 4 rfl) ?_
  refine lv_iconst (v := 0) hx hb dL_affords_2 (by decide) ?_
  refine lv_aload_n hx hb dL_affords_3 rfl (lv_at hl 0 rfl) ?_
  refine lv_iload_n hx hb dL_affords_4 rfl (lv_at hl 1 rfl) ?_
  refine lv_iload_n hx hb dL_affords_5 rfl (lv_at hl 2 rfl) ?_
  refine lv_iload_n hx hb dL_affords_6 rfl (lv_at hl 3 rfl) ?_
  have htab : c.exceptionTable.toList = [⟨0, 12, 15, 15⟩] := vx_table (x := yL_affords) B (hts (.codeWith yL_affords cL_affords 6 (some .int) [(0, 12, 15, 15)]) (by unfold wsL_affords; exact List.mem_cons_self))
  refine vx_calli (vx_runV (As := [.int a, .int p9, .int money]) (rest := [.int 0, .ref o]) ⟨hx, hb, hml, hown, hts⟩ (bad_X3_affords l hl0 dC dI cI cW X Bk Br d r n ch pd pr yr Wd n2 ch2 pd2 pr2 yr2 W2 ((o, .inl (cJ, 1, .inr (.inl f0))) :: R) a p9 money h9 _) (cwV 3 hts gL_affords_X3_affords rfl rfl rfl (by decide +kernel) ⟨Nat.le_of_ble_eq_true rfl, Nat.le_of_ble_eq_true rfl⟩) ⟨PreX_blind, va_recv (q := (RX3, TX3, 3)) hKK.1 hP rfl cw_obj, fun U hU hW => ⟨rfl, by rw [hU], by rw [hU]; exact hP, hKK.warm hW, by rw [hU]; exact hKX.warm hW⟩⟩ rfl rfl hl.1 rfl (lv_room (Nat.le_of_ble_eq_true rfl)) dL_affords_7 ⟨Nat.le_of_ble_eq_true rfl, Nat.le_of_ble_eq_true rfl⟩) hS (fun q _ h => hA q h) (fun q h => hA q h) (fun q _ h => hA q h) (fun E ce q9 u t H1 locs1 ht1 hvm hpx hBX hz hk9 hS1 hce hcv hcl => ?_) (fun r u t H1 locs1 _ _ hw => hw.elim)
  subst hBX
  have hP1 : va_P (dC, dI) vwCl (tab cI X d r ++ (bk cW X Bk n ch pd pr yr Wd ++ (bk cW X Br n2 ch2 pd2 pr2 yr2 W2 ++ (obj X Bk Br :: (o, .inl (cJ, 1, .inr (.inl f0))) :: R)))) H1 := hP.kept (fun k q hk => hk9 q.1 ((hP k q hk).lt) (Nat.not_le.mpr ((hP k q hk).lt)))
  refine vx_catch (own := RL) (name := xIA) hown [] ⟨0, 12, 15, 15⟩ [] htab (fun z hz => nomatch hz) rfl (by decide) (hts (.classLink RL 15 xIA) (by decide +kernel)) (va_Nw.use rfl hKX.1.1.2.1) hce hcv hcl ?_
  refine W.eq (g2 := F0 m 15 ls [.ref q9]) rfl ?_
  have hP := hP1
  have hS := hS1
  refine lv_astore (lv' := [(5, .ref q9), (0, .ref (X 0)), (1, .int a), (2, .int p9), (3, .int money), (4, .ref o)]) hx hb dL_affords_15 hl (by decide) rfl (fun ls hl => ?_)
  refine lv_iconst (v := 1) hx hb dL_affords_17 (by decide) ?_
  have hP9 : va_P (dC, dI) vwCl (tab cI X d r ++ (bk cW X Bk n ch pd pr yr Wd ++ (bk cW X Br n2 ch2 pd2 pr2 yr2 W2 ++ (obj X Bk Br :: (o, .inl (cJ, 1, .inr (.inl f0))) :: R)))) _ := hP
  have hD9 : va_D A (tab cI X d r ++ (bk cW X Bk n ch pd pr yr Wd ++ (bk cW X Br n2 ch2 pd2 pr2 yr2 W2 ++ (obj X Bk Br :: (o, .inl (cJ, 1, .inr (.inl f0))) :: R)))) := hD
  have hz : (1 : Int32) = 1 := rfl
  exact W.iret (v := 1) hx hb hr (fun t ht hW => ⟨⟨_, (), rfl, hz, by rw [ht]; exact hP9, by rw [hAe]; exact hD9⟩, by rw [hAe]; exact hS.F ht⟩) hS.2.2 dL_affords_18
