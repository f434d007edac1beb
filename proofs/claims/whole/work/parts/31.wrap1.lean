set_option maxHeartbeats 4000000 in
set_option maxRecDepth 100000 in
theorem met_L_setDeaths (l : Launch) (dC : Nat → ClassId) (dI : Nat → Nat → Nat) (cI cW : ClassId) (cJ : ClassId) (o : Nat) (f0 : Nat → Int64) (X Bk Br : Nat → Nat) (d r : Nat → Int32) (n : Nat) (ch pd pr yr : Int32) (Wd : Nat → Nat → Int32) (n2 : Nat) (ch2 pd2 pr2 yr2 : Int32) (W2 : Nat → Nat → Int32) (R : va_W) (ka : Nat) (h1 : 50 ≤ ka) (h2 : ka ≤ 99) (x : Int32) (h4 : 0 ≤ x ∧ x ≤ 1000) (sz : Nat) : Met l yL_setDeaths wsL_setDeaths ({ frames := 3, cells := 0, slots := 0, locals := 65 }) (PreL dC dI cI cW cJ [.ref (X 0), .int (nI ka), .int x, .ref o] (tab cI X d r ++ (bk cW X Bk n ch pd pr yr Wd ++ (bk cW X Br n2 ch2 pd2 pr2 yr2 W2 ++ (obj X Bk Br :: (o, .inl (cJ, 1, .inr (.inl f0))) :: R)))) sz) (Qi1 dC dI (fun z => z = 0) (tab cI X d r ++ (bk cW X Bk n ch pd pr yr Wd ++ (bk cW X Br n2 ch2 pd2 pr2 yr2 W2 ++ (obj X Bk Br :: (o, .inl (cJ, 1, .inr (.inl f0))) :: R)))) (tab cI X (upd d (ka - 50) x) r ++ (bk cW X Bk n ch pd pr yr Wd ++ (bk cW X Br n2 ch2 pd2 pr2 yr2 W2 ++ (obj X Bk Br :: (o, .inl (cJ, 1, .inr (.inl (vp_updL f0 0 (d (ka - 50)).toInt64)))) :: R)))) sz) 0 0 (va_A (tab cI X d r ++ (bk cW X Bk n ch pd pr yr Wd ++ (bk cW X Br n2 ch2 pd2 pr2 yr2 W2 ++ (obj X Bk Br :: (o, .inl (cJ, 1, .inr (.inl f0))) :: R)))) sz) := by
  refine met_ofWH (cc := cL_setDeaths) (maxL := 5) (ret := (some .int)) (hh := [(0, 10, 13, 13), (0, 10, 17, 15)]) (by decide) rfl ?_
  intro p e s m args below meth c s₁ B hml hv
  obtain ⟨rfl, hsz, hP, hD0, hKK, hKJ, hKX⟩ := hv
  subst hsz
  have hx := B.exec
  have hb := B.bytes
  have hr := B.returns
  have hts := atoms_spec (ws := wsL_setDeaths) B.pre
  have hown : s.vm.findClass RL = some m.cls := findClass_of_methodNamed B.named
  have hlocks := B.notSynchronized
  have hD := hD0.self (sz := s.heap.size)
  generalize hAe : va_A (tab cI X d r ++ (bk cW X Bk n ch pd pr yr Wd ++ (bk cW X Br n2 ch2 pd2 pr2 yr2 W2 ++ (obj X Bk Br :: (o, .inl (cJ, 1, .inr (.inl f0))) :: R)))) s.heap.size = A at hD ⊢
  have hA : ∀ q : Nat, s.heap.size ≤ q → A q := fun q h => by rw [← hAe]; exact Or.inr h
  have hS : va_S A s.heap s.heap [] := va_S.rf
  have hl := lv_entry ([.ref (X 0), .int (nI ka), .int x, .ref o]) (n := 5) (Nat.le_of_ble_eq_true rfl)
  rw [lg_entry_eq]
  generalize (lg_sl ([.ref (X 0), .int (nI ka), .int x, .ref o]) ++ List.replicate (5 - (lg_sl ([.ref (X 0), .int (nI ka), .int x, .ref o])).length) Slot.unset).toArray = ls at hl ⊢
  have hl : lv_has ls 5 [(0, .ref (X 0)), (1, .int (nI ka)), (2, .int x), (3, .ref o)] := hl
  refine lv_aload_n hx hb dL_setDeaths_0 rfl (lv_at hl 3 rfl) ?_
  refine lv_iconst (v := 0) hx hb dL_setDeaths_1 (by decide) ?_
  refine lv_aload_n hx hb dL_setDeaths_2 rfl (lv_at hl 0 rfl) ?_
  refine lv_iload_n hx hb dL_setDeaths_3 rfl (lv_at hl 1 rfl) ?_
  refine lv_iload_n hx hb dL_setDeaths_4 rfl (lv_at hl 2 rfl) ?_
  refine wr_i (runV1 (As := [.int (nI ka), .int x]) (rest := [.int 0, .ref o]) ⟨hx, hb, hml, hown, hts⟩ (met_X3_setDeaths l dC dI cI cW X Bk Br d r n ch pd pr yr Wd n2 ch2 pd2 pr2 yr2 W2 ((o, .inl (cJ, 1, .inr (.inl f0))) :: R) ka h1 h2 x h4 _) (cwV 2 hts gL_setDeaths_X3_setDeaths rfl rfl rfl (by decide +kernel) ⟨Nat.le_of_ble_eq_true rfl, Nat.le_of_ble_eq_true rfl⟩) hKK hP hD 3 27 rfl cw_obj rfl hl.1 (Nat.le_of_ble_eq_true rfl) rfl dL_setDeaths_5 ⟨Nat.zero_le _, Nat.zero_le _⟩) hD hS hA (fun r_1 H locs hr_1 hP hD hS => ?_)
  subst hr_1
  have hP : va_P (dC, dI) vwCl (tab cI X (upd d (ka - 50) x) r ++ (bk cW X Bk n ch pd pr yr Wd ++ (bk cW X Br n2 ch2 pd2 pr2 yr2 W2 ++ (obj X Bk Br :: (o, .inl (cJ, 1, .inr (.inl f0))) :: R)))) H := hP
  have hD : va_D A (tab cI X (upd d (ka - 50) x) r ++ (bk cW X Bk n ch pd pr yr Wd ++ (bk cW X Br n2 ch2 pd2 pr2 yr2 W2 ++ (obj X Bk Br :: (o, .inl (cJ, 1, .inr (.inl f0))) :: R)))) := hD
  refine lv_i2l hx hb dL_setDeaths_8 rfl ?_
  refine va_last hx hb hKJ hP hD hS (27 + 1) 0 (cw_at rfl) rfl (vp_in_nI (n := 0) (by omega) (by omega)) dL_setDeaths_9 (fun H locs hP hD hS => ?_)
  rw [cw_aset] at hP hD
  refine lv_goto (tgt := 21) hx hb dL_setDeaths_10 (by decide) ?_
  refine lv_iconst (v := 0) hx hb dL_setDeaths_21 (by decide) ?_
  have hP9 : va_P (dC, dI) vwCl (tab cI X (upd d (ka - 50) x) r ++ (bk cW X Bk n ch pd pr yr Wd ++ (bk cW X Br n2 ch2 pd2 pr2 yr2 W2 ++ (obj X Bk Br :: (o, .inl (cJ, 1, .inr (.inl (vp_updL f0 0 (d (ka - 50)).toInt64)))) :: R)))) _ := hP
  have hD9 : va_D A (tab cI X (upd d (ka - 50) x) r ++ (bk cW X Bk n ch pd pr yr Wd ++ (bk cW X Br n2 ch2 pd2 pr2 yr2 W2 ++ (obj X Bk Br :: (o, .inl (cJ, 1, .inr (.inl (vp_updL f0 0 (d (ka - 50)).toInt64)))) :: R)))) := hD
  have hz : (0 : Int32) = 0 := rfl
  exact W.iret (v := 0) hx hb hr (fun t ht hW => ⟨⟨_, (), rfl, hz, by rw [ht]; exact hP9, by rw [hAe]; exact hD9⟩, by rw [hAe]; exact hS.F ht⟩) hS.2.2 dL_setDeaths_22
set_option maxHeartbeats 4000000 in
set_option maxRecDepth 100000 in
theorem bad1_L_setDeaths (l : Launch) (dC : Nat → ClassId) (dI : Nat → Nat → Nat) (cI cW : ClassId) (hl0 : l.stackTraces = false) (cJ : ClassId) (o : Nat) (f0 : Nat → Int64) (X Bk Br : Nat → Nat) (d r : Nat → Int32) (n : Nat) (ch pd pr yr : Int32) (Wd : Nat → Nat → Int32) (n2 : Nat) (ch2 pd2 pr2 yr2 : Int32) (W2 : Nat → Nat → Int32) (R : va_W) (a x : Int32) (h9 : ¬ (50 ≤ a ∧ a ≤ 99)) (sz : Nat) : Met l yL_setDeaths wsL_setDeaths ({ frames := 7, cells := 1, slots := 6, locals := 113 }) (PreL dC dI cI cW cJ [.ref (X 0), .int a, .int x, .ref o] (tab cI X d r ++ (bk cW X Bk n ch pd pr yr Wd ++ (bk cW X Br n2 ch2 pd2 pr2 yr2 W2 ++ (obj X Bk Br :: (o, .inl (cJ, 1, .inr (.inl f0))) :: R)))) sz) (Qi1 dC dI (fun z => z = 1) (tab cI X d r ++ (bk cW X Bk n ch pd pr yr Wd ++ (bk cW X Br n2 ch2 pd2 pr2 yr2 W2 ++ (obj X Bk Br :: (o, .inl (cJ, 1, .inr (.inl f0))) :: R)))) (tab cI X d r ++ (bk cW X Bk n ch pd pr yr Wd ++ (bk cW X Br n2 ch2 pd2 pr2 yr2 W2 ++ (obj X Bk Br :: (o, .inl (cJ, 1, .inr (.inl f0))) :: R)))) sz) 1 6 (va_A (tab cI X d r ++ (bk cW X Bk n ch pd pr yr Wd ++ (bk cW X Br n2 ch2 pd2 pr2 yr2 W2 ++ (obj X Bk Br :: (o, .inl (cJ, 1, .inr (.inl f0))) :: R)))) sz) := by
  refine met_ofWH (cc := cL_setDeaths) (maxL := 5) (ret := (some .int)) (hh := [(0, 10, 13, 13), (0, 10, 17, 15)]) (by decide) rfl ?_
  intro p e s m args below meth c s₁ B hml hv
  obtain ⟨rfl, hsz, hP, hD0, hKK, hKJ, hKX⟩ := hv
  subst hsz
  have hx := B.exec
  have hb := B.bytes
  have hr := B.returns
  have hts := atoms_spec (ws := wsL_setDeaths) B.pre
  have hown : s.vm.findClass RL = some m.cls := findClass_of_methodNamed B.named
  have hlocks := B.notSynchronized
  have hD := hD0.self (sz := s.heap.size)
  generalize hAe : va_A (tab cI X d r ++ (bk cW X Bk n ch pd pr yr Wd ++ (bk cW X Br n2 ch2 pd2 pr2 yr2 W2 ++ (obj X Bk Br :: (o, .inl (cJ, 1, .inr (.inl f0))) :: R)))) s.heap.size = A at hD ⊢
  have hA : ∀ q : Nat, s.heap.size ≤ q → A q := fun q h => by rw [← hAe]; exact Or.inr h
  have hS : va_S A s.heap s.heap [] := va_S.rf
  have hl := lv_entry ([.ref (X 0), .int a, .int x, .ref o]) (n := 5) (Nat.le_of_ble_eq_true rfl)
  rw [lg_entry_eq]
  generalize (lg_sl ([.ref (X 0), .int a, .int x, .ref o]) ++ List.replicate (5 - (lg_sl ([.ref (X 0), .int a, .int x, .ref o])).length) Slot.unset).toArray = ls at hl ⊢
  have hl : lv_has ls 5 [(0, .ref (X 0)), (1, .int a), (2, .int x), (3, .ref o)] := hl
  refine lv_aload_n hx hb dL_setDeaths_0 rfl (lv_at hl 3 rfl) ?_
  refine lv_iconst (v := 0) hx hb dL_setDeaths_1 (by decide) ?_
  refine lv_aload_n hx hb dL_setDeaths_2 rfl (lv_at hl 0 rfl) ?_
  refine lv_iload_n hx hb dL_setDeaths_3 rfl (lv_at hl 1 rfl) ?_
  refine lv_iload_n hx hb dL_setDeaths_4 rfl (lv_at hl 2 rfl) ?_
  have htab : c.exceptionTable.toList = [⟨0, 10, 13, 13⟩, ⟨0, 10, 17, 15⟩] := vx_table (x := yL_setDeaths) B (hts (.codeWith yL_setDeaths cL_setDeaths 5 (some .int) [(0, 10, 13, 13), (0, 10, 17, 15)]) (by unfold wsL_setDeaths; exact List.mem_cons_self))
  refine vx_calli (vx_runV (As := [.int a, .int x]) (rest := [.int 0, .ref o]) ⟨hx, hb, hml, hown, hts⟩ (bad1_X3_setDeaths l hl0 dC dI cI cW X Bk Br d r n ch pd pr yr Wd n2 ch2 pd2 pr2 yr2 W2 ((o, .inl (cJ, 1, .inr (.inl f0))) :: R) a x h9 _) (cwV 2 hts gL_setDeaths_X3_setDeaths rfl rfl rfl (by decide +kernel) ⟨Nat.le_of_ble_eq_true rfl, Nat.le_of_ble_eq_true rfl⟩) ⟨PreX_blind, va_recv (q := (RX3, TX3, 3)) hKK.1 hP rfl cw_obj, fun U hU hW => ⟨rfl, by rw [hU], by rw [hU]; exact hP, hKK.warm hW, by rw [hU]; exact hKX.warm hW⟩⟩ rfl rfl hl.1 rfl (lv_room (Nat.le_of_ble_eq_true rfl)) dL_setDeaths_5 ⟨Nat.le_of_ble_eq_true rfl, Nat.le_of_ble_eq_true rfl⟩) hS (fun q _ h => hA q h) (fun q h => hA q h) (fun q _ h => hA q h) (fun E ce q9 u t H1 locs1 ht1 hvm hpx hBX hz hk9 hS1 hce hcv hcl => ?_) (fun r u t H1 locs1 _ _ hw => hw.elim)
  subst hBX
  have hP1 : va_P (dC, dI) vwCl (tab cI X d r ++ (bk cW X Bk n ch pd pr yr Wd ++ (bk cW X Br n2 ch2 pd2 pr2 yr2 W2 ++ (obj X Bk Br :: (o, .inl (cJ, 1, .inr (.inl f0))) :: R)))) H1 := hP.kept (fun k q hk => hk9 q.1 ((hP k q hk).lt) (Nat.not_le.mpr ((hP k q hk).lt)))
  refine vx_catch (own := RL) (name := xIO) hown [] ⟨0, 10, 13, 13⟩ [⟨0, 10, 17, 15⟩] htab (fun z hz => nomatch hz) rfl (by decide) (hts (.classLink RL 13 xIO) (by decide +kernel)) (va_Nw.use rfl hKX.1.1.1) hce hcv hcl ?_
  refine W.eq (g2 := F0 m 13 ls [.ref q9]) rfl ?_
  have hP := hP1
  have hS := hS1
  refine lv_astore (lv' := [(4, .ref q9), (0, .ref (X 0)), (1, .int a), (2, .int x), (3, .ref o)]) hx hb dL_setDeaths_13 hl (by decide) rfl (fun ls hl => ?_)
  refine lv_iconst (v := 1) hx hb dL_setDeaths_15 (by decide) ?_
  have hP9 : va_P (dC, dI) vwCl (tab cI X d r ++ (bk cW X Bk n ch pd pr yr Wd ++ (bk cW X Br n2 ch2 pd2 pr2 yr2 W2 ++ (obj X Bk Br :: (o, .inl (cJ, 1, .inr (.inl f0))) :: R)))) _ := hP
  have hD9 : va_D A (tab cI X d r ++ (bk cW X Bk n ch pd pr yr Wd ++ (bk cW X Br n2 ch2 pd2 pr2 yr2 W2 ++ (obj X Bk Br :: (o, .inl (cJ, 1, .inr (.inl f0))) :: R)))) := hD
  have hz : (1 : Int32) = 1 := rfl
  exact W.iret (v := 1) hx hb hr (fun t ht hW => ⟨⟨_, (), rfl, hz, by rw [ht]; exact hP9, by rw [hAe]; exact hD9⟩, by rw [hAe]; exact hS.F ht⟩) hS.2.2 dL_setDeaths_16
set_option maxHeartbeats 4000000 in
set_option maxRecDepth 100000 in
theorem bad2_L_setDeaths (l : Launch) (dC : Nat → ClassId) (dI : Nat → Nat → Nat) (cI cW : ClassId) (hl0 : l.stackTraces = false) (cJ : ClassId) (o : Nat) (f0 : Nat → Int64) (X Bk Br : Nat → Nat) (d r : Nat → Int32) (n : Nat) (ch pd pr yr : Int32) (Wd : Nat → Nat → Int32) (n2 : Nat) (ch2 pd2 pr2 yr2 : Int32) (W2 : Nat → Nat → Int32) (R : va_W) (a x : Int32) (h8 : 50 ≤ a ∧ a ≤ 99) (h9 : ¬ (0 ≤ x ∧ x ≤ 1000)) (sz : Nat) : Met l yL_setDeaths wsL_setDeaths ({ frames := 7, cells := 1, slots := 6, locals := 113 }) (PreL dC dI cI cW cJ [.ref (X 0), .int a, .int x, .ref o] (tab cI X d r ++ (bk cW X Bk n ch pd pr yr Wd ++ (bk cW X Br n2 ch2 pd2 pr2 yr2 W2 ++ (obj X Bk Br :: (o, .inl (cJ, 1, .inr (.inl f0))) :: R)))) sz) (Qi1 dC dI (fun z => z = 2) (tab cI X d r ++ (bk cW X Bk n ch pd pr yr Wd ++ (bk cW X Br n2 ch2 pd2 pr2 yr2 W2 ++ (obj X Bk Br :: (o, .inl (cJ, 1, .inr (.inl f0))) :: R)))) (tab cI X d r ++ (bk cW X Bk n ch pd pr yr Wd ++ (bk cW X Br n2 ch2 pd2 pr2 yr2 W2 ++ (obj X Bk Br :: (o, .inl (cJ, 1, .inr (.inl f0))) :: R)))) sz) 1 6 (va_A (tab cI X d r ++ (bk cW X Bk n ch pd pr yr Wd ++ (bk cW X Br n2 ch2 pd2 pr2 yr2 W2 ++ (obj X Bk Br :: (o, .inl (cJ, 1, .inr (.inl f0))) :: R)))) sz) := by
  refine met_ofWH (cc := cL_setDeaths) (maxL := 5) (ret := (some .int)) (hh := [(0, 10, 13, 13), (0, 10, 17, 15)]) (by decide) rfl ?_
  intro p e s m args below meth c s₁ B hml hv
  obtain ⟨rfl, hsz, hP, hD0, hKK, hKJ, hKX⟩ := hv
  subst hsz
  have hx := B.exec
  have hb := B.bytes
  have hr := B.returns
  have hts := atoms_spec (ws := wsL_setDeaths) B.pre
  have hown : s.vm.findClass RL = some m.cls := findClass_of_methodNamed B.named
  have hlocks := B.notSynchronized
  have hD := hD0.self (sz := s.heap.size)
  generalize hAe : va_A (tab cI X d r ++ (bk cW X Bk n ch pd pr yr Wd ++ (bk cW X Br n2 ch2 pd2 pr2 yr2 W2 ++ (obj X Bk Br :: (o, .inl (cJ, 1, .inr (.inl f0))) :: R)))) s.heap.size = A at hD ⊢
  have hA : ∀ q : Nat, s.heap.size ≤ q → A q := fun q h => by rw [← hAe]; exact Or.inr h
  have hS : va_S A s.heap s.heap [] := va_S.rf
  have hl := lv_entry ([.ref (X 0), .int a, .int x, .ref o]) (n := 5) (Nat.le_of_ble_eq_true rfl)
  rw [lg_entry_eq]
  generalize (lg_sl ([.ref (X 0), .int a, .int x, .ref o]) ++ List.replicate (5 - (lg_sl ([.ref (X 0), .int a, .int x, .ref o])).length) Slot.unset).toArray = ls at hl ⊢
  have hl : lv_has ls 5 [(0, .ref (X 0)), (1, .int a), (2, .int x), (3, .ref o)] := hl
  refine lv_aload_n hx hb dL_setDeaths_0 rfl (lv_at hl 3 rfl) ?_
  refine lv_iconst (v := 0) hx hb dL_setDeaths_1 (by decide) ?_
  refine lv_aload_n hx hb dL_setDeaths_2 rfl (lv_at hl 0 rfl) ?_
  refine lv_iload_n hx hb dL_setDeaths_3 rfl (lv_at hl 1 rfl) ?_
  refine lv_iload_n hx hb dL_setDeaths_4 rfl (lv_at hl 2 rfl) ?_
  have htab : c.exceptionTable.toList = [⟨0, 10, 13, 13⟩, ⟨0, 10, 17, 15⟩] := vx_table (x := yL_setDeaths) B (hts (.codeWith yL_setDeaths cL_setDeaths 5 (some .int) [(0, 10, 13, 13), (0, 10, 17, 15)]) (by unfold wsL_setDeaths; exact List.mem_cons_self))
  refine vx_calli (vx_runV (As := [.int a, .int x]) (rest := [.int 0, .ref o]) ⟨hx, hb, hml, hown, hts⟩ (bad2_X3_setDeaths l hl0 dC dI cI cW X Bk Br d r n ch pd pr yr Wd n2 ch2 pd2 pr2 yr2 W2 ((o, .inl (cJ, 1, .inr (.inl f0))) :: R) a x h8 h9 _) (cwV 2 hts gL_setDeaths_X3_setDeaths rfl rfl rfl (by decide +kernel) ⟨Nat.le_of_ble_eq_true rfl, Nat.le_of_ble_eq_true rfl⟩) ⟨PreX_blind, va_recv (q := (RX3, TX3, 3)) hKK.1 hP rfl cw_obj, fun U hU hW => ⟨rfl, by rw [hU], by rw [hU]; exact hP, hKK.warm hW, by rw [hU]; exact hKX.warm hW⟩⟩ rfl rfl hl.1 rfl (lv_room (Nat.le_of_ble_eq_true rfl)) dL_setDeaths_5 ⟨Nat.le_of_ble_eq_true rfl, Nat.le_of_ble_eq_true rfl⟩) hS (fun q _ h => hA q h) (fun q h => hA q h) (fun q _ h => hA q h) (fun E ce q9 u t H1 locs1 ht1 hvm hpx hBX hz hk9 hS1 hce hcv hcl => ?_) (fun r u t H1 locs1 _ _ hw => hw.elim)
  subst hBX
  have hP1 : va_P (dC, dI) vwCl (tab cI X d r ++ (bk cW X Bk n ch pd pr yr Wd ++ (bk cW X Br n2 ch2 pd2 pr2 yr2 W2 ++ (obj X Bk Br :: (o, .inl (cJ, 1, .inr (.inl f0))) :: R)))) H1 := hP.kept (fun k q hk => hk9 q.1 ((hP k q hk).lt) (Nat.not_le.mpr ((hP k q hk).lt)))
  refine vx_catch (own := RL) (name := xIA) hown [⟨0, 10, 13, 13⟩] ⟨0, 10, 17, 15⟩ [] htab (fun z hz => by cases List.mem_singleton.mp hz; exact Or.inr ⟨by decide, xIO, hts (.classLink RL 13 xIO) (by decide +kernel), hKX.2.1.1⟩) rfl (by decide) (hts (.classLink RL 15 xIA) (by decide +kernel)) (va_Nw.use rfl hKX.1.1.2.1) hce hcv hcl ?_
  refine W.eq (g2 := F0 m 17 ls [.ref q9]) rfl ?_
  have hP := hP1
  have hS := hS1
  refine lv_astore (lv' := [(4, .ref q9), (0, .ref (X 0)), (1, .int a), (2, .int x), (3, .ref o)]) hx hb dL_setDeaths_17 hl (by decide) rfl (fun ls hl => ?_)
  refine lv_iconst (v := 2) hx hb dL_setDeaths_19 (by decide) ?_
  have hP9 : va_P (dC, dI) vwCl (tab cI X d r ++ (bk cW X Bk n ch pd pr yr Wd ++ (bk cW X Br n2 ch2 pd2 pr2 yr2 W2 ++ (obj X Bk Br :: (o, .inl (cJ, 1, .inr (.inl f0))) :: R)))) _ := hP
  have hD9 : va_D A (tab cI X d r ++ (bk cW X Bk n ch pd pr yr Wd ++ (bk cW X Br n2 ch2 pd2 pr2 yr2 W2 ++ (obj X Bk Br :: (o, .inl (cJ, 1, .inr (.inl f0))) :: R)))) := hD
  have hz : (2 : Int32) = 2 := rfl
  exact W.iret (v := 2) hx hb hr (fun t ht hW => ⟨⟨_, (), rfl, hz, by rw [ht]; exact hP9, by rw [hAe]; exact hD9⟩, by rw [hAe]; exact hS.F ht⟩) hS.2.2 dL_setDeaths_20
set_option maxHeartbeats 4000000 in
set_option maxRecDepth 100000 in
theorem met_L_setRate (l : Launch) (dC : Nat → ClassId) (dI : Nat → Nat → Nat) (cI cW : ClassId) (cJ : ClassId) (o : Nat) (f0 : Nat → Int64) (X Bk Br : Nat → Nat) (d r : Nat → Int32) (n : Nat) (ch pd pr yr : Int32) (Wd : Nat → Nat → Int32) (n2 : Nat) (ch2 pd2 pr2 yr2 : Int32) (W2 : Nat → Nat → Int32) (R : va_W) (k : Nat) (hk : k < 3) (x : Int32) (h4 : 0 ≤ x ∧ x ≤ (if k = 0 then (200 : Int32) else 50)) (sz : Nat) : Met l yL_setRate wsL_setRate ({ frames := 2, cells := 0, slots := 0, locals := 45 }) (PreL dC dI cI cW cJ [.ref (X 0), .int (nI k), .int x, .ref o] (tab cI X d r ++ (bk cW X Bk n ch pd pr yr Wd ++ (bk cW X Br n2 ch2 pd2 pr2 yr2 W2 ++ (obj X Bk Br :: (o, .inl (cJ, 1, .inr (.inl f0))) :: R)))) sz) (Qi1 dC dI (fun z => z = 0) (tab cI X d r ++ (bk cW X Bk n ch pd pr yr Wd ++ (bk cW X Br n2 ch2 pd2 pr2 yr2 W2 ++ (obj X Bk Br :: (o, .inl (cJ, 1, .inr (.inl f0))) :: R)))) (tab cI X d (upd r k x) ++ (bk cW X Bk n ch pd pr yr Wd ++ (bk cW X Br n2 ch2 pd2 pr2 yr2 W2 ++ (obj X Bk Br :: (o, .inl (cJ, 1, .inr (.inl (vp_updL f0 0 (r k).toInt64)))) :: R)))) sz) 0 0 (va_A (tab cI X d r ++ (bk cW X Bk n ch pd pr yr Wd ++ (bk cW X Br n2 ch2 pd2 pr2 yr2 W2 ++ (obj X Bk Br :: (o, .inl (cJ, 1, .inr (.inl f0))) :: R)))) sz) := by
  refine met_ofWH (cc := cL_setRate) (maxL := 5) (ret := (some .int)) (hh := [(0, 10, 13, 13), (0, 10, 17, 15)]) (by decide) rfl ?_
  intro p e s m args below meth c s₁ B hml hv
  obtain ⟨rfl, hsz, hP, hD0, hKK, hKJ, hKX⟩ := hv
  subst hsz
  have hx := B.exec
  have hb := B.bytes
  have hr := B.returns
  have hts := atoms_spec (ws := wsL_setRate) B.pre
  have hown : s.vm.findClass RL = some m.cls := findClass_of_methodNamed B.named
  have hlocks := B.notSynchronized
  have hD := hD0.self (sz := s.heap.size)
  generalize hAe : va_A (tab cI X d r ++ (bk cW X Bk n ch pd pr yr Wd ++ (bk cW X Br n2 ch2 pd2 pr2 yr2 W2 ++ (obj X Bk Br :: (o, .inl (cJ, 1, .inr (.inl f0))) :: R)))) s.heap.size = A at hD ⊢
  have hA : ∀ q : Nat, s.heap.size ≤ q → A q := fun q h => by rw [← hAe]; exact Or.inr h
  have hS : va_S A s.heap s.heap [] := va_S.rf
  have hl := lv_entry ([.ref (X 0), .int (nI k), .int x, .ref o]) (n := 5) (Nat.le_of_ble_eq_true rfl)
  rw [lg_entry_eq]
  generalize (lg_sl ([.ref (X 0), .int (nI k), .int x, .ref o]) ++ List.replicate (5 - (lg_sl ([.ref (X 0), .int (nI k), .int x, .ref o])).length) Slot.unset).toArray = ls at hl ⊢
  have hl : lv_has ls 5 [(0, .ref (X 0)), (1, .int (nI k)), (2, .int x), (3, .ref o)] := hl
  refine lv_aload_n hx hb dL_setRate_0 rfl (lv_at hl 3 rfl) ?_
  refine lv_iconst (v := 0) hx hb dL_setRate_1 (by decide) ?_
  refine lv_aload_n hx hb dL_setRate_2 rfl (lv_at hl 0 rfl) ?_
  refine lv_iload_n hx hb dL_setRate_3 rfl (lv_at hl 1 rfl) ?_
  refine lv_iload_n hx hb dL_setRate_4 rfl (lv_at hl 2 rfl) ?_
  refine wr_i (runV1 (As := [.int (nI k), .int x]) (rest := [.int 0, .ref o]) ⟨hx, hb, hml, hown, hts⟩ (met_X3_setRate l dC dI cI cW X Bk Br d r n ch pd pr yr Wd n2 ch2 pd2 pr2 yr2 W2 ((o, .inl (cJ, 1, .inr (.inl f0))) :: R) k hk x h4 _) (cwV 2 hts gL_setRate_X3_setRate rfl rfl rfl (by decide +kernel) ⟨Nat.le_of_ble_eq_true rfl, Nat.le_of_ble_eq_true rfl⟩) hKK hP hD 3 27 rfl cw_obj rfl hl.1 (Nat.le_of_ble_eq_true rfl) rfl dL_setRate_5 ⟨Nat.zero_le _, Nat.zero_le _⟩) hD hS hA (fun r_1 H locs hr_1 hP hD hS => ?_)
  subst hr_1
  have hP : va_P (dC, dI) vwCl (tab cI X d (upd r k x) ++ (bk cW X Bk n ch pd pr yr Wd ++ (bk cW X Br n2 ch2 pd2 pr2 yr2 W2 ++ (obj X Bk Br :: (o, .inl (cJ, 1, .inr (.inl f0))) :: R)))) H := hP
  have hD : va_D A (tab cI X d (upd r k x) ++ (bk cW X Bk n ch pd pr yr Wd ++ (bk cW X Br n2 ch2 pd2 pr2 yr2 W2 ++ (obj X Bk Br :: (o, .inl (cJ, 1, .inr (.inl f0))) :: R)))) := hD
  refine lv_i2l hx hb dL_setRate_8 rfl ?_
  refine va_last hx hb hKJ hP hD hS (27 + 1) 0 (cw_at rfl) rfl (vp_in_nI (n := 0) (by omega) (by omega)) dL_setRate_9 (fun H locs hP hD hS => ?_)
  rw [cw_aset] at hP hD
  refine lv_goto (tgt := 21) hx hb dL_setRate_10 (by decide) ?_
  refine lv_iconst (v := 0) hx hb dL_setRate_21 (by decide) ?_
  have hP9 : va_P (dC, dI) vwCl (tab cI X d (upd r k x) ++ (bk cW X Bk n ch pd pr yr Wd ++ (bk cW X Br n2 ch2 pd2 pr2 yr2 W2 ++ (obj X Bk Br :: (o, .inl (cJ, 1, .inr (.inl (vp_updL f0 0 (r k).toInt64)))) :: R)))) _ := hP
  have hD9 : va_D A (tab cI X d (upd r k x) ++ (bk cW X Bk n ch pd pr yr Wd ++ (bk cW X Br n2 ch2 pd2 pr2 yr2 W2 ++ (obj X Bk Br :: (o, .inl (cJ, 1, .inr (.inl (vp_updL f0 0 (r k).toInt64)))) :: R)))) := hD
  have hz : (0 : Int32) = 0 := rfl
  exact W.iret (v := 0) hx hb hr (fun t ht hW => ⟨⟨_, (), rfl, hz, by rw [ht]; exact hP9, by rw [hAe]; exact hD9⟩, by rw [hAe]; exact hS.F ht⟩) hS.2.2 dL_setRate_22
set_option maxHeartbeats 4000000 in
set_option maxRecDepth 100000 in
theorem bad1_L_setRate (l : Launch) (dC : Nat → ClassId) (dI : Nat → Nat → Nat) (cI cW : ClassId) (hl0 : l.stackTraces = false) (cJ : ClassId) (o : Nat) (f0 : Nat → Int64) (X Bk Br : Nat → Nat) (d r : Nat → Int32) (n : Nat) (ch pd pr yr : Int32) (Wd : Nat → Nat → Int32) (n2 : Nat) (ch2 pd2 pr2 yr2 : Int32) (W2 : Nat → Nat → Int32) (R : va_W) (a x : Int32) (h9 : ¬ (0 ≤ a ∧ a ≤ 2)) (sz : Nat) : Met l yL_setRate wsL_setRate ({ frames := 7, cells := 1, slots := 6, locals := 113 }) (PreL dC dI cI cW cJ [.ref (X 0), .int a, .int x, .ref o] (tab cI X d r ++ (bk cW X Bk n ch pd pr yr Wd ++ (bk cW X Br n2 ch2 pd2 pr2 yr2 W2 ++ (obj X Bk Br :: (o, .inl (cJ, 1, .inr (.inl f0))) :: R)))) sz) (Qi1 dC dI (fun z => z = 1) (tab cI X d r ++ (bk cW X Bk n ch pd pr yr Wd ++ (bk cW X Br n2 ch2 pd2 pr2 yr2 W2 ++ (obj X Bk Br :: (o, .inl (cJ, 1, .inr (.inl f0))) :: R)))) (tab cI X d r ++ (bk cW X Bk n ch pd pr yr Wd ++ (bk cW X Br n2 ch2 pd2 pr2 yr2 W2 ++ (obj X Bk Br :: (o, .inl (cJ, 1, .inr (.inl f0))) :: R)))) sz) 1 6 (va_A (tab cI X d r ++ (bk cW X Bk n ch pd pr yr Wd ++ (bk cW X Br n2 ch2 pd2 pr2 yr2 W2 ++ (obj X Bk Br :: (o, .inl (cJ, 1, .inr (.inl f0))) :: R)))) sz) := by
  refine met_ofWH (cc := cL_setRate) (maxL := 5) (ret := (some .int)) (hh := [(0, 10, 13, 13), (0, 10, 17, 15)]) (by decide) rfl ?_
  intro p e s m args below meth c s₁ B hml hv
  obtain ⟨rfl, hsz, hP, hD0, hKK, hKJ, hKX⟩ := hv
  subst hsz
  have hx := B.exec
  have hb := B.bytes
  have hr := B.returns
  have hts := atoms_spec (ws := wsL_setRate) B.pre
  have hown : s.vm.findClass RL = some m.cls := findClass_of_methodNamed B.named
  have hlocks := B.notSynchronized
  have hD := hD0.self (sz := s.heap.size)
  generalize hAe : va_A (tab cI X d r ++ (bk cW X Bk n ch pd pr yr Wd ++ (bk cW X Br n2 ch2 pd2 pr2 yr2 W2 ++ (obj X Bk Br :: (o, .inl (cJ, 1, .inr (.inl f0))) :: R)))) s.heap.size = A at hD ⊢
  have hA : ∀ q : Nat, s.heap.size ≤ q → A q := fun q h => by rw [← hAe]; exact Or.inr h
  have hS : va_S A s.heap s.heap [] := va_S.rf
  have hl := lv_entry ([.ref (X 0), .int a, .int x, .ref o]) (n := 5) (Nat.le_of_ble_eq_true rfl)
  rw [lg_entry_eq]
  generalize (lg_sl ([.ref (X 0), .int a, .int x, .ref o]) ++ List.replicate (5 - (lg_sl ([.ref (X 0), .int a, .int x, .ref o])).length) Slot.unset).toArray = ls at hl ⊢
  have hl : lv_has ls 5 [(0, .ref (X 0)), (1, .int a), (2, .int x), (3, .ref o)] := hl
  refine lv_aload_n hx hb dL_setRate_0 rfl (lv_at hl 3 rfl) ?_
  refine lv_iconst (v := 0) hx hb dL_setRate_1 (by decide) ?_
  refine lv_aload_n hx hb dL_setRate_2 rfl (lv_at hl 0 rfl) ?_
  refine lv_iload_n hx hb dL_setRate_3 rfl (lv_at hl 1 rfl) ?_
  refine lv_iload_n hx hb dL_setRate_4 rfl (lv_at hl 2 rfl) ?_
  have htab : c.exceptionTable.toList = [⟨0, 10, 13, 13⟩, ⟨0, 10, 17, 15⟩] := vx_table (x := yL_setRate) B (hts (.codeWith yL_setRate cL_setRate 5 (some .int) [(0, 10, 13, 13), (0, 10, 17, 15)]) (by unfold wsL_setRate; exact List.mem_cons_self))
  refine vx_calli (vx_runV (As := [.int a, .int x]) (rest := [.int 0, .ref o]) ⟨hx, hb, hml, hown, hts⟩ (bad1_X3_setRate l hl0 dC dI cI cW X Bk Br d r n ch pd pr yr Wd n2 ch2 pd2 pr2 yr2 W2 ((o, .inl (cJ, 1, .inr (.inl f0))) :: R) a x h9 _) (cwV 2 hts gL_setRate_X3_setRate rfl rfl rfl (by decide +kernel) ⟨Nat.le_of_ble_eq_true rfl, Nat.le_of_ble_eq_true rfl⟩) ⟨PreX_blind, va_recv (q := (RX3, TX3, 3)) hKK.1 hP rfl cw_obj, fun U hU hW => ⟨rfl, by rw [hU], by rw [hU]; exact hP, hKK.warm hW, by rw [hU]; exact hKX.warm hW⟩⟩ rfl rfl hl.1 rfl (lv_room (Nat.le_of_ble_eq_true rfl)) dL_setRate_5 ⟨Nat.le_of_ble_eq_true rfl, Nat.le_of_ble_eq_true rfl⟩) hS (fun q _ h => hA q h) (fun q h => hA q h) (fun q _ h => hA q h) (fun E ce q9 u t H1 locs1 ht1 hvm hpx hBX hz hk9 hS1 hce hcv hcl => ?_) (fun r u t H1 locs1 _ _ hw => hw.elim)
  subst hBX
  have hP1 : va_P (dC, dI) vwCl (tab cI X d r ++ (bk cW X Bk n ch pd pr yr Wd ++ (bk cW X Br n2 ch2 pd2 pr2 yr2 W2 ++ (obj X Bk Br :: (o, .inl (cJ, 1, .inr (.inl f0))) :: R)))) H1 := hP.kept (fun k q hk => hk9 q.1 ((hP k q hk).lt) (Nat.not_le.mpr ((hP k q hk).lt)))
  refine vx_catch (own := RL) (name := xIO) hown [] ⟨0, 10, 13, 13⟩ [⟨0, 10, 17, 15⟩] htab (fun z hz => nomatch hz) rfl (by decide) (hts (.classLink RL 13 xIO) (by decide +kernel)) (va_Nw.use rfl hKX.1.1.1) hce hcv hcl ?_
  refine W.eq (g2 := F0 m 13 ls [.ref q9]) rfl ?_
  have hP := hP1
  have hS := hS1
  refine lv_astore (lv' := [(4, .ref q9), (0, .ref (X 0)), (1, .int a), (2, .int x), (3, .ref o)]) hx hb dL_setRate_13 hl (by decide) rfl (fun ls hl => ?_)
  refine lv_iconst (v := 1) hx hb dL_setRate_15 (by decide) ?_
  have hP9 : va_P (dC, dI) vwCl (tab cI X d r ++ (bk cW X Bk n ch pd pr yr Wd ++ (bk cW X Br n2 ch2 pd2 pr2 yr2 W2 ++ (obj X Bk Br :: (o, .inl (cJ, 1, .inr (.inl f0))) :: R)))) _ := hP
  have hD9 : va_D A (tab cI X d r ++ (bk cW X Bk n ch pd pr yr Wd ++ (bk cW X Br n2 ch2 pd2 pr2 yr2 W2 ++ (obj X Bk Br :: (o, .inl (cJ, 1, .inr (.inl f0))) :: R)))) := hD
  have hz : (1 : Int32) = 1 := rfl
  exact W.iret (v := 1) hx hb hr (fun t ht hW => ⟨⟨_, (), rfl, hz, by rw [ht]; exact hP9, by rw [hAe]; exact hD9⟩, by rw [hAe]; exact hS.F ht⟩) hS.2.2 dL_setRate_16
set_option maxHeartbeats 4000000 in
set_option maxRecDepth 100000 in
theorem bad2_L_setRate (l : Launch) (dC : Nat → ClassId) (dI : Nat → Nat → Nat) (cI cW : ClassId) (hl0 : l.stackTraces = false) (cJ : ClassId) (o : Nat) (f0 : Nat → Int64) (X Bk Br : Nat → Nat) (d r : Nat → Int32) (n : Nat) (ch pd pr yr : Int32) (Wd : Nat → Nat → Int32) (n2 : Nat) (ch2 pd2 pr2 yr2 : Int32) (W2 : Nat → Nat → Int32) (R : va_W) (k : Nat) (hk : k < 3) (x : Int32) (h9 : ¬ (0 ≤ x ∧ x ≤ (if k = 0 then (200 : Int32) else 50))) (sz : Nat) : Met l yL_setRate wsL_setRate ({ frames := 7, cells := 1, slots := 6, locals := 113 }) (PreL dC dI cI cW cJ [.ref (X 0), .int (nI k), .int x, .ref o] (tab cI X d r ++ (bk cW X Bk n ch pd pr yr Wd ++ (bk cW X Br n2 ch2 pd2 pr2 yr2 W2 ++ (obj X Bk Br :: (o, .inl (cJ, 1, .inr (.inl f0))) :: R)))) sz) (Qi1 dC dI (fun z => z = 2) (tab cI X d r ++ (bk cW X Bk n ch pd pr yr Wd ++ (bk cW X Br n2 ch2 pd2 pr2 yr2 W2 ++ (obj X Bk Br :: (o, .inl (cJ, 1, .inr (.inl f0))) :: R)))) (tab cI X d r ++ (bk cW X Bk n ch pd pr yr Wd ++ (bk cW X Br n2 ch2 pd2 pr2 yr2 W2 ++ (obj X Bk Br :: (o, .inl (cJ, 1, .inr (.inl f0))) :: R)))) sz) 1 6 (va_A (tab cI X d r ++ (bk cW X Bk n ch pd pr yr Wd ++ (bk cW X Br n2 ch2 pd2 pr2 yr2 W2 ++ (obj X Bk Br :: (o, .inl (cJ, 1, .inr (.inl f0))) :: R)))) sz) := by
  refine met_ofWH (cc := cL_setRate) (maxL := 5) (ret := (some .int)) (hh := [(0, 10, 13, 13), (0, 10, 17, 15)]) (by decide) rfl ?_
  intro p e s m args below meth c s₁ B hml hv
  obtain ⟨rfl, hsz, hP, hD0, hKK, hKJ, hKX⟩ := hv
  subst hsz
  have hx := B.exec
  have hb := B.bytes
  have hr := B.returns
  have hts := atoms_spec (ws := wsL_setRate) B.pre
  have hown : s.vm.findClass RL = some m.cls := findClass_of_methodNamed B.named
  have hlocks := B.notSynchronized
  have hD := hD0.self (sz := s.heap.size)
  generalize hAe : va_A (tab cI X d r ++ (bk cW X Bk n ch pd pr yr Wd ++ (bk cW X Br n2 ch2 pd2 pr2 yr2 W2 ++ (obj X Bk Br :: (o, .inl (cJ, 1, .inr (.inl f0))) :: R)))) s.heap.size = A at hD ⊢
  have hA : ∀ q : Nat, s.heap.size ≤ q → A q := fun q h => by rw [← hAe]; exact Or.inr h
  have hS : va_S A s.heap s.heap [] := va_S.rf
  have hl := lv_entry ([.ref (X 0), .int (nI k), .int x, .ref o]) (n := 5) (Nat.le_of_ble_eq_true rfl)
  rw [lg_entry_eq]
  generalize (lg_sl ([.ref (X 0), .int (nI k), .int x, .ref o]) ++ List.replicate (5 - (lg_sl ([.ref (X 0), .int (nI k), .int x, .ref o])).length) Slot.unset).toArray = ls at hl ⊢
  have hl : lv_has ls 5 [(0, .ref (X 0)), (1, .int (nI k)), (2, .int x), (3, .ref o)] := hl
  refine lv_aload_n hx hb dL_setRate_0 rfl (lv_at hl 3 rfl) ?_
  refine lv_iconst (v := 0) hx hb dL_setRate_1 (by decide) ?_
  refine lv_aload_n hx hb dL_setRate_2 rfl (lv_at hl 0 rfl) ?_
  refine lv_iload_n hx hb dL_setRate_3 rfl (lv_at hl 1 rfl) ?_
  refine lv_iload_n hx hb dL_setRate_4 rfl (lv_at hl 2 rfl) ?_
  have htab : c.exceptionTable.toList = [⟨0, 10, 13, 13⟩, ⟨0, 10, 17, 15⟩] := vx_table (x := yL_setRate) B (hts (.codeWith yL_setRate cL_setRate 5 (some .int) [(0, 10, 13, 13), (0, 10, 17, 15)]) (by unfold wsL_setRate; exact List.mem_cons_self))
  refine vx_calli (vx_runV (As := [.int (nI k), .int x]) (rest := [.int 0, .ref o]) ⟨hx, hb, hml, hown, hts⟩ (bad2_X3_setRate l hl0 dC dI cI cW X Bk Br d r n ch pd pr yr Wd n2 ch2 pd2 pr2 yr2 W2 ((o, .inl (cJ, 1, .inr (.inl f0))) :: R) k hk x h9 _) (cwV 2 hts gL_setRate_X3_setRate rfl rfl rfl (by decide +kernel) ⟨Nat.le_of_ble_eq_true rfl, Nat.le_of_ble_eq_true rfl⟩) ⟨PreX_blind, va_recv (q := (RX3, TX3, 3)) hKK.1 hP rfl cw_obj, fun U hU hW => ⟨rfl, by rw [hU], by rw [hU]; exact hP, hKK.warm hW, by rw [hU]; exact hKX.warm hW⟩⟩ rfl rfl hl.1 rfl (lv_room (Nat.le_of_ble_eq_true rfl)) dL_setRate_5 ⟨Nat.le_of_ble_eq_true rfl, Nat.le_of_ble_eq_true rfl⟩) hS (fun q _ h => hA q h) (fun q h => hA q h) (fun q _ h => hA q h) (fun E ce q9 u t H1 locs1 ht1 hvm hpx hBX hz hk9 hS1 hce hcv hcl => ?_) (fun r u t H1 locs1 _ _ hw => hw.elim)
  subst hBX
  have hP1 : va_P (dC, dI) vwCl (tab cI X d r ++ (bk cW X Bk n ch pd pr yr Wd ++ (bk cW X Br n2 ch2 pd2 pr2 yr2 W2 ++ (obj X Bk Br :: (o, .inl (cJ, 1, .inr (.inl f0))) :: R)))) H1 := hP.kept (fun k q hk => hk9 q.1 ((hP k q hk).lt) (Nat.not_le.mpr ((hP k q hk).lt)))
  refine vx_catch (own := RL) (name := xIA) hown [⟨0, 10, 13, 13⟩] ⟨0, 10, 17, 15⟩ [] htab (fun z hz => by cases List.mem_singleton.mp hz; exact Or.inr ⟨by decide, xIO, hts (.classLink RL 13 xIO) (by decide +kernel), hKX.2.1.1⟩) rfl (by decide) (hts (.classLink RL 15 xIA) (by decide +kernel)) (va_Nw.use rfl hKX.1.1.2.1) hce hcv hcl ?_
  refine W.eq (g2 := F0 m 17 ls [.ref q9]) rfl ?_
  have hP := hP1
  have hS := hS1
  refine lv_astore (lv' := [(4, .ref q9), (0, .ref (X 0)), (1, .int (nI k)), (2, .int x), (3, .ref o)]) hx hb dL_setRate_17 hl (by decide) rfl (fun ls hl => ?_)
  refine lv_iconst (v := 2) hx hb dL_setRate_19 (by decide) ?_
  have hP9 : va_P (dC, dI) vwCl (tab cI X d r ++ (bk cW X Bk n ch pd pr yr Wd ++ (bk cW X Br n2 ch2 pd2 pr2 yr2 W2 ++ (obj X Bk Br :: (o, .inl (cJ, 1, .inr (.inl f0))) :: R)))) _ := hP
  have hD9 : va_D A (tab cI X d r ++ (bk cW X Bk n ch pd pr yr Wd ++ (bk cW X Br n2 ch2 pd2 pr2 yr2 W2 ++ (obj X Bk Br :: (o, .inl (cJ, 1, .inr (.inl f0))) :: R)))) := hD
  have hz : (2 : Int32) = 2 := rfl
  exact W.iret (v := 2) hx hb hr (fun t ht hW => ⟨⟨_, (), rfl, hz, by rw [ht]; exact hP9, by rw [hAe]; exact hD9⟩, by rw [hAe]; exact hS.F ht⟩) hS.2.2 dL_setRate_20
set_option maxHeartbeats 4000000 in
set_option maxRecDepth 100000 in
theorem met_L_buy (l : Launch) (dC : Nat → ClassId) (dI : Nat → Nat → Nat) (cI cW : ClassId) (cJ : ClassId) (o : Nat) (f0 : Nat → Int64) (X Bk Br : Nat → Nat) (d r : Nat → Int32) (n : Nat) (ch pd pr yr : Int32) (Wd : Nat → Nat → Int32) (n2 : Nat) (ch2 pd2 pr2 yr2 : Int32) (W2 : Nat → Nat → Int32) (R : va_W) (hn10 : n < 10) (ka : Nat) (x : Int32) (kb : Nat) (h1 : 50 ≤ ka) (h2 : ka ≤ 99) (hx9 : 1 ≤ x ∧ x ≤ 999) (h3 : kb ≤ 30) (hw : ¬ wN d (r 0) (100 - ka) kb = 0) (hi : ¬ (1000 : Int32) + r 0 = 0) (hi0 : ¬ r 0 < 0) (sz : Nat) : Met l yL_buy wsL_buy ({ frames := 8, cells := 0, slots := 0, locals := 134 }) (PreL dC dI cI cW cJ [.ref (X 0), .int (nI ka), .int x, .int (nI kb), .ref o] (tab cI X d r ++ (bk cW X Bk n ch pd pr yr Wd ++ (bk cW X Br n2 ch2 pd2 pr2 yr2 W2 ++ (obj X Bk Br :: (o, .inl (cJ, 1, .inr (.inl f0))) :: R)))) sz) (Qi1 dC dI (fun z => z = 0) (tab cI X d r ++ (bk cW X Bk n ch pd pr yr Wd ++ (bk cW X Br n2 ch2 pd2 pr2 yr2 W2 ++ (obj X Bk Br :: (o, .inl (cJ, 1, .inr (.inl f0))) :: R)))) (tab cI X d r ++ (bk cW X Bk (n + 1) (takeS ch (priceS (r 1) x (wN d (r 0) (100 - ka) kb))) pd (pr + priceS (r 1) x (wN d (r 0) (100 - ka) kb)) yr (upW Wd n (mkW (nI ka) x (nI kb) (priceS (r 1) x (wN d (r 0) (100 - ka) kb)))) ++ (bk cW X Br n2 ch2 pd2 pr2 yr2 W2 ++ (obj X Bk Br :: (o, .inl (cJ, 1, .inr (.inl (vp_updL f0 0 (nI n).toInt64)))) :: R)))) sz) 0 0 (va_A (tab cI X d r ++ (bk cW X Bk n ch pd pr yr Wd ++ (bk cW X Br n2 ch2 pd2 pr2 yr2 W2 ++ (obj X Bk Br :: (o, .inl (cJ, 1, .inr (.inl f0))) :: R)))) sz) := by
  refine met_ofWH (cc := cL_buy) (maxL := 6) (ret := (some .int)) (hh := [(0, 12, 15, 15), (0, 12, 19, 24)]) (by decide) rfl ?_
  intro p e s m args below meth c s₁ B hml hv
  obtain ⟨rfl, hsz, hP, hD0, hKK, hKJ, hKX⟩ := hv
  subst hsz
  have hx := B.exec
  have hb := B.bytes
  have hr := B.returns
  have hts := atoms_spec (ws := wsL_buy) B.pre
  have hown : s.vm.findClass RL = some m.cls := findClass_of_methodNamed B.named
  have hlocks := B.notSynchronized
  have hD := hD0.self (sz := s.heap.size)
  generalize hAe : va_A (tab cI X d r ++ (bk cW X Bk n ch pd pr yr Wd ++ (bk cW X Br n2 ch2 pd2 pr2 yr2 W2 ++ (obj X Bk Br :: (o, .inl (cJ, 1, .inr (.inl f0))) :: R)))) s.heap.size = A at hD ⊢
  have hA : ∀ q : Nat, s.heap.size ≤ q → A q := fun q h => by rw [← hAe]; exact Or.inr h
  have hS : va_S A s.heap s.heap [] := va_S.rf
  have hl := lv_entry ([.ref (X 0), .int (nI ka), .int x, .int (nI kb), .ref o]) (n := 6) (Nat.le_of_ble_eq_true rfl)
  rw [lg_entry_eq]
  generalize (lg_sl ([.ref (X 0), .int (nI ka), .int x, .int (nI kb), .ref o]) ++ List.replicate (6 - (lg_sl ([.ref (X 0), .int (nI ka), .int x, .int (nI kb), .ref o])).length) Slot.unset).toArray = ls at hl ⊢
  have hl : lv_has ls 6 [(0, .ref (X 0)), (1, .int (nI ka)), (2, .int x), (3, .int (nI kb)), (4, .ref o)] := hl
  refine lv_aload hx hb dL_buy_0 (lv_at hl 4 rfl) ?_
  refine lv_iconst (v := 0) hx hb dL_buy_2 (by decide) ?_
  refine lv_aload_n hx hb dL_buy_3 rfl (lv_at hl 0 rfl) ?_
  refine lv_iload_n hx hb dL_buy_4 rfl (lv_at hl 1 rfl) ?_
  refine lv_iload_n hx hb dL_buy_5 rfl (lv_at hl 2 rfl) ?_
  refine lv_iload_n hx hb dL_buy_6 rfl (lv_at hl 3 rfl) ?_
  refine wr_i (runV1 (As := [.int (nI ka), .int x, .int (nI kb)]) (rest := [.int 0, .ref o]) ⟨hx, hb, hml, hown, hts⟩ (met_X3_buy l dC dI cI cW X Bk Br d r n ch pd pr yr Wd n2 ch2 pd2 pr2 yr2 W2 ((o, .inl (cJ, 1, .inr (.inl f0))) :: R) hn10 ka x kb h1 h2 hx9 h3 hw hi hi0 _) (cwV 3 hts gL_buy_X3_buy rfl rfl rfl (by decide +kernel) ⟨Nat.le_of_ble_eq_true rfl, Nat.le_of_ble_eq_true rfl⟩) hKK hP hD 3 27 rfl cw_obj rfl hl.1 (Nat.le_of_ble_eq_true rfl) rfl dL_buy_7 ⟨Nat.zero_le _, Nat.zero_le _⟩) hD hS hA (fun r_1 H locs hr_1 hP hD hS => ?_)
  subst hr_1
  have hP : va_P (dC, dI) vwCl (tab cI X d r ++ (bk cW X Bk (n + 1) (takeS ch (priceS (r 1) x (wN d (r 0) (100 - ka) kb))) pd (pr + priceS (r 1) x (wN d (r 0) (100 - ka) kb)) yr (upW Wd n (mkW (nI ka) x (nI kb) (priceS (r 1) x (wN d (r 0) (100 - ka) kb)))) ++ (bk cW X Br n2 ch2 pd2 pr2 yr2 W2 ++ (obj X Bk Br :: (o, .inl (cJ, 1, .inr (.inl f0))) :: R)))) H := hP
  have hD : va_D A (tab cI X d r ++ (bk cW X Bk (n + 1) (takeS ch (priceS (r 1) x (wN d (r 0) (100 - ka) kb))) pd (pr + priceS (r 1) x (wN d (r 0) (100 - ka) kb)) yr (upW Wd n (mkW (nI ka) x (nI kb) (priceS (r 1) x (wN d (r 0) (100 - ka) kb)))) ++ (bk cW X Br n2 ch2 pd2 pr2 yr2 W2 ++ (obj X Bk Br :: (o, .inl (cJ, 1, .inr (.inl f0))) :: R)))) := hD
  refine lv_i2l hx hb dL_buy_10 rfl ?_
  refine va_last hx hb hKJ hP hD hS (27 + 1) 0 (cw_at rfl) rfl (vp_in_nI (n := 0) (by omega) (by omega)) dL_buy_11 (fun H locs hP hD hS => ?_)
  rw [cw_aset] at hP hD
  refine lv_goto (tgt := 23) hx hb dL_buy_12 (by decide) ?_
  refine lv_iconst (v := 0) hx hb dL_buy_23 (by decide) ?_
  have hP9 : va_P (dC, dI) vwCl (tab cI X d r ++ (bk cW X Bk (n + 1) (takeS ch (priceS (r 1) x (wN d (r 0) (100 - ka) kb))) pd (pr + priceS (r 1) x (wN d (r 0) (100 - ka) kb)) yr (upW Wd n (mkW (nI ka) x (nI kb) (priceS (r 1) x (wN d (r 0) (100 - ka) kb)))) ++ (bk cW X Br n2 ch2 pd2 pr2 yr2 W2 ++ (obj X Bk Br :: (o, .inl (cJ, 1, .inr (.inl (vp_updL f0 0 (nI n).toInt64)))) :: R)))) _ := hP
  have hD9 : va_D A (tab cI X d r ++ (bk cW X Bk (n + 1) (takeS ch (priceS (r 1) x (wN d (r 0) (100 - ka) kb))) pd (pr + priceS (r 1) x (wN d (r 0) (100 - ka) kb)) yr (upW Wd n (mkW (nI ka) x (nI kb) (priceS (r 1) x (wN d (r 0) (100 - ka) kb)))) ++ (bk cW X Br n2 ch2 pd2 pr2 yr2 W2 ++ (obj X Bk Br :: (o, .inl (cJ, 1, .inr (.inl (vp_updL f0 0 (nI n).toInt64)))) :: R)))) := hD
  have hz : (0 : Int32) = 0 := rfl
  exact W.iret (v := 0) hx hb hr (fun t ht hW => ⟨⟨_, (), rfl, hz, by rw [ht]; exact hP9, by rw [hAe]; exact hD9⟩, by rw [hAe]; exact hS.F ht⟩) hS.2.2 dL_buy_24
set_option maxHeartbeats 4000000 in
set_option maxRecDepth 100000 in
theorem bad1_L_buy (l : Launch) (dC : Nat → ClassId) (dI : Nat → Nat → Nat) (cI cW : ClassId) (hl0 : l.stackTraces = false) (cJ : ClassId) (o : Nat) (f0 : Nat → Int64) (X Bk Br : Nat → Nat) (d r : Nat → Int32) (n : Nat) (ch pd pr yr : Int32) (Wd : Nat → Nat → Int32) (n2 : Nat) (ch2 pd2 pr2 yr2 : Int32) (W2 : Nat → Nat → Int32) (R : va_W) (a x p9 : Int32) (h9 : ¬ ((50 ≤ a ∧ a ≤ 99) ∧ (1 ≤ x ∧ x ≤ 999) ∧ (0 ≤ p9 ∧ p9 ≤ 30))) (sz : Nat) : Met l yL_buy wsL_buy ({ frames := 8, cells := 1, slots := 6, locals := 134 }) (PreL dC dI cI cW cJ [.ref (X 0), .int a, .int x, .int p9, .ref o] (tab cI X d r ++ (bk cW X Bk n ch pd pr yr Wd ++ (bk cW X Br n2 ch2 pd2 pr2 yr2 W2 ++ (obj X Bk Br :: (o, .inl (cJ, 1, .inr (.inl f0))) :: R)))) sz) (Qi1 dC dI (fun z => z = 1) (tab cI X d r ++ (bk cW X Bk n ch pd pr yr Wd ++ (bk cW X Br n2 ch2 pd2 pr2 yr2 W2 ++ (obj X Bk Br :: (o, .inl (cJ, 1, .inr (.inl f0))) :: R)))) (tab cI X d r ++ (bk cW X Bk n ch pd pr yr Wd ++ (bk cW X Br n2 ch2 pd2 pr2 yr2 W2 ++ (obj X Bk Br :: (o, .inl (cJ, 1, .inr (.inl f0))) :: R)))) sz) 1 6 (va_A (tab cI X d r ++ (bk cW X Bk n ch pd pr yr Wd ++ (bk cW X Br n2 ch2 pd2 pr2 yr2 W2 ++ (obj X Bk Br :: (o, .inl (cJ, 1, .inr (.inl f0))) :: R)))) sz) := by
  refine met_ofWH (cc := cL_buy) (maxL := 6) (ret := (some .int)) (hh := [(0, 12, 15, 15), (0, 12, 19, 24)]) (by decide) rfl ?_
  intro p e s m args below meth c s₁ B hml hv
  obtain ⟨rfl, hsz, hP, hD0, hKK, hKJ, hKX⟩ := hv
  subst hsz
  have hx := B.exec
  have hb := B.bytes
  have hr := B.returns
  have hts := atoms_spec (ws := wsL_buy) B.pre
  have hown : s.vm.findClass RL = some m.cls := findClass_of_methodNamed B.named
  have hlocks := B.notSynchronized
  have hD := hD0.self (sz := s.heap.size)
  generalize hAe : va_A (tab cI X d r ++ (bk cW X Bk n ch pd pr yr Wd ++ (bk cW X Br n2 ch2 pd2 pr2 yr2 W2 ++ (obj X Bk Br :: (o, .inl (cJ, 1, .inr (.inl f0))) :: R)))) s.heap.size = A at hD ⊢
  have hA : ∀ q : Nat, s.heap.size ≤ q → A q := fun q h => by rw [← hAe]; exact Or.inr h
  have hS : va_S A s.heap s.heap [] := va_S.rf
  have hl := lv_entry ([.ref (X 0), .int a, .int x, .int p9, .ref o]) (n := 6) (Nat.le_of_ble_eq_true rfl)
  rw [lg_entry_eq]
  generalize (lg_sl ([.ref (X 0), .int a, .int x, .int p9, .ref o]) ++ List.replicate (6 - (lg_sl ([.ref (X 0), .int a, .int x, .int p9, .ref o])).length) Slot.unset).toArray = ls at hl ⊢
  have hl : lv_has ls 6 [(0, .ref (X 0)), (1, .int a), (2, .int x), (3, .int p9), (4, .ref o)] := hl
  refine lv_aload hx hb dL_buy_0 (lv_at hl 4 rfl) ?_
  refine lv_iconst (v := 0) hx hb dL_buy_2 (by decide) ?_
  refine lv_aload_n hx hb dL_buy_3 rfl (lv_at hl 0 rfl) ?_
  refine lv_iload_n hx hb dL_buy_4 rfl (lv_at hl 1 rfl) ?_
  refine lv_iload_n hx hb dL_buy_5 rfl (lv_at hl 2 rfl) ?_
  refine lv_iload_n hx hb dL_buy_6 rfl (lv_at hl 3 rfl) ?_
  have htab : c.exceptionTable.toList = [⟨0, 12, 15, 15⟩, ⟨0, 12, 19, 24⟩] := vx_table (x := yL_buy) B (hts (.codeWith yL_buy cL_buy 6 (some .int) [(0, 12, 15, 15), (0, 12, 19, 24)]) (by unfold wsL_buy; exact List.mem_cons_self))
  refine vx_calli (vx_runV (As := [.int a, .int x, .int p9]) (rest := [.int 0, .ref o]) ⟨hx, hb, hml, hown, hts⟩ (bad1_X3_buy l hl0 dC dI cI cW X Bk Br d r n ch pd pr yr Wd n2 ch2 pd2 pr2 yr2 W2 ((o, .inl (cJ, 1, .inr (.inl f0))) :: R) a x p9 h9 _) (cwV 3 hts gL_buy_X3_buy rfl rfl rfl (by decide +kernel) ⟨Nat.le_of_ble_eq_true rfl, Nat.le_of_ble_eq_true rfl⟩) ⟨PreX_blind, va_recv (q := (RX3, TX3, 3)) hKK.1 hP rfl cw_obj, fun U hU hW => ⟨rfl, by rw [hU], by rw [hU]; exact hP, hKK.warm hW, by rw [hU]; exact hKX.warm hW⟩⟩ rfl rfl hl.1 rfl (lv_room (Nat.le_of_ble_eq_true rfl)) dL_buy_7 ⟨Nat.le_of_ble_eq_true rfl, Nat.le_of_ble_eq_true rfl⟩) hS (fun q _ h => hA q h) (fun q h => hA q h) (fun q _ h => hA q h) (fun E ce q9 u t H1 locs1 ht1 hvm hpx hBX hz hk9 hS1 hce hcv hcl => ?_) (fun r u t H1 locs1 _ _ hw => hw.elim)
  subst hBX
  have hP1 : va_P (dC, dI) vwCl (tab cI X d r ++ (bk cW X Bk n ch pd pr yr Wd ++ (bk cW X Br n2 ch2 pd2 pr2 yr2 W2 ++ (obj X Bk Br :: (o, .inl (cJ, 1, .inr (.inl f0))) :: R)))) H1 := hP.kept (fun k q hk => hk9 q.1 ((hP k q hk).lt) (Nat.not_le.mpr ((hP k q hk).lt)))
  refine vx_catch (own := RL) (name := xIA) hown [] ⟨0, 12, 15, 15⟩ [⟨0, 12, 19, 24⟩] htab (fun z hz => nomatch hz) rfl (by decide) (hts (.classLink RL 15 xIA) (by decide +kernel)) (va_Nw.use rfl hKX.1.1.2.1) hce hcv hcl ?_
  refine W.eq (g2 := F0 m 15 ls [.ref q9]) rfl ?_
  have hP := hP1
  have hS := hS1
  refine lv_astore (lv' := [(5, .ref q9), (0, .ref (X 0)), (1, .int a), (2, .int x), (3, .int p9), (4, .ref o)]) hx hb dL_buy_15 hl (by decide) rfl (fun ls hl => ?_)
  refine lv_iconst (v := 1) hx hb dL_buy_17 (by decide) ?_
  have hP9 : va_P (dC, dI) vwCl (tab cI X d r ++ (bk cW X Bk n ch pd pr yr Wd ++ (bk cW X Br n2 ch2 pd2 pr2 yr2 W2 ++ (obj X Bk Br :: (o, .inl (cJ, 1, .inr (.inl f0))) :: R)))) _ := hP
  have hD9 : va_D A (tab cI X d r ++ (bk cW X Bk n ch pd pr yr Wd ++ (bk cW X Br n2 ch2 pd2 pr2 yr2 W2 ++ (obj X Bk Br :: (o, .inl (cJ, 1, .inr (.inl f0))) :: R)))) := hD
  have hz : (1 : Int32) = 1 := rfl
  exact W.iret (v := 1) hx hb hr (fun t ht hW => ⟨⟨_, (), rfl, hz, by rw [ht]; exact hP9, by rw [hAe]; exact hD9⟩, by rw [hAe]; exact hS.F ht⟩) hS.2.2 dL_buy_18
set_option maxHeartbeats 4000000 in
set_option maxRecDepth 100000 in
theorem bad2_L_buy (l : Launch) (dC : Nat → ClassId) (dI : Nat → Nat → Nat) (cI cW : ClassId) (hl0 : l.stackTraces = false) (cJ : ClassId) (o : Nat) (f0 : Nat → Int64) (X Bk Br : Nat → Nat) (d r : Nat → Int32) (n : Nat) (ch pd pr yr : Int32) (Wd : Nat → Nat → Int32) (n2 : Nat) (ch2 pd2 pr2 yr2 : Int32) (W2 : Nat → Nat → Int32) (R : va_W) (hn : n ≤ 10) (ka : Nat) (x : Int32) (kb : Nat) (h1 : 50 ≤ ka) (h2 : ka ≤ 99) (hx9 : 1 ≤ x ∧ x ≤ 999) (h3 : kb ≤ 30) (h9 : n = 10 ∨ wN d (r 0) (100 - ka) kb = 0) (hi : ¬ (1000 : Int32) + r 0 = 0) (hi0 : ¬ r 0 < 0) (sz : Nat) : Met l yL_buy wsL_buy ({ frames := 8, cells := 1, slots := 6, locals := 134 }) (PreL dC dI cI cW cJ [.ref (X 0), .int (nI ka), .int x, .int (nI kb), .ref o] (tab cI X d r ++ (bk cW X Bk n ch pd pr yr Wd ++ (bk cW X Br n2 ch2 pd2 pr2 yr2 W2 ++ (obj X Bk Br :: (o, .inl (cJ, 1, .inr (.inl f0))) :: R)))) sz) (Qi1 dC dI (fun z => z = 2) (tab cI X d r ++ (bk cW X Bk n ch pd pr yr Wd ++ (bk cW X Br n2 ch2 pd2 pr2 yr2 W2 ++ (obj X Bk Br :: (o, .inl (cJ, 1, .inr (.inl f0))) :: R)))) (tab cI X d r ++ (bk cW X Bk n ch pd pr yr Wd ++ (bk cW X Br n2 ch2 pd2 pr2 yr2 W2 ++ (obj X Bk Br :: (o, .inl (cJ, 1, .inr (.inl f0))) :: R)))) sz) 1 6 (va_A (tab cI X d r ++ (bk cW X Bk n ch pd pr yr Wd ++ (bk cW X Br n2 ch2 pd2 pr2 yr2 W2 ++ (obj X Bk Br :: (o, .inl (cJ, 1, .inr (.inl f0))) :: R)))) sz) := by
  refine met_ofWH (cc := cL_buy) (maxL := 6) (ret := (some .int)) (hh := [(0, 12, 15, 15), (0, 12, 19, 24)]) (by decide) rfl ?_
  intro p e s m args below meth c s₁ B hml hv
  obtain ⟨rfl, hsz, hP, hD0, hKK, hKJ, hKX⟩ := hv
  subst hsz
  have hx := B.exec
  have hb := B.bytes
  have hr := B.returns
  have hts := atoms_spec (ws := wsL_buy) B.pre
  have hown : s.vm.findClass RL = some m.cls := findClass_of_methodNamed B.named
  have hlocks := B.notSynchronized
  have hD := hD0.self (sz := s.heap.size)
  generalize hAe : va_A (tab cI X d r ++ (bk cW X Bk n ch pd pr yr Wd ++ (bk cW X Br n2 ch2 pd2 pr2 yr2 W2 ++ (obj X Bk Br :: (o, .inl (cJ, 1, .inr (.inl f0))) :: R)))) s.heap.size = A at hD ⊢
  have hA : ∀ q : Nat, s.heap.size ≤ q → A q := fun q h => by rw [← hAe]; exact Or.inr h
  have hS : va_S A s.heap s.heap [] := va_S.rf
  have hl := lv_entry ([.ref (X 0), .int (nI ka), .int x, .int (nI kb), .ref o]) (n := 6) (Nat.le_of_ble_eq_true rfl)
  rw [lg_entry_eq]
  generalize (lg_sl ([.ref (X 0), .int (nI ka), .int x, .int (nI kb), .ref o]) ++ List.replicate (6 - (lg_sl ([.ref (X 0), .int (nI ka), .int x, .int (nI kb), .ref o])).length) Slot.unset).toArray = ls at hl ⊢
  have hl : lv_has ls 6 [(0, .ref (X 0)), (1, .int (nI ka)), (2, .int x), (3, .int (nI kb)), (4, .ref o)] := hl
  refine lv_aload hx hb dL_buy_0 (lv_at hl 4 rfl) ?_
  refine lv_iconst (v := 0) hx hb dL_buy_2 (by decide) ?_
  refine lv_aload_n hx hb dL_buy_3 rfl (lv_at hl 0 rfl) ?_
  refine lv_iload_n hx hb dL_buy_4 rfl (lv_at hl 1 rfl) ?_
  refine lv_iload_n hx hb dL_buy_5 rfl (lv_at hl 2 rfl) ?_
  refine lv_iload_n hx hb dL_buy_6 rfl (lv_at hl 3 rfl) ?_
  have htab : c.exceptionTable.toList = [⟨0, 12, 15, 15⟩, ⟨0, 12, 19, 24⟩] := vx_table (x := yL_buy) B (hts (.codeWith yL_buy cL_buy 6 (some .int) [(0, 12, 15, 15), (0, 12, 19, 24)]) (by unfold wsL_buy; exact List.mem_cons_self))
  refine vx_calli (vx_runV (As := [.int (nI ka), .int x, .int (nI kb)]) (rest := [.int 0, .ref o]) ⟨hx, hb, hml, hown, hts⟩ (bad2_X3_buy l hl0 dC dI cI cW X Bk Br d r n ch pd pr yr Wd n2 ch2 pd2 pr2 yr2 W2 ((o, .inl (cJ, 1, .inr (.inl f0))) :: R) hn ka x kb h1 h2 hx9 h3 h9 hi hi0 _) (cwV 3 hts gL_buy_X3_buy rfl rfl rfl (by decide +kernel) ⟨Nat.le_of_ble_eq_true rfl, Nat.le_of_ble_eq_true rfl⟩) ⟨PreX_blind, va_recv (q := (RX3, TX3, 3)) hKK.1 hP rfl cw_obj, fun U hU hW => ⟨rfl, by rw [hU], by rw [hU]; exact hP, hKK.warm hW, by rw [hU]; exact hKX.warm hW⟩⟩ rfl rfl hl.1 rfl (lv_room (Nat.le_of_ble_eq_true rfl)) dL_buy_7 ⟨Nat.le_of_ble_eq_true rfl, Nat.le_of_ble_eq_true rfl⟩) hS (fun q _ h => hA q h) (fun q h => hA q h) (fun q _ h => hA q h) (fun E ce q9 u t H1 locs1 ht1 hvm hpx hBX hz hk9 hS1 hce hcv hcl => ?_) (fun r u t H1 locs1 _ _ hw => hw.elim)
  subst hBX
  have hP1 : va_P (dC, dI) vwCl (tab cI X d r ++ (bk cW X Bk n ch pd pr yr Wd ++ (bk cW X Br n2 ch2 pd2 pr2 yr2 W2 ++ (obj X Bk Br :: (o, .inl (cJ, 1, .inr (.inl f0))) :: R)))) H1 := hP.kept (fun k q hk => hk9 q.1 ((hP k q hk).lt) (Nat.not_le.mpr ((hP k q hk).lt)))
  refine vx_catch (own := RL) (name := xIS) hown [⟨0, 12, 15, 15⟩] ⟨0, 12, 19, 24⟩ [] htab (fun z hz => by cases List.mem_singleton.mp hz; exact Or.inr ⟨by decide, xIA, hts (.classLink RL 15 xIA) (by decide +kernel), hKX.2.1.2.1⟩) rfl (by decide) (hts (.classLink RL 24 xIS) (by decide +kernel)) (va_Nw.use rfl hKX.1.1.2.2) hce hcv hcl ?_
  refine W.eq (g2 := F0 m 19 ls [.ref q9]) rfl ?_
  have hP := hP1
  have hS := hS1
  refine lv_astore (lv' := [(5, .ref q9), (0, .ref (X 0)), (1, .int (nI ka)), (2, .int x), (3, .int (nI kb)), (4, .ref o)]) hx hb dL_buy_19 hl (by decide) rfl (fun ls hl => ?_)
  refine lv_iconst (v := 2) hx hb dL_buy_21 (by decide) ?_
  have hP9 : va_P (dC, dI) vwCl (tab cI X d r ++ (bk cW X Bk n ch pd pr yr Wd ++ (bk cW X Br n2 ch2 pd2 pr2 yr2 W2 ++ (obj X Bk Br :: (o, .inl (cJ, 1, .inr (.inl f0))) :: R)))) _ := hP
  have hD9 : va_D A (tab cI X d r ++ (bk cW X Bk n ch pd pr yr Wd ++ (bk cW X Br n2 ch2 pd2 pr2 yr2 W2 ++ (obj X Bk Br :: (o, .inl (cJ, 1, .inr (.inl f0))) :: R)))) := hD
  have hz : (2 : Int32) = 2 := rfl
  exact W.iret (v := 2) hx hb hr (fun t ht hW => ⟨⟨_, (), rfl, hz, by rw [ht]; exact hP9, by rw [hAe]; exact hD9⟩, by rw [hAe]; exact hS.F ht⟩) hS.2.2 dL_buy_22
set_option maxHeartbeats 4000000 in
set_option maxRecDepth 100000 in
theorem met_L_die (l : Launch) (dC : Nat → ClassId) (dI : Nat → Nat → Nat) (cI cW : ClassId) (cJ : ClassId) (o : Nat) (f0 : Nat → Int64) (X Bk Br : Nat → Nat) (d r : Nat → Int32) (n : Nat) (ch pd pr yr : Int32) (Wd : Nat → Nat → Int32) (n2 : Nat) (ch2 pd2 pr2 yr2 : Int32) (W2 : Nat → Nat → Int32) (R : va_W) (hn : n ≤ 10) (hok : ∀ k, k < n → okW (Wd k)) (k : Nat) (hk : k < n) (hal : Wd k 4 = 0) (hi : ¬ (1000 : Int32) + r 0 = 0) (hi0 : ¬ r 0 < 0) (sz : Nat) : Met l yL_die wsL_die ({ frames := 8, cells := 0, slots := 0, locals := 134 }) (PreL dC dI cI cW cJ [.ref (X 0), .int (nI k), .ref o] (tab cI X d r ++ (bk cW X Bk n ch pd pr yr Wd ++ (bk cW X Br n2 ch2 pd2 pr2 yr2 W2 ++ (obj X Bk Br :: (o, .inl (cJ, 1, .inr (.inl f0))) :: R)))) sz) (Qi1 dC dI (fun z => z = 0) (tab cI X d r ++ (bk cW X Bk n ch pd pr yr Wd ++ (bk cW X Br n2 ch2 pd2 pr2 yr2 W2 ++ (obj X Bk Br :: (o, .inl (cJ, 1, .inr (.inl f0))) :: R)))) (tab cI X d r ++ (bk cW X Bk n ch pd pr yr (upW Wd k (upd (Wd k) 4 1)) ++ (bk cW X Br n2 ch2 pd2 pr2 yr2 W2 ++ (obj X Bk Br :: (o, .inl (cJ, 1, .inr (.inl (vp_updL f0 0 (keptS d (r 0) (Wd k)).toInt64)))) :: R)))) sz) 0 0 (va_A (tab cI X d r ++ (bk cW X Bk n ch pd pr yr Wd ++ (bk cW X Br n2 ch2 pd2 pr2 yr2 W2 ++ (obj X Bk Br :: (o, .inl (cJ, 1, .inr (.inl f0))) :: R)))) sz) := by
  refine met_ofWH (cc := cL_die) (maxL := 4) (ret := (some .int)) (hh := [(0, 9, 12, 13), (0, 9, 15, 24)]) (by decide) rfl ?_
  intro p e s m args below meth c s₁ B hml hv
  obtain ⟨rfl, hsz, hP, hD0, hKK, hKJ, hKX⟩ := hv
  subst hsz
  have hx := B.exec
  have hb := B.bytes
  have hr := B.returns
  have hts := atoms_spec (ws := wsL_die) B.pre
  have hown : s.vm.findClass RL = some m.cls := findClass_of_methodNamed B.named
  have hlocks := B.notSynchronized
  have hD := hD0.self (sz := s.heap.size)
  generalize hAe : va_A (tab cI X d r ++ (bk cW X Bk n ch pd pr yr Wd ++ (bk cW X Br n2 ch2 pd2 pr2 yr2 W2 ++ (obj X Bk Br :: (o, .inl (cJ, 1, .inr (.inl f0))) :: R)))) s.heap.size = A at hD ⊢
  have hA : ∀ q : Nat, s.heap.size ≤ q → A q := fun q h => by rw [← hAe]; exact Or.inr h
  have hS : va_S A s.heap s.heap [] := va_S.rf
  have hl := lv_entry ([.ref (X 0), .int (nI k), .ref o]) (n := 4) (Nat.le_of_ble_eq_true rfl)
  rw [lg_entry_eq]
  generalize (lg_sl ([.ref (X 0), .int (nI k), .ref o]) ++ List.replicate (4 - (lg_sl ([.ref (X 0), .int (nI k), .ref o])).length) Slot.unset).toArray = ls at hl ⊢
  have hl : lv_has ls 4 [(0, .ref (X 0)), (1, .int (nI k)), (2, .ref o)] := hl
  refine lv_aload_n hx hb dL_die_0 rfl (lv_at hl 2 rfl) ?_
  refine lv_iconst (v := 0) hx hb dL_die_1 (by decide) ?_
  refine lv_aload_n hx hb dL_die_2 rfl (lv_at hl 0 rfl) ?_
  refine lv_iload_n hx hb dL_die_3 rfl (lv_at hl 1 rfl) ?_
  refine wr_i (runV1 (As := [.int (nI k)]) (rest := [.int 0, .ref o]) ⟨hx, hb, hml, hown, hts⟩ (met_X3_die l dC dI cI cW X Bk Br d r n ch pd pr yr Wd n2 ch2 pd2 pr2 yr2 W2 ((o, .inl (cJ, 1, .inr (.inl f0))) :: R) hn hok k hk hal hi hi0 _) (cwV 1 hts gL_die_X3_die rfl rfl rfl (by decide +kernel) ⟨Nat.le_of_ble_eq_true rfl, Nat.le_of_ble_eq_true rfl⟩) hKK hP hD 3 27 rfl cw_obj rfl hl.1 (Nat.le_of_ble_eq_true rfl) rfl dL_die_4 ⟨Nat.zero_le _, Nat.zero_le _⟩) hD hS hA (fun r_1 H locs hr_1 hP hD hS => ?_)
  subst hr_1
  have hP : va_P (dC, dI) vwCl (tab cI X d r ++ (bk cW X Bk n ch pd pr yr (upW Wd k (upd (Wd k) 4 1)) ++ (bk cW X Br n2 ch2 pd2 pr2 yr2 W2 ++ (obj X Bk Br :: (o, .inl (cJ, 1, .inr (.inl f0))) :: R)))) H := hP
  have hD : va_D A (tab cI X d r ++ (bk cW X Bk n ch pd pr yr (upW Wd k (upd (Wd k) 4 1)) ++ (bk cW X Br n2 ch2 pd2 pr2 yr2 W2 ++ (obj X Bk Br :: (o, .inl (cJ, 1, .inr (.inl f0))) :: R)))) := hD
  refine lv_i2l hx hb dL_die_7 rfl ?_
  refine va_last hx hb hKJ hP hD hS (27 + 1) 0 (cw_at rfl) rfl (vp_in_nI (n := 0) (by omega) (by omega)) dL_die_8 (fun H locs hP hD hS => ?_)
  rw [cw_aset] at hP hD
  refine lv_goto (tgt := 18) hx hb dL_die_9 (by decide) ?_
  refine lv_iconst (v := 0) hx hb dL_die_18 (by decide) ?_
  have hP9 : va_P (dC, dI) vwCl (tab cI X d r ++ (bk cW X Bk n ch pd pr yr (upW Wd k (upd (Wd k) 4 1)) ++ (bk cW X Br n2 ch2 pd2 pr2 yr2 W2 ++ (obj X Bk Br :: (o, .inl (cJ, 1, .inr (.inl (vp_updL f0 0 (keptS d (r 0) (Wd k)).toInt64)))) :: R)))) _ := hP
  have hD9 : va_D A (tab cI X d r ++ (bk cW X Bk n ch pd pr yr (upW Wd k (upd (Wd k) 4 1)) ++ (bk cW X Br n2 ch2 pd2 pr2 yr2 W2 ++ (obj X Bk Br :: (o, .inl (cJ, 1, .inr (.inl (vp_updL f0 0 (keptS d (r 0) (Wd k)).toInt64)))) :: R)))) := hD
  have hz : (0 : Int32) = 0 := rfl
  exact W.iret (v := 0) hx hb hr (fun t ht hW => ⟨⟨_, (), rfl, hz, by rw [ht]; exact hP9, by rw [hAe]; exact hD9⟩, by rw [hAe]; exact hS.F ht⟩) hS.2.2 dL_die_19
set_option maxHeartbeats 4000000 in
set_option maxRecDepth 100000 in
theorem bad1_L_die (l : Launch) (dC : Nat → ClassId) (dI : Nat → Nat → Nat) (cI cW : ClassId) (hl0 : l.stackTraces = false) (cJ : ClassId) (o : Nat) (f0 : Nat → Int64) (X Bk Br : Nat → Nat) (d r : Nat → Int32) (n : Nat) (ch pd pr yr : Int32) (Wd : Nat → Nat → Int32) (n2 : Nat) (ch2 pd2 pr2 yr2 : Int32) (W2 : Nat → Nat → Int32) (R : va_W) (a : Int32) (h9 : ¬ (0 ≤ a ∧ a < nI n)) (sz : Nat) : Met l yL_die wsL_die ({ frames := 8, cells := 1, slots := 6, locals := 134 }) (PreL dC dI cI cW cJ [.ref (X 0), .int a, .ref o] (tab cI X d r ++ (bk cW X Bk n ch pd pr yr Wd ++ (bk cW X Br n2 ch2 pd2 pr2 yr2 W2 ++ (obj X Bk Br :: (o, .inl (cJ, 1, .inr (.inl f0))) :: R)))) sz) (Qi1 dC dI (fun z => z = 1) (tab cI X d r ++ (bk cW X Bk n ch pd pr yr Wd ++ (bk cW X Br n2 ch2 pd2 pr2 yr2 W2 ++ (obj X Bk Br :: (o, .inl (cJ, 1, .inr (.inl f0))) :: R)))) (tab cI X d r ++ (bk cW X Bk n ch pd pr yr Wd ++ (bk cW X Br n2 ch2 pd2 pr2 yr2 W2 ++ (obj X Bk Br :: (o, .inl (cJ, 1, .inr (.inl f0))) :: R)))) sz) 1 6 (va_A (tab cI X d r ++ (bk cW X Bk n ch pd pr yr Wd ++ (bk cW X Br n2 ch2 pd2 pr2 yr2 W2 ++ (obj X Bk Br :: (o, .inl (cJ, 1, .inr (.inl f0))) :: R)))) sz) := by
  refine met_ofWH (cc := cL_die) (maxL := 4) (ret := (some .int)) (hh := [(0, 9, 12, 13), (0, 9, 15, 24)]) (by decide) rfl ?_
  intro p e s m args below meth c s₁ B hml hv
  obtain ⟨rfl, hsz, hP, hD0, hKK, hKJ, hKX⟩ := hv
  subst hsz
  have hx := B.exec
  have hb := B.bytes
  have hr := B.returns
  have hts := atoms_spec (ws := wsL_die) B.pre
  have hown : s.vm.findClass RL = some m.cls := findClass_of_methodNamed B.named
  have hlocks := B.notSynchronized
  have hD := hD0.self (sz := s.heap.size)
  generalize hAe : va_A (tab cI X d r ++ (bk cW X Bk n ch pd pr yr Wd ++ (bk cW X Br n2 ch2 pd2 pr2 yr2 W2 ++ (obj X Bk Br :: (o, .inl (cJ, 1, .inr (.inl f0))) :: R)))) s.heap.size = A at hD ⊢
  have hA : ∀ q : Nat, s.heap.size ≤ q → A q := fun q h => by rw [← hAe]; exact Or.inr h
  have hS : va_S A s.heap s.heap [] := va_S.rf
  have hl := lv_entry ([.ref (X 0), .int a, .ref o]) (n := 4) (Nat.le_of_ble_eq_true rfl)
  rw [lg_entry_eq]
  generalize (lg_sl ([.ref (X 0), .int a, .ref o]) ++ List.replicate (4 - (lg_sl ([.ref (X 0), .int a, .ref o])).length) Slot.unset).toArray = ls at hl ⊢
  have hl : lv_has ls 4 [(0, .ref (X 0)), (1, .int a), (2, .ref o)] := hl
  refine lv_aload_n hx hb dL_die_0 rfl (lv_at hl 2 rfl) ?_
  refine lv_iconst (v := 0) hx hb dL_die_1 (by decide) ?_
  refine lv_aload_n hx hb dL_die_2 rfl (lv_at hl 0 rfl) ?_
  refine lv_iload_n hx hb dL_die_3 rfl (lv_at hl 1 rfl) ?_
  have htab : c.exceptionTable.toList = [⟨0, 9, 12, 13⟩, ⟨0, 9, 15, 24⟩] := vx_table (x := yL_die) B (hts (.codeWith yL_die cL_die 4 (some .int) [(0, 9, 12, 13), (0, 9, 15, 24)]) (by unfold wsL_die; exact List.mem_cons_self))
  refine vx_calli (vx_runV (As := [.int a]) (rest := [.int 0, .ref o]) ⟨hx, hb, hml, hown, hts⟩ (bad1_X3_die l hl0 dC dI cI cW X Bk Br d r n ch pd pr yr Wd n2 ch2 pd2 pr2 yr2 W2 ((o, .inl (cJ, 1, .inr (.inl f0))) :: R) a h9 _) (cwV 1 hts gL_die_X3_die rfl rfl rfl (by decide +kernel) ⟨Nat.le_of_ble_eq_true rfl, Nat.le_of_ble_eq_true rfl⟩) ⟨PreX_blind, va_recv (q := (RX3, TX3, 3)) hKK.1 hP rfl cw_obj, fun U hU hW => ⟨rfl, by rw [hU], by rw [hU]; exact hP, hKK.warm hW, by rw [hU]; exact hKX.warm hW⟩⟩ rfl rfl hl.1 rfl (lv_room (Nat.le_of_ble_eq_true rfl)) dL_die_4 ⟨Nat.le_of_ble_eq_true rfl, Nat.le_of_ble_eq_true rfl⟩) hS (fun q _ h => hA q h) (fun q h => hA q h) (fun q _ h => hA q h) (fun E ce q9 u t H1 locs1 ht1 hvm hpx hBX hz hk9 hS1 hce hcv hcl => ?_) (fun r u t H1 locs1 _ _ hw => hw.elim)
  subst hBX
  have hP1 : va_P (dC, dI) vwCl (tab cI X d r ++ (bk cW X Bk n ch pd pr yr Wd ++ (bk cW X Br n2 ch2 pd2 pr2 yr2 W2 ++ (obj X Bk Br :: (o, .inl (cJ, 1, .inr (.inl f0))) :: R)))) H1 := hP.kept (fun k q hk => hk9 q.1 ((hP k q hk).lt) (Nat.not_le.mpr ((hP k q hk).lt)))
  refine vx_catch (own := RL) (name := xIO) hown [] ⟨0, 9, 12, 13⟩ [⟨0, 9, 15, 24⟩] htab (fun z hz => nomatch hz) rfl (by decide) (hts (.classLink RL 13 xIO) (by decide +kernel)) (va_Nw.use rfl hKX.1.1.1) hce hcv hcl ?_
  refine W.eq (g2 := F0 m 12 ls [.ref q9]) rfl ?_
  have hP := hP1
  have hS := hS1
  refine lv_astore_n (lv' := [(3, .ref q9), (0, .ref (X 0)), (1, .int a), (2, .ref o)]) hx hb dL_die_12 rfl hl (by decide) rfl (fun ls hl => ?_)
  refine lv_iconst (v := 1) hx hb dL_die_13 (by decide) ?_
  have hP9 : va_P (dC, dI) vwCl (tab cI X d r ++ (bk cW X Bk n ch pd pr yr Wd ++ (bk cW X Br n2 ch2 pd2 pr2 yr2 W2 ++ (obj X Bk Br :: (o, .inl (cJ, 1, .inr (.inl f0))) :: R)))) _ := hP
  have hD9 : va_D A (tab cI X d r ++ (bk cW X Bk n ch pd pr yr Wd ++ (bk cW X Br n2 ch2 pd2 pr2 yr2 W2 ++ (obj X Bk Br :: (o, .inl (cJ, 1, .inr (.inl f0))) :: R)))) := hD
  have hz : (1 : Int32) = 1 := rfl
  exact W.iret (v := 1) hx hb hr (fun t ht hW => ⟨⟨_, (), rfl, hz, by rw [ht]; exact hP9, by rw [hAe]; exact hD9⟩, by rw [hAe]; exact hS.F ht⟩) hS.2.2 dL_die_14
set_option maxHeartbeats 4000000 in
set_option maxRecDepth 100000 in
theorem bad2_L_die (l : Launch) (dC : Nat → ClassId) (dI : Nat → Nat → Nat) (cI cW : ClassId) (hl0 : l.stackTraces = false) (cJ : ClassId) (o : Nat) (f0 : Nat → Int64) (X Bk Br : Nat → Nat) (d r : Nat → Int32) (n : Nat) (ch pd pr yr : Int32) (Wd : Nat → Nat → Int32) (n2 : Nat) (ch2 pd2 pr2 yr2 : Int32) (W2 : Nat → Nat → Int32) (R : va_W) (hn : n ≤ 10) (k : Nat) (hk : k < n) (h9 : ¬ Wd k 4 = 0) (sz : Nat) : Met l yL_die wsL_die ({ frames := 8, cells := 1, slots := 6, locals := 134 }) (PreL dC dI cI cW cJ [.ref (X 0), .int (nI k), .ref o] (tab cI X d r ++ (bk cW X Bk n ch pd pr yr Wd ++ (bk cW X Br n2 ch2 pd2 pr2 yr2 W2 ++ (obj X Bk Br :: (o, .inl (cJ, 1, .inr (.inl f0))) :: R)))) sz) (Qi1 dC dI (fun z => z = 2) (tab cI X d r ++ (bk cW X Bk n ch pd pr yr Wd ++ (bk cW X Br n2 ch2 pd2 pr2 yr2 W2 ++ (obj X Bk Br :: (o, .inl (cJ, 1, .inr (.inl f0))) :: R)))) (tab cI X d r ++ (bk cW X Bk n ch pd pr yr Wd ++ (bk cW X Br n2 ch2 pd2 pr2 yr2 W2 ++ (obj X Bk Br :: (o, .inl (cJ, 1, .inr (.inl f0))) :: R)))) sz) 1 6 (va_A (tab cI X d r ++ (bk cW X Bk n ch pd pr yr Wd ++ (bk cW X Br n2 ch2 pd2 pr2 yr2 W2 ++ (obj X Bk Br :: (o, .inl (cJ, 1, .inr (.inl f0))) :: R)))) sz) := by
  refine met_ofWH (cc := cL_die) (maxL := 4) (ret := (some .int)) (hh := [(0, 9, 12, 13), (0, 9, 15, 24)]) (by decide) rfl ?_
  intro p e s m args below meth c s₁ B hml hv
  obtain ⟨rfl, hsz, hP, hD0, hKK, hKJ, hKX⟩ := hv
  subst hsz
  have hx := B.exec
  have hb := B.bytes
  have hr := B.returns
  have hts := atoms_spec (ws := wsL_die) B.pre
  have hown : s.vm.findClass RL = some m.cls := findClass_of_methodNamed B.named
  have hlocks := B.notSynchronized
  have hD := hD0.self (sz := s.heap.size)
  generalize hAe : va_A (tab cI X d r ++ (bk cW X Bk n ch pd pr yr Wd ++ (bk cW X Br n2 ch2 pd2 pr2 yr2 W2 ++ (obj X Bk Br :: (o, .inl (cJ, 1, .inr (.inl f0))) :: R)))) s.heap.size = A at hD ⊢
  have hA : ∀ q : Nat, s.heap.size ≤ q → A q := fun q h => by rw [← hAe]; exact Or.inr h
  have hS : va_S A s.heap s.heap [] := va_S.rf
  have hl := lv_entry ([.ref (X 0), .int (nI k), .ref o]) (n := 4) (Nat.le_of_ble_eq_true rfl)
  rw [lg_entry_eq]
  generalize (lg_sl ([.ref (X 0), .int (nI k), .ref o]) ++ List.replicate (4 - (lg_sl ([.ref (X 0), .int (nI k), .ref o])).length) Slot.unset).toArray = ls at hl ⊢
  have hl : lv_has ls 4 [(0, .ref (X 0)), (1, .int (nI k)), (2, .ref o)] := hl
  refine lv_aload_n hx hb dL_die_0 rfl (lv_at hl 2 rfl) ?_
  refine lv_iconst (v := 0) hx hb dL_die_1 (by decide) ?_
  refine lv_aload_n hx hb dL_die_2 rfl (lv_at hl 0 rfl) ?_
  refine lv_iload_n hx hb dL_die_3 rfl (lv_at hl 1 rfl) ?_
  have htab : c.exceptionTable.toList = [⟨0, 9, 12, 13⟩, ⟨0, 9, 15, 24⟩] := vx_table (x := yL_die) B (hts (.codeWith yL_die cL_die 4 (some .int) [(0, 9, 12, 13), (0, 9, 15, 24)]) (by unfold wsL_die; exact List.mem_cons_self))
  refine vx_calli (vx_runV (As := [.int (nI k)]) (rest := [.int 0, .ref o]) ⟨hx, hb, hml, hown, hts⟩ (bad2_X3_die l hl0 dC dI cI cW X Bk Br d r n ch pd pr yr Wd n2 ch2 pd2 pr2 yr2 W2 ((o, .inl (cJ, 1, .inr (.inl f0))) :: R) hn k hk h9 _) (cwV 1 hts gL_die_X3_die rfl rfl rfl (by decide +kernel) ⟨Nat.le_of_ble_eq_true rfl, Nat.le_of_ble_eq_true rfl⟩) ⟨PreX_blind, va_recv (q := (RX3, TX3, 3)) hKK.1 hP rfl cw_obj, fun U hU hW => ⟨rfl, by rw [hU], by rw [hU]; exact hP, hKK.warm hW, by rw [hU]; exact hKX.warm hW⟩⟩ rfl rfl hl.1 rfl (lv_room (Nat.le_of_ble_eq_true rfl)) dL_die_4 ⟨Nat.le_of_ble_eq_true rfl, Nat.le_of_ble_eq_true rfl⟩) hS (fun q _ h => hA q h) (fun q h => hA q h) (fun q _ h => hA q h) (fun E ce q9 u t H1 locs1 ht1 hvm hpx hBX hz hk9 hS1 hce hcv hcl => ?_) (fun r u t H1 locs1 _ _ hw => hw.elim)
  subst hBX
  have hP1 : va_P (dC, dI) vwCl (tab cI X d r ++ (bk cW X Bk n ch pd pr yr Wd ++ (bk cW X Br n2 ch2 pd2 pr2 yr2 W2 ++ (obj X Bk Br :: (o, .inl (cJ, 1, .inr (.inl f0))) :: R)))) H1 := hP.kept (fun k q hk => hk9 q.1 ((hP k q hk).lt) (Nat.not_le.mpr ((hP k q hk).lt)))
  refine vx_catch (own := RL) (name := xIS) hown [⟨0, 9, 12, 13⟩] ⟨0, 9, 15, 24⟩ [] htab (fun z hz => by cases List.mem_singleton.mp hz; exact Or.inr ⟨by decide, xIO, hts (.classLink RL 13 xIO) (by decide +kernel), hKX.2.1.2.2.1⟩) rfl (by decide) (hts (.classLink RL 24 xIS) (by decide +kernel)) (va_Nw.use rfl hKX.1.1.2.2) hce hcv hcl ?_
  refine W.eq (g2 := F0 m 15 ls [.ref q9]) rfl ?_
  have hP := hP1
  have hS := hS1
  refine lv_astore_n (lv' := [(3, .ref q9), (0, .ref (X 0)), (1, .int (nI k)), (2, .ref o)]) hx hb dL_die_15 rfl hl (by decide) rfl (fun ls hl => ?_)
  refine lv_iconst (v := 2) hx hb dL_die_16 (by decide) ?_
  have hP9 : va_P (dC, dI) vwCl (tab cI X d r ++ (bk cW X Bk n ch pd pr yr Wd ++ (bk cW X Br n2 ch2 pd2 pr2 yr2 W2 ++ (obj X Bk Br :: (o, .inl (cJ, 1, .inr (.inl f0))) :: R)))) _ := hP
  have hD9 : va_D A (tab cI X d r ++ (bk cW X Bk n ch pd pr yr Wd ++ (bk cW X Br n2 ch2 pd2 pr2 yr2 W2 ++ (obj X Bk Br :: (o, .inl (cJ, 1, .inr (.inl f0))) :: R)))) := hD
  have hz : (2 : Int32) = 2 := rfl
  exact W.iret (v := 2) hx hb hr (fun t ht hW => ⟨⟨_, (), rfl, hz, by rw [ht]; exact hP9, by rw [hAe]; exact hD9⟩, by rw [hAe]; exact hS.F ht⟩) hS.2.2 dL_die_17
set_option maxHeartbeats 4000000 in
set_option maxRecDepth 100000 in
theorem met_L_giveUp (l : Launch) (dC : Nat → ClassId) (dI : Nat → Nat → Nat) (cI cW : ClassId) (cJ : ClassId) (o : Nat) (f0 : Nat → Int64) (X Bk Br : Nat → Nat) (d r : Nat → Int32) (n : Nat) (ch pd pr yr : Int32) (Wd : Nat → Nat → Int32) (n2 : Nat) (ch2 pd2 pr2 yr2 : Int32) (W2 : Nat → Nat → Int32) (R : va_W) (hn : n ≤ 10) (hok : ∀ k, k < n → okW (Wd k)) (k : Nat) (hk : k < n) (hcan : Wd k 4 = 0 ∧ 2 ≤ Wd k 3) (hi : ¬ (1000 : Int32) + r 0 = 0) (hi0 : ¬ r 0 < 0) (sz : Nat) : Met l yL_giveUp wsL_giveUp ({ frames := 8, cells := 0, slots := 0, locals := 156 }) (PreL dC dI cI cW cJ [.ref (X 0), .int (nI k), .ref o] (tab cI X d r ++ (bk cW X Bk n ch pd pr yr Wd ++ (bk cW X Br n2 ch2 pd2 pr2 yr2 W2 ++ (obj X Bk Br :: (o, .inl (cJ, 1, .inr (.inl f0))) :: R)))) sz) (Qi1 dC dI (fun z => z = 0) (tab cI X d r ++ (bk cW X Bk n ch pd pr yr Wd ++ (bk cW X Br n2 ch2 pd2 pr2 yr2 W2 ++ (obj X Bk Br :: (o, .inl (cJ, 1, .inr (.inl f0))) :: R)))) (tab cI X d r ++ (bk cW X Bk n (ch - backS d r (Wd k)) (pd + backS d r (Wd k)) pr yr (upW Wd k (upd (upd (Wd k) 4 2) 5 (Wd k 5 + backS d r (Wd k)))) ++ (bk cW X Br n2 ch2 pd2 pr2 yr2 W2 ++ (obj X Bk Br :: (o, .inl (cJ, 1, .inr (.inl (vp_updL f0 0 (backS d r (Wd k)).toInt64)))) :: R)))) sz) 0 0 (va_A (tab cI X d r ++ (bk cW X Bk n ch pd pr yr Wd ++ (bk cW X Br n2 ch2 pd2 pr2 yr2 W2 ++ (obj X Bk Br :: (o, .inl (cJ, 1, .inr (.inl f0))) :: R)))) sz) := by
  refine met_ofWH (cc := cL_giveUp) (maxL := 4) (ret := (some .int)) (hh := [(0, 9, 12, 13), (0, 9, 15, 24)]) (by decide) rfl ?_
  intro p e s m args below meth c s₁ B hml hv
  obtain ⟨rfl, hsz, hP, hD0, hKK, hKJ, hKX⟩ := hv
  subst hsz
  have hx := B.exec
  have hb := B.bytes
  have hr := B.returns
  have hts := atoms_spec (ws := wsL_giveUp) B.pre
  have hown : s.vm.findClass RL = some m.cls := findClass_of_methodNamed B.named
  have hlocks := B.notSynchronized
  have hD := hD0.self (sz := s.heap.size)
  generalize hAe : va_A (tab cI X d r ++ (bk cW X Bk n ch pd pr yr Wd ++ (bk cW X Br n2 ch2 pd2 pr2 yr2 W2 ++ (obj X Bk Br :: (o, .inl (cJ, 1, .inr (.inl f0))) :: R)))) s.heap.size = A at hD ⊢
  have hA : ∀ q : Nat, s.heap.size ≤ q → A q := fun q h => by rw [← hAe]; exact Or.inr h
  have hS : va_S A s.heap s.heap [] := va_S.rf
  have hl := lv_entry ([.ref (X 0), .int (nI k), .ref o]) (n := 4) (Nat.le_of_ble_eq_true rfl)
  rw [lg_entry_eq]
  generalize (lg_sl ([.ref (X 0), .int (nI k), .ref o]) ++ List.replicate (4 - (lg_sl ([.ref (X 0), .int (nI k), .ref o])).length) Slot.unset).toArray = ls at hl ⊢
  have hl : lv_has ls 4 [(0, .ref (X 0)), (1, .int (nI k)), (2, .ref o)] := hl
  refine lv_aload_n hx hb dL_giveUp_0 rfl (lv_at hl 2 rfl) ?_
  refine lv_iconst (v := 0) hx hb dL_giveUp_1 (by decide) ?_
  refine lv_aload_n hx hb dL_giveUp_2 rfl (lv_at hl 0 rfl) ?_
  refine lv_iload_n hx hb dL_giveUp_3 rfl (lv_at hl 1 rfl) ?_
  refine wr_i (runV1 (As := [.int (nI k)]) (rest := [.int 0, .ref o]) ⟨hx, hb, hml, hown, hts⟩ (met_X3_giveUp l dC dI cI cW X Bk Br d r n ch pd pr yr Wd n2 ch2 pd2 pr2 yr2 W2 ((o, .inl (cJ, 1, .inr (.inl f0))) :: R) hn hok k hk hcan hi hi0 _) (cwV 1 hts gL_giveUp_X3_giveUp rfl rfl rfl (by decide +kernel) ⟨Nat.le_of_ble_eq_true rfl, Nat.le_of_ble_eq_true rfl⟩) hKK hP hD 3 27 rfl cw_obj rfl hl.1 (Nat.le_of_ble_eq_true rfl) rfl dL_giveUp_4 ⟨Nat.zero_le _, Nat.zero_le _⟩) hD hS hA (fun r_1 H locs hr_1 hP hD hS => ?_)
  subst hr_1
  have hP : va_P (dC, dI) vwCl (tab cI X d r ++ (bk cW X Bk n (ch - backS d r (Wd k)) (pd + backS d r (Wd k)) pr yr (upW Wd k (upd (upd (Wd k) 4 2) 5 (Wd k 5 + backS d r (Wd k)))) ++ (bk cW X Br n2 ch2 pd2 pr2 yr2 W2 ++ (obj X Bk Br :: (o, .inl (cJ, 1, .inr (.inl f0))) :: R)))) H := hP
  have hD : va_D A (tab cI X d r ++ (bk cW X Bk n (ch - backS d r (Wd k)) (pd + backS d r (Wd k)) pr yr (upW Wd k (upd (upd (Wd k) 4 2) 5 (Wd k 5 + backS d r (Wd k)))) ++ (bk cW X Br n2 ch2 pd2 pr2 yr2 W2 ++ (obj X Bk Br :: (o, .inl (cJ, 1, .inr (.inl f0))) :: R)))) := hD
  refine lv_i2l hx hb dL_giveUp_7 rfl ?_
  refine va_last hx hb hKJ hP hD hS (27 + 1) 0 (cw_at rfl) rfl (vp_in_nI (n := 0) (by omega) (by omega)) dL_giveUp_8 (fun H locs hP hD hS => ?_)
  rw [cw_aset] at hP hD
  refine lv_goto (tgt := 18) hx hb dL_giveUp_9 (by decide) ?_
  refine lv_iconst (v := 0) hx hb dL_giveUp_18 (by decide) ?_
  have hP9 : va_P (dC, dI) vwCl (tab cI X d r ++ (bk cW X Bk n (ch - backS d r (Wd k)) (pd + backS d r (Wd k)) pr yr (upW Wd k (upd (upd (Wd k) 4 2) 5 (Wd k 5 + backS d r (Wd k)))) ++ (bk cW X Br n2 ch2 pd2 pr2 yr2 W2 ++ (obj X Bk Br :: (o, .inl (cJ, 1, .inr (.inl (vp_updL f0 0 (backS d r (Wd k)).toInt64)))) :: R)))) _ := hP
  have hD9 : va_D A (tab cI X d r ++ (bk cW X Bk n (ch - backS d r (Wd k)) (pd + backS d r (Wd k)) pr yr (upW Wd k (upd (upd (Wd k) 4 2) 5 (Wd k 5 + backS d r (Wd k)))) ++ (bk cW X Br n2 ch2 pd2 pr2 yr2 W2 ++ (obj X Bk Br :: (o, .inl (cJ, 1, .inr (.inl (vp_updL f0 0 (backS d r (Wd k)).toInt64)))) :: R)))) := hD
  have hz : (0 : Int32) = 0 := rfl
  exact W.iret (v := 0) hx hb hr (fun t ht hW => ⟨⟨_, (), rfl, hz, by rw [ht]; exact hP9, by rw [hAe]; exact hD9⟩, by rw [hAe]; exact hS.F ht⟩) hS.2.2 dL_giveUp_19
set_option maxHeartbeats 4000000 in
set_option maxRecDepth 100000 in
theorem bad1_L_giveUp (l : Launch) (dC : Nat → ClassId) (dI : Nat → Nat → Nat) (cI cW : ClassId) (hl0 : l.stackTraces = false) (cJ : ClassId) (o : Nat) (f0 : Nat → Int64) (X Bk Br : Nat → Nat) (d r : Nat → Int32) (n : Nat) (ch pd pr yr : Int32) (Wd : Nat → Nat → Int32) (n2 : Nat) (ch2 pd2 pr2 yr2 : Int32) (W2 : Nat → Nat → Int32) (R : va_W) (a : Int32) (h9 : ¬ (0 ≤ a ∧ a < nI n)) (sz : Nat) : Met l yL_giveUp wsL_giveUp ({ frames := 8, cells := 1, slots := 6, locals := 156 }) (PreL dC dI cI cW cJ [.ref (X 0), .int a, .ref o] (tab cI X d r ++ (bk cW X Bk n ch pd pr yr Wd ++ (bk cW X Br n2 ch2 pd2 pr2 yr2 W2 ++ (obj X Bk Br :: (o, .inl (cJ, 1, .inr (.inl f0))) :: R)))) sz) (Qi1 dC dI (fun z => z = 1) (tab cI X d r ++ (bk cW X Bk n ch pd pr yr Wd ++ (bk cW X Br n2 ch2 pd2 pr2 yr2 W2 ++ (obj X Bk Br :: (o, .inl (cJ, 1, .inr (.inl f0))) :: R)))) (tab cI X d r ++ (bk cW X Bk n ch pd pr yr Wd ++ (bk cW X Br n2 ch2 pd2 pr2 yr2 W2 ++ (obj X Bk Br :: (o, .inl (cJ, 1, .inr (.inl f0))) :: R)))) sz) 1 6 (va_A (tab cI X d r ++ (bk cW X Bk n ch pd pr yr Wd ++ (bk cW X Br n2 ch2 pd2 pr2 yr2 W2 ++ (obj X Bk Br :: (o, .inl (cJ, 1, .inr (.inl f0))) :: R)))) sz) := by
  refine met_ofWH (cc := cL_giveUp) (maxL := 4) (ret := (some .int)) (hh := [(0, 9, 12, 13), (0, 9, 15, 24)]) (by decide) rfl ?_
  intro p e s m args below meth c s₁ B hml hv
  obtain ⟨rfl, hsz, hP, hD0, hKK, hKJ, hKX⟩ := hv
  subst hsz
  have hx := B.exec
  have hb := B.bytes
  have hr := B.returns
  have hts := atoms_spec (ws := wsL_giveUp) B.pre
  have hown : s.vm.findClass RL = some m.cls := findClass_of_methodNamed B.named
  have hlocks := B.notSynchronized
  have hD := hD0.self (sz := s.heap.size)
  generalize hAe : va_A (tab cI X d r ++ (bk cW X Bk n ch pd pr yr Wd ++ (bk cW X Br n2 ch2 pd2 pr2 yr2 W2 ++ (obj X Bk Br :: (o, .inl (cJ, 1, .inr (.inl f0))) :: R)))) s.heap.size = A at hD ⊢
  have hA : ∀ q : Nat, s.heap.size ≤ q → A q := fun q h => by rw [← hAe]; exact Or.inr h
  have hS : va_S A s.heap s.heap [] := va_S.rf
  have hl := lv_entry ([.ref (X 0), .int a, .ref o]) (n := 4) (Nat.le_of_ble_eq_true rfl)
  rw [lg_entry_eq]
  generalize (lg_sl ([.ref (X 0), .int a, .ref o]) ++ List.replicate (4 - (lg_sl ([.ref (X 0), .int a, .ref o])).length) Slot.unset).toArray = ls at hl ⊢
  have hl : lv_has ls 4 [(0, .ref (X 0)), (1, .int a), (2, .ref o)] := hl
  refine lv_aload_n hx hb dL_giveUp_0 rfl (lv_at hl 2 rfl) ?_
  refine lv_iconst (v := 0) hx hb dL_giveUp_1 (by decide) ?_
  refine lv_aload_n hx hb dL_giveUp_2 rfl (lv_at hl 0 rfl) ?_
  refine lv_iload_n hx hb dL_giveUp_3 rfl (lv_at hl 1 rfl) ?_
  have htab : c.exceptionTable.toList = [⟨0, 9, 12, 13⟩, ⟨0, 9, 15, 24⟩] := vx_table (x := yL_giveUp) B (hts (.codeWith yL_giveUp cL_giveUp 4 (some .int) [(0, 9, 12, 13), (0, 9, 15, 24)]) (by unfold wsL_giveUp; exact List.mem_cons_self))
  refine vx_calli (vx_runV (As := [.int a]) (rest := [.int 0, .ref o]) ⟨hx, hb, hml, hown, hts⟩ (bad1_X3_giveUp l hl0 dC dI cI cW X Bk Br d r n ch pd pr yr Wd n2 ch2 pd2 pr2 yr2 W2 ((o, .inl (cJ, 1, .inr (.inl f0))) :: R) a h9 _) (cwV 1 hts gL_giveUp_X3_giveUp rfl rfl rfl (by decide +kernel) ⟨Nat.le_of_ble_eq_true rfl, Nat.le_of_ble_eq_true rfl⟩) ⟨PreX_blind, va_recv (q := (RX3, TX3, 3)) hKK.1 hP rfl cw_obj, fun U hU hW => ⟨rfl, by rw [hU], by rw [hU]; exact hP, hKK.warm hW, by rw [hU]; exact hKX.warm hW⟩⟩ rfl rfl hl.1 rfl (lv_room (Nat.le_of_ble_eq_true rfl)) dL_giveUp_4 ⟨Nat.le_of_ble_eq_true rfl, Nat.le_of_ble_eq_true rfl⟩) hS (fun q _ h => hA q h) (fun q h => hA q h) (fun q _ h => hA q h) (fun E ce q9 u t H1 locs1 ht1 hvm hpx hBX hz hk9 hS1 hce hcv hcl => ?_) (fun r u t H1 locs1 _ _ hw => hw.elim)
  subst hBX
  have hP1 : va_P (dC, dI) vwCl (tab cI X d r ++ (bk cW X Bk n ch pd pr yr Wd ++ (bk cW X Br n2 ch2 pd2 pr2 yr2 W2 ++ (obj X Bk Br :: (o, .inl (cJ, 1, .inr (.inl f0))) :: R)))) H1 := hP.kept (fun k q hk => hk9 q.1 ((hP k q hk).lt) (Nat.not_le.mpr ((hP k q hk).lt)))
  refine vx_catch (own := RL) (name := xIO) hown [] ⟨0, 9, 12, 13⟩ [⟨0, 9, 15, 24⟩] htab (fun z hz => nomatch hz) rfl (by decide) (hts (.classLink RL 13 xIO) (by decide +kernel)) (va_Nw.use rfl hKX.1.1.1) hce hcv hcl ?_
  refine W.eq (g2 := F0 m 12 ls [.ref q9]) rfl ?_
  have hP := hP1
  have hS := hS1
  refine lv_astore_n (lv' := [(3, .ref q9), (0, .ref (X 0)), (1, .int a), (2, .ref o)]) hx hb dL_giveUp_12 rfl hl (by decide) rfl (fun ls hl => ?_)
  refine lv_iconst (v := 1) hx hb dL_giveUp_13 (by decide) ?_
  have hP9 : va_P (dC, dI) vwCl (tab cI X d r ++ (bk cW X Bk n ch pd pr yr Wd ++ (bk cW X Br n2 ch2 pd2 pr2 yr2 W2 ++ (obj X Bk Br :: (o, .inl (cJ, 1, .inr (.inl f0))) :: R)))) _ := hP
  have hD9 : va_D A (tab cI X d r ++ (bk cW X Bk n ch pd pr yr Wd ++ (bk cW X Br n2 ch2 pd2 pr2 yr2 W2 ++ (obj X Bk Br :: (o, .inl (cJ, 1, .inr (.inl f0))) :: R)))) := hD
  have hz : (1 : Int32) = 1 := rfl
  exact W.iret (v := 1) hx hb hr (fun t ht hW => ⟨⟨_, (), rfl, hz, by rw [ht]; exact hP9, by rw [hAe]; exact hD9⟩, by rw [hAe]; exact hS.F ht⟩) hS.2.2 dL_giveUp_14
set_option maxHeartbeats 4000000 in
set_option maxRecDepth 100000 in
theorem bad2_L_giveUp (l : Launch) (dC : Nat → ClassId) (dI : Nat → Nat → Nat) (cI cW : ClassId) (hl0 : l.stackTraces = false) (cJ : ClassId) (o : Nat) (f0 : Nat → Int64) (X Bk Br : Nat → Nat) (d r : Nat → Int32) (n : Nat) (ch pd pr yr : Int32) (Wd : Nat → Nat → Int32) (n2 : Nat) (ch2 pd2 pr2 yr2 : Int32) (W2 : Nat → Nat → Int32) (R : va_W) (hn : n ≤ 10) (k : Nat) (hk : k < n) (h9 : ¬ (Wd k 4 = 0 ∧ 2 ≤ Wd k 3)) (sz : Nat) : Met l yL_giveUp wsL_giveUp ({ frames := 8, cells := 1, slots := 6, locals := 156 }) (PreL dC dI cI cW cJ [.ref (X 0), .int (nI k), .ref o] (tab cI X d r ++ (bk cW X Bk n ch pd pr yr Wd ++ (bk cW X Br n2 ch2 pd2 pr2 yr2 W2 ++ (obj X Bk Br :: (o, .inl (cJ, 1, .inr (.inl f0))) :: R)))) sz) (Qi1 dC dI (fun z => z = 2) (tab cI X d r ++ (bk cW X Bk n ch pd pr yr Wd ++ (bk cW X Br n2 ch2 pd2 pr2 yr2 W2 ++ (obj X Bk Br :: (o, .inl (cJ, 1, .inr (.inl f0))) :: R)))) (tab cI X d r ++ (bk cW X Bk n ch pd pr yr Wd ++ (bk cW X Br n2 ch2 pd2 pr2 yr2 W2 ++ (obj X Bk Br :: (o, .inl (cJ, 1, .inr (.inl f0))) :: R)))) sz) 1 6 (va_A (tab cI X d r ++ (bk cW X Bk n ch pd pr yr Wd ++ (bk cW X Br n2 ch2 pd2 pr2 yr2 W2 ++ (obj X Bk Br :: (o, .inl (cJ, 1, .inr (.inl f0))) :: R)))) sz) := by
  refine met_ofWH (cc := cL_giveUp) (maxL := 4) (ret := (some .int)) (hh := [(0, 9, 12, 13), (0, 9, 15, 24)]) (by decide) rfl ?_
  intro p e s m args below meth c s₁ B hml hv
  obtain ⟨rfl, hsz, hP, hD0, hKK, hKJ, hKX⟩ := hv
  subst hsz
  have hx := B.exec
  have hb := B.bytes
  have hr := B.returns
  have hts := atoms_spec (ws := wsL_giveUp) B.pre
  have hown : s.vm.findClass RL = some m.cls := findClass_of_methodNamed B.named
  have hlocks := B.notSynchronized
  have hD := hD0.self (sz := s.heap.size)
  generalize hAe : va_A (tab cI X d r ++ (bk cW X Bk n ch pd pr yr Wd ++ (bk cW X Br n2 ch2 pd2 pr2 yr2 W2 ++ (obj X Bk Br :: (o, .inl (cJ, 1, .inr (.inl f0))) :: R)))) s.heap.size = A at hD ⊢
  have hA : ∀ q : Nat, s.heap.size ≤ q → A q := fun q h => by rw [← hAe]; exact Or.inr h
  have hS : va_S A s.heap s.heap [] := va_S.rf
  have hl := lv_entry ([.ref (X 0), .int (nI k), .ref o]) (n := 4) (Nat.le_of_ble_eq_true rfl)
  rw [lg_entry_eq]
  generalize (lg_sl ([.ref (X 0), .int (nI k), .ref o]) ++ List.replicate (4 - (lg_sl ([.ref (X 0), .int (nI k), .ref o])).length) Slot.unset).toArray = ls at hl ⊢
  have hl : lv_has ls 4 [(0, .ref (X 0)), (1, .int (nI k)), (2, .ref o)] := hl
  refine lv_aload_n hx hb dL_giveUp_0 rfl (lv_at hl 2 rfl) ?_
  refine lv_iconst (v := 0) hx hb dL_giveUp_1 (by decide) ?_
  refine lv_aload_n hx hb dL_giveUp_2 rfl (lv_at hl 0 rfl) ?_
  refine lv_iload_n hx hb dL_giveUp_3 rfl (lv_at hl 1 rfl) ?_
  have htab : c.exceptionTable.toList = [⟨0, 9, 12, 13⟩, ⟨0, 9, 15, 24⟩] := vx_table (x := yL_giveUp) B (hts (.codeWith yL_giveUp cL_giveUp 4 (some .int) [(0, 9, 12, 13), (0, 9, 15, 24)]) (by unfold wsL_giveUp; exact List.mem_cons_self))
  refine vx_calli (vx_runV (As := [.int (nI k)]) (rest := [.int 0, .ref o]) ⟨hx, hb, hml, hown, hts⟩ (bad2_X3_giveUp l hl0 dC dI cI cW X Bk Br d r n ch pd pr yr Wd n2 ch2 pd2 pr2 yr2 W2 ((o, .inl (cJ, 1, .inr (.inl f0))) :: R) hn k hk h9 _) (cwV 1 hts gL_giveUp_X3_giveUp rfl rfl rfl (by decide +kernel) ⟨Nat.le_of_ble_eq_true rfl, Nat.le_of_ble_eq_true rfl⟩) ⟨PreX_blind, va_recv (q := (RX3, TX3, 3)) hKK.1 hP rfl cw_obj, fun U hU hW => ⟨rfl, by rw [hU], by rw [hU]; exact hP, hKK.warm hW, by rw [hU]; exact hKX.warm hW⟩⟩ rfl rfl hl.1 rfl (lv_room (Nat.le_of_ble_eq_true rfl)) dL_giveUp_4 ⟨Nat.le_of_ble_eq_true rfl, Nat.le_of_ble_eq_true rfl⟩) hS (fun q _ h => hA q h) (fun q h => hA q h) (fun q _ h => hA q h) (fun E ce q9 u t H1 locs1 ht1 hvm hpx hBX hz hk9 hS1 hce hcv hcl => ?_) (fun r u t H1 locs1 _ _ hw => hw.elim)
  subst hBX
  have hP1 : va_P (dC, dI) vwCl (tab cI X d r ++ (bk cW X Bk n ch pd pr yr Wd ++ (bk cW X Br n2 ch2 pd2 pr2 yr2 W2 ++ (obj X Bk Br :: (o, .inl (cJ, 1, .inr (.inl f0))) :: R)))) H1 := hP.kept (fun k q hk => hk9 q.1 ((hP k q hk).lt) (Nat.not_le.mpr ((hP k q hk).lt)))
  refine vx_catch (own := RL) (name := xIS) hown [⟨0, 9, 12, 13⟩] ⟨0, 9, 15, 24⟩ [] htab (fun z hz => by cases List.mem_singleton.mp hz; exact Or.inr ⟨by decide, xIO, hts (.classLink RL 13 xIO) (by decide +kernel), hKX.2.1.2.2.1⟩) rfl (by decide) (hts (.classLink RL 24 xIS) (by decide +kernel)) (va_Nw.use rfl hKX.1.1.2.2) hce hcv hcl ?_
  refine W.eq (g2 := F0 m 15 ls [.ref q9]) rfl ?_
  have hP := hP1
  have hS := hS1
  refine lv_astore_n (lv' := [(3, .ref q9), (0, .ref (X 0)), (1, .int (nI k)), (2, .ref o)]) hx hb dL_giveUp_15 rfl hl (by decide) rfl (fun ls hl => ?_)
  refine lv_iconst (v := 2) hx hb dL_giveUp_16 (by decide) ?_
  have hP9 : va_P (dC, dI) vwCl (tab cI X d r ++ (bk cW X Bk n ch pd pr yr Wd ++ (bk cW X Br n2 ch2 pd2 pr2 yr2 W2 ++ (obj X Bk Br :: (o, .inl (cJ, 1, .inr (.inl f0))) :: R)))) _ := hP
  have hD9 : va_D A (tab cI X d r ++ (bk cW X Bk n ch pd pr yr Wd ++ (bk cW X Br n2 ch2 pd2 pr2 yr2 W2 ++ (obj X Bk Br :: (o, .inl (cJ, 1, .inr (.inl f0))) :: R)))) := hD
  have hz : (2 : Int32) = 2 := rfl
  exact W.iret (v := 2) hx hb hr (fun t ht hW => ⟨⟨_, (), rfl, hz, by rw [ht]; exact hP9, by rw [hAe]; exact hD9⟩, by rw [hAe]; exact hS.F ht⟩) hS.2.2 dL_giveUp_17
set_option maxHeartbeats 4000000 in
set_option maxRecDepth 100000 in
theorem met_L_put (l : Launch) (dC : Nat → ClassId) (dI : Nat → Nat → Nat) (cI cW : ClassId) (cJ : ClassId) (o : Nat) (f0 : Nat → Int64) (X Bk Br : Nat → Nat) (d r : Nat → Int32) (n : Nat) (ch pd pr yr : Int32) (Wd : Nat → Nat → Int32) (n2 : Nat) (ch2 pd2 pr2 yr2 : Int32) (W2 : Nat → Nat → Int32) (R : va_W) (x : Int32) (h4 : -99999 ≤ x ∧ x ≤ 99999) (sz : Nat) : Met l yL_put wsL_put ({ frames := 2, cells := 0, slots := 0, locals := 43 }) (PreL dC dI cI cW cJ [.ref (X 0), .int x, .ref o] (tab cI X d r ++ (bk cW X Bk n ch pd pr yr Wd ++ (bk cW X Br n2 ch2 pd2 pr2 yr2 W2 ++ (obj X Bk Br :: (o, .inl (cJ, 1, .inr (.inl f0))) :: R)))) sz) (Qi1 dC dI (fun z => z = 0) (tab cI X d r ++ (bk cW X Bk n ch pd pr yr Wd ++ (bk cW X Br n2 ch2 pd2 pr2 yr2 W2 ++ (obj X Bk Br :: (o, .inl (cJ, 1, .inr (.inl f0))) :: R)))) (tab cI X d r ++ (bk cW X Bk n (takeS ch x) pd pr yr Wd ++ (bk cW X Br n2 ch2 pd2 pr2 yr2 W2 ++ (obj X Bk Br :: (o, .inl (cJ, 1, .inr (.inl (vp_updL f0 0 (takeS ch x).toInt64)))) :: R)))) sz) 0 0 (va_A (tab cI X d r ++ (bk cW X Bk n ch pd pr yr Wd ++ (bk cW X Br n2 ch2 pd2 pr2 yr2 W2 ++ (obj X Bk Br :: (o, .inl (cJ, 1, .inr (.inl f0))) :: R)))) sz) := by
  refine met_ofWH (cc := cL_put) (maxL := 4) (ret := (some .int)) (hh := [(0, 9, 12, 15)]) (by decide) rfl ?_
  intro p e s m args below meth c s₁ B hml hv
  obtain ⟨rfl, hsz, hP, hD0, hKK, hKJ, hKX⟩ := hv
  subst hsz
  have hx := B.exec
  have hb := B.bytes
  have hr := B.returns
  have hts := atoms_spec (ws := wsL_put) B.pre
  have hown : s.vm.findClass RL = some m.cls := findClass_of_methodNamed B.named
  have hlocks := B.notSynchronized
  have hD := hD0.self (sz := s.heap.size)
  generalize hAe : va_A (tab cI X d r ++ (bk cW X Bk n ch pd pr yr Wd ++ (bk cW X Br n2 ch2 pd2 pr2 yr2 W2 ++ (obj X Bk Br :: (o, .inl (cJ, 1, .inr (.inl f0))) :: R)))) s.heap.size = A at hD ⊢
  have hA : ∀ q : Nat, s.heap.size ≤ q → A q := fun q h => by rw [← hAe]; exact Or.inr h
  have hS : va_S A s.heap s.heap [] := va_S.rf
  have hl := lv_entry ([.ref (X 0), .int x, .ref o]) (n := 4) (Nat.le_of_ble_eq_true rfl)
  rw [lg_entry_eq]
  generalize (lg_sl ([.ref (X 0), .int x, .ref o]) ++ List.replicate (4 - (lg_sl ([.ref (X 0), .int x, .ref o])).length) Slot.unset).toArray = ls at hl ⊢
  have hl : lv_has ls 4 [(0, .ref (X 0)), (1, .int x), (2, .ref o)] := hl
  refine lv_aload_n hx hb dL_put_0 rfl (lv_at hl 2 rfl) ?_
  refine lv_iconst (v := 0) hx hb dL_put_1 (by decide) ?_
  refine lv_aload_n hx hb dL_put_2 rfl (lv_at hl 0 rfl) ?_
  refine lv_iload_n hx hb dL_put_3 rfl (lv_at hl 1 rfl) ?_
  refine wr_i (runV1 (As := [.int x]) (rest := [.int 0, .ref o]) ⟨hx, hb, hml, hown, hts⟩ (met_X3_put l dC dI cI cW X Bk Br d r n ch pd pr yr Wd n2 ch2 pd2 pr2 yr2 W2 ((o, .inl (cJ, 1, .inr (.inl f0))) :: R) x h4 _) (cwV 1 hts gL_put_X3_put rfl rfl rfl (by decide +kernel) ⟨Nat.le_of_ble_eq_true rfl, Nat.le_of_ble_eq_true rfl⟩) hKK hP hD 3 27 rfl cw_obj rfl hl.1 (Nat.le_of_ble_eq_true rfl) rfl dL_put_4 ⟨Nat.zero_le _, Nat.zero_le _⟩) hD hS hA (fun r_1 H locs hr_1 hP hD hS => ?_)
  subst hr_1
  have hP : va_P (dC, dI) vwCl (tab cI X d r ++ (bk cW X Bk n (takeS ch x) pd pr yr Wd ++ (bk cW X Br n2 ch2 pd2 pr2 yr2 W2 ++ (obj X Bk Br :: (o, .inl (cJ, 1, .inr (.inl f0))) :: R)))) H := hP
  have hD : va_D A (tab cI X d r ++ (bk cW X Bk n (takeS ch x) pd pr yr Wd ++ (bk cW X Br n2 ch2 pd2 pr2 yr2 W2 ++ (obj X Bk Br :: (o, .inl (cJ, 1, .inr (.inl f0))) :: R)))) := hD
  refine lv_i2l hx hb dL_put_7 rfl ?_
  refine va_last hx hb hKJ hP hD hS (27 + 1) 0 (cw_at rfl) rfl (vp_in_nI (n := 0) (by omega) (by omega)) dL_put_8 (fun H locs hP hD hS => ?_)
  rw [cw_aset] at hP hD
  refine lv_goto (tgt := 15) hx hb dL_put_9 (by decide) ?_
  refine lv_iconst (v := 0) hx hb dL_put_15 (by decide) ?_
  have hP9 : va_P (dC, dI) vwCl (tab cI X d r ++ (bk cW X Bk n (takeS ch x) pd pr yr Wd ++ (bk cW X Br n2 ch2 pd2 pr2 yr2 W2 ++ (obj X Bk Br :: (o, .inl (cJ, 1, .inr (.inl (vp_updL f0 0 (takeS ch x).toInt64)))) :: R)))) _ := hP
  have hD9 : va_D A (tab cI X d r ++ (bk cW X Bk n (takeS ch x) pd pr yr Wd ++ (bk cW X Br n2 ch2 pd2 pr2 yr2 W2 ++ (obj X Bk Br :: (o, .inl (cJ, 1, .inr (.inl (vp_updL f0 0 (takeS ch x).toInt64)))) :: R)))) := hD
  have hz : (0 : Int32) = 0 := rfl
  exact W.iret (v := 0) hx hb hr (fun t ht hW => ⟨⟨_, (), rfl, hz, by rw [ht]; exact hP9, by rw [hAe]; exact hD9⟩, by rw [hAe]; exact hS.F ht⟩) hS.2.2 dL_put_16
set_option maxHeartbeats 4000000 in
set_option maxRecDepth 100000 in
theorem bad1_L_put (l : Launch) (dC : Nat → ClassId) (dI : Nat → Nat → Nat) (cI cW : ClassId) (hl0 : l.stackTraces = false) (cJ : ClassId) (o : Nat) (f0 : Nat → Int64) (X Bk Br : Nat → Nat) (d r : Nat → Int32) (n : Nat) (ch pd pr yr : Int32) (Wd : Nat → Nat → Int32) (n2 : Nat) (ch2 pd2 pr2 yr2 : Int32) (W2 : Nat → Nat → Int32) (R : va_W) (x : Int32) (h9 : ¬ (-99999 ≤ x ∧ x ≤ 99999)) (sz : Nat) : Met l yL_put wsL_put ({ frames := 7, cells := 1, slots := 6, locals := 111 }) (PreL dC dI cI cW cJ [.ref (X 0), .int x, .ref o] (tab cI X d r ++ (bk cW X Bk n ch pd pr yr Wd ++ (bk cW X Br n2 ch2 pd2 pr2 yr2 W2 ++ (obj X Bk Br :: (o, .inl (cJ, 1, .inr (.inl f0))) :: R)))) sz) (Qi1 dC dI (fun z => z = 1) (tab cI X d r ++ (bk cW X Bk n ch pd pr yr Wd ++ (bk cW X Br n2 ch2 pd2 pr2 yr2 W2 ++ (obj X Bk Br :: (o, .inl (cJ, 1, .inr (.inl f0))) :: R)))) (tab cI X d r ++ (bk cW X Bk n ch pd pr yr Wd ++ (bk cW X Br n2 ch2 pd2 pr2 yr2 W2 ++ (obj X Bk Br :: (o, .inl (cJ, 1, .inr (.inl f0))) :: R)))) sz) 1 6 (va_A (tab cI X d r ++ (bk cW X Bk n ch pd pr yr Wd ++ (bk cW X Br n2 ch2 pd2 pr2 yr2 W2 ++ (obj X Bk Br :: (o, .inl (cJ, 1, .inr (.inl f0))) :: R)))) sz) := by
  refine met_ofWH (cc := cL_put) (maxL := 4) (ret := (some .int)) (hh := [(0, 9, 12, 15)]) (by decide) rfl ?_
  intro p e s m args below meth c s₁ B hml hv
  obtain ⟨rfl, hsz, hP, hD0, hKK, hKJ, hKX⟩ := hv
  subst hsz
  have hx := B.exec
  have hb := B.bytes
  have hr := B.returns
  have hts := atoms_spec (ws := wsL_put) B.pre
  have hown : s.vm.findClass RL = some m.cls := findClass_of_methodNamed B.named
  have hlocks := B.notSynchronized
  have hD := hD0.self (sz := s.heap.size)
  generalize hAe : va_A (tab cI X d r ++ (bk cW X Bk n ch pd pr yr Wd ++ (bk cW X Br n2 ch2 pd2 pr2 yr2 W2 ++ (obj X Bk Br :: (o, .inl (cJ, 1, .inr (.inl f0))) :: R)))) s.heap.size = A at hD ⊢
  have hA : ∀ q : Nat, s.heap.size ≤ q → A q := fun q h => by rw [← hAe]; exact Or.inr h
  have hS : va_S A s.heap s.heap [] := va_S.rf
  have hl := lv_entry ([.ref (X 0), .int x, .ref o]) (n := 4) (Nat.le_of_ble_eq_true rfl)
  rw [lg_entry_eq]
  generalize (lg_sl ([.ref (X 0), .int x, .ref o]) ++ List.replicate (4 - (lg_sl ([.ref (X 0), .int x, .ref o])).length) Slot.unset).toArray = ls at hl ⊢
  have hl : lv_has ls 4 [(0, .ref (X 0)), (1, .int x), (2, .ref o)] := hl
  refine lv_aload_n hx hb dL_put_0 rfl (lv_at hl 2 rfl) ?_
  refine lv_iconst (v := 0) hx hb dL_put_1 (by decide) ?_
  refine lv_aload_n hx hb dL_put_2 rfl (lv_at hl 0 rfl) ?_
  refine lv_iload_n hx hb dL_put_3 rfl (lv_at hl 1 rfl) ?_
  have htab : c.exceptionTable.toList = [⟨0, 9, 12, 15⟩] := vx_table (x := yL_put) B (hts (.codeWith yL_put cL_put 4 (some .int) [(0, 9, 12, 15)]) (by unfold wsL_put; exact List.mem_cons_self))
  refine vx_calli (vx_runV (As := [.int x]) (rest := [.int 0, .ref o]) ⟨hx, hb, hml, hown, hts⟩ (bad_X3_put l hl0 dC dI cI cW X Bk Br d r n ch pd pr yr Wd n2 ch2 pd2 pr2 yr2 W2 ((o, .inl (cJ, 1, .inr (.inl f0))) :: R) x h9 _) (cwV 1 hts gL_put_X3_put rfl rfl rfl (by decide +kernel) ⟨Nat.le_of_ble_eq_true rfl, Nat.le_of_ble_eq_true rfl⟩) ⟨PreX_blind, va_recv (q := (RX3, TX3, 3)) hKK.1 hP rfl cw_obj, fun U hU hW => ⟨rfl, by rw [hU], by rw [hU]; exact hP, hKK.warm hW, by rw [hU]; exact hKX.warm hW⟩⟩ rfl rfl hl.1 rfl (lv_room (Nat.le_of_ble_eq_true rfl)) dL_put_4 ⟨Nat.le_of_ble_eq_true rfl, Nat.le_of_ble_eq_true rfl⟩) hS (fun q _ h => hA q h) (fun q h => hA q h) (fun q _ h => hA q h) (fun E ce q9 u t H1 locs1 ht1 hvm hpx hBX hz hk9 hS1 hce hcv hcl => ?_) (fun r u t H1 locs1 _ _ hw => hw.elim)
  subst hBX
  have hP1 : va_P (dC, dI) vwCl (tab cI X d r ++ (bk cW X Bk n ch pd pr yr Wd ++ (bk cW X Br n2 ch2 pd2 pr2 yr2 W2 ++ (obj X Bk Br :: (o, .inl (cJ, 1, .inr (.inl f0))) :: R)))) H1 := hP.kept (fun k q hk => hk9 q.1 ((hP k q hk).lt) (Nat.not_le.mpr ((hP k q hk).lt)))
  refine vx_catch (own := RL) (name := xIA) hown [] ⟨0, 9, 12, 15⟩ [] htab (fun z hz => nomatch hz) rfl (by decide) (hts (.classLink RL 15 xIA) (by decide +kernel)) (va_Nw.use rfl hKX.1.1.2.1) hce hcv hcl ?_
  refine W.eq (g2 := F0 m 12 ls [.ref q9]) rfl ?_
  have hP := hP1
  have hS := hS1
  refine lv_astore_n (lv' := [(3, .ref q9), (0, .ref (X 0)), (1, .int x), (2, .ref o)]) hx hb dL_put_12 rfl hl (by decide) rfl (fun ls hl => ?_)
  refine lv_iconst (v := 1) hx hb dL_put_13 (by decide) ?_
  have hP9 : va_P (dC, dI) vwCl (tab cI X d r ++ (bk cW X Bk n ch pd pr yr Wd ++ (bk cW X Br n2 ch2 pd2 pr2 yr2 W2 ++ (obj X Bk Br :: (o, .inl (cJ, 1, .inr (.inl f0))) :: R)))) _ := hP
  have hD9 : va_D A (tab cI X d r ++ (bk cW X Bk n ch pd pr yr Wd ++ (bk cW X Br n2 ch2 pd2 pr2 yr2 W2 ++ (obj X Bk Br :: (o, .inl (cJ, 1, .inr (.inl f0))) :: R)))) := hD
  have hz : (1 : Int32) = 1 := rfl
  exact W.iret (v := 1) hx hb hr (fun t ht hW => ⟨⟨_, (), rfl, hz, by rw [ht]; exact hP9, by rw [hAe]; exact hD9⟩, by rw [hAe]; exact hS.F ht⟩) hS.2.2 dL_put_14
set_option maxHeartbeats 4000000 in
set_option maxRecDepth 100000 in
theorem met_L_worth (l : Launch) (dC : Nat → ClassId) (dI : Nat → Nat → Nat) (cI cW : ClassId) (cJ : ClassId) (o : Nat) (f0 : Nat → Int64) (X Bk Br : Nat → Nat) (d r : Nat → Int32) (n : Nat) (ch pd pr yr : Int32) (Wd : Nat → Nat → Int32) (n2 : Nat) (ch2 pd2 pr2 yr2 : Int32) (W2 : Nat → Nat → Int32) (R : va_W) (ka kb : Nat) (h1 : 50 ≤ ka) (h2 : ka ≤ 99) (h3 : kb ≤ 30) (hi : ¬ (1000 : Int32) + r 0 = 0) (hi0 : ¬ r 0 < 0) (sz : Nat) : Met l yL_worth wsL_worth ({ frames := 8, cells := 0, slots := 0, locals := 132 }) (PreL dC dI cI cW cJ [.ref (X 0), .int (nI ka), .int (nI kb), .ref o] (tab cI X d r ++ (bk cW X Bk n ch pd pr yr Wd ++ (bk cW X Br n2 ch2 pd2 pr2 yr2 W2 ++ (obj X Bk Br :: (o, .inl (cJ, 1, .inr (.inl f0))) :: R)))) sz) (Qi1 dC dI (fun z => z = 0) (tab cI X d r ++ (bk cW X Bk n ch pd pr yr Wd ++ (bk cW X Br n2 ch2 pd2 pr2 yr2 W2 ++ (obj X Bk Br :: (o, .inl (cJ, 1, .inr (.inl f0))) :: R)))) (tab cI X d r ++ (bk cW X Bk n ch pd pr yr Wd ++ (bk cW X Br n2 ch2 pd2 pr2 yr2 W2 ++ (obj X Bk Br :: (o, .inl (cJ, 1, .inr (.inl (vp_updL f0 0 (wN d (r 0) (100 - ka) kb).toInt64)))) :: R)))) sz) 0 0 (va_A (tab cI X d r ++ (bk cW X Bk n ch pd pr yr Wd ++ (bk cW X Br n2 ch2 pd2 pr2 yr2 W2 ++ (obj X Bk Br :: (o, .inl (cJ, 1, .inr (.inl f0))) :: R)))) sz) := by
  refine met_ofWH (cc := cL_worth) (maxL := 5) (ret := (some .int)) (hh := [(0, 10, 13, 15)]) (by decide) rfl ?_
  intro p e s m args below meth c s₁ B hml hv
  obtain ⟨rfl, hsz, hP, hD0, hKK, hKJ, hKX⟩ := hv
  subst hsz
  have hx := B.exec
  have hb := B.bytes
  have hr := B.returns
  have hts := atoms_spec (ws := wsL_worth) B.pre
  have hown : s.vm.findClass RL = some m.cls := findClass_of_methodNamed B.named
  have hlocks := B.notSynchronized
  have hD := hD0.self (sz := s.heap.size)
  generalize hAe : va_A (tab cI X d r ++ (bk cW X Bk n ch pd pr yr Wd ++ (bk cW X Br n2 ch2 pd2 pr2 yr2 W2 ++ (obj X Bk Br :: (o, .inl (cJ, 1, .inr (.inl f0))) :: R)))) s.heap.size = A at hD ⊢
  have hA : ∀ q : Nat, s.heap.size ≤ q → A q := fun q h => by rw [← hAe]; exact Or.inr h
  have hS : va_S A s.heap s.heap [] := va_S.rf
  have hl := lv_entry ([.ref (X 0), .int (nI ka), .int (nI kb), .ref o]) (n := 5) (Nat.le_of_ble_eq_true rfl)
  rw [lg_entry_eq]
  generalize (lg_sl ([.ref (X 0), .int (nI ka), .int (nI kb), .ref o]) ++ List.replicate (5 - (lg_sl ([.ref (X 0), .int (nI ka), .int (nI kb), .ref o])).length) Slot.unset).toArray = ls at hl ⊢
  have hl : lv_has ls 5 [(0, .ref (X 0)), (1, .int (nI ka)), (2, .int (nI kb)), (3, .ref o)] := hl
  refine lv_aload_n hx hb dL_worth_0 rfl (lv_at hl 3 rfl) ?_
  refine lv_iconst (v := 0) hx hb dL_worth_1 (by decide) ?_
  refine lv_aload_n hx hb dL_worth_2 rfl (lv_at hl 0 rfl) ?_
  refine lv_iload_n hx hb dL_worth_3 rfl (lv_at hl 1 rfl) ?_
  refine lv_iload_n hx hb dL_worth_4 rfl (lv_at hl 2 rfl) ?_
  refine rd_i (runV0 (As := [.int (nI ka), .int (nI kb)]) (rest := [.int 0, .ref o]) ⟨hx, hb, hml, hown, hts⟩ (met_X3_worth l dC dI cI cW X Bk Br d r n ch pd pr yr Wd n2 ch2 pd2 pr2 yr2 W2 ((o, .inl (cJ, 1, .inr (.inl f0))) :: R) ka kb h1 h2 h3 hi hi0) (cwV 2 hts gL_worth_X3_worth rfl rfl rfl (by decide +kernel) ⟨Nat.le_of_ble_eq_true rfl, Nat.le_of_ble_eq_true rfl⟩) hKK hP 3 27 rfl cw_obj rfl hl.1 (Nat.le_of_ble_eq_true rfl) rfl dL_worth_5 ⟨Nat.zero_le _, Nat.zero_le _⟩) (fun r_1 hr_1 => ?_)
  subst hr_1
  refine lv_i2l hx hb dL_worth_8 rfl ?_
  refine va_last hx hb hKJ hP hD hS (27 + 1) 0 (cw_at rfl) rfl (vp_in_nI (n := 0) (by omega) (by omega)) dL_worth_9 (fun H locs hP hD hS => ?_)
  rw [cw_aset] at hP hD
  refine lv_goto (tgt := 17) hx hb dL_worth_10 (by decide) ?_
  refine lv_iconst (v := 0) hx hb dL_worth_17 (by decide) ?_
  have hP9 : va_P (dC, dI) vwCl (tab cI X d r ++ (bk cW X Bk n ch pd pr yr Wd ++ (bk cW X Br n2 ch2 pd2 pr2 yr2 W2 ++ (obj X Bk Br :: (o, .inl (cJ, 1, .inr (.inl (vp_updL f0 0 (wN d (r 0) (100 - ka) kb).toInt64)))) :: R)))) _ := hP
  have hD9 : va_D A (tab cI X d r ++ (bk cW X Bk n ch pd pr yr Wd ++ (bk cW X Br n2 ch2 pd2 pr2 yr2 W2 ++ (obj X Bk Br :: (o, .inl (cJ, 1, .inr (.inl (vp_updL f0 0 (wN d (r 0) (100 - ka) kb).toInt64)))) :: R)))) := hD
  have hz : (0 : Int32) = 0 := rfl
  exact W.iret (v := 0) hx hb hr (fun t ht hW => ⟨⟨_, (), rfl, hz, by rw [ht]; exact hP9, by rw [hAe]; exact hD9⟩, by rw [hAe]; exact hS.F ht⟩) hS.2.2 dL_worth_18
set_option maxHeartbeats 4000000 in
set_option maxRecDepth 100000 in
theorem bad1_L_worth (l : Launch) (dC : Nat → ClassId) (dI : Nat → Nat → Nat) (cI cW : ClassId) (hl0 : l.stackTraces = false) (cJ : ClassId) (o : Nat) (f0 : Nat → Int64) (X Bk Br : Nat → Nat) (d r : Nat → Int32) (n : Nat) (ch pd pr yr : Int32) (Wd : Nat → Nat → Int32) (n2 : Nat) (ch2 pd2 pr2 yr2 : Int32) (W2 : Nat → Nat → Int32) (R : va_W) (a p9 : Int32) (h9 : ¬ ((50 ≤ a ∧ a ≤ 99) ∧ (0 ≤ p9 ∧ p9 ≤ 30))) (sz : Nat) : Met l yL_worth wsL_worth ({ frames := 8, cells := 1, slots := 6, locals := 132 }) (PreL dC dI cI cW cJ [.ref (X 0), .int a, .int p9, .ref o] (tab cI X d r ++ (bk cW X Bk n ch pd pr yr Wd ++ (bk cW X Br n2 ch2 pd2 pr2 yr2 W2 ++ (obj X Bk Br :: (o, .inl (cJ, 1, .inr (.inl f0))) :: R)))) sz) (Qi1 dC dI (fun z => z = 1) (tab cI X d r ++ (bk cW X Bk n ch pd pr yr Wd ++ (bk cW X Br n2 ch2 pd2 pr2 yr2 W2 ++ (obj X Bk Br :: (o, .inl (cJ, 1, .inr (.inl f0))) :: R)))) (tab cI X d r ++ (bk cW X Bk n ch pd pr yr Wd ++ (bk cW X Br n2 ch2 pd2 pr2 yr2 W2 ++ (obj X Bk Br :: (o, .inl (cJ, 1, .inr (.inl f0))) :: R)))) sz) 1 6 (va_A (tab cI X d r ++ (bk cW X Bk n ch pd pr yr Wd ++ (bk cW X Br n2 ch2 pd2 pr2 yr2 W2 ++ (obj X Bk Br :: (o, .inl (cJ, 1, .inr (.inl f0))) :: R)))) sz) := by
  refine met_ofWH (cc := cL_worth) (maxL := 5) (ret := (some .int)) (hh := [(0, 10, 13, 15)]) (by decide) rfl ?_
  intro p e s m args below meth c s₁ B hml hv
  obtain ⟨rfl, hsz, hP, hD0, hKK, hKJ, hKX⟩ := hv
  subst hsz
  have hx := B.exec
  have hb := B.bytes
  have hr := B.returns
  have hts := atoms_spec (ws := wsL_worth) B.pre
  have hown : s.vm.findClass RL = some m.cls := findClass_of_methodNamed B.named
  have hlocks := B.notSynchronized
  have hD := hD0.self (sz := s.heap.size)
  generalize hAe : va_A (tab cI X d r ++ (bk cW X Bk n ch pd pr yr Wd ++ (bk cW X Br n2 ch2 pd2 pr2 yr2 W2 ++ (obj X Bk Br :: (o, .inl (cJ, 1, .inr (.inl f0))) :: R)))) s.heap.size = A at hD ⊢
  have hA : ∀ q : Nat, s.heap.size ≤ q → A q := fun q h => by rw [← hAe]; exact Or.inr h
  have hS : va_S A s.heap s.heap [] := va_S.rf
  have hl := lv_entry ([.ref (X 0), .int a, .int p9, .ref o]) (n := 5) (Nat.le_of_ble_eq_true rfl)
  rw [lg_entry_eq]
  generalize (lg_sl ([.ref (X 0), .int a, .int p9, .ref o]) ++ List.replicate (5 - (lg_sl ([.ref (X 0), .int a, .int p9, .ref o])).length) Slot.unset).toArray = ls at hl ⊢
  have hl : lv_has ls 5 [(0, .ref (X 0)), (1, .int a), (2, .int p9), (3, .ref o)] := hl
  refine lv_aload_n hx hb dL_worth_0 rfl (lv_at hl 3 rfl) ?_
  refine lv_iconst (v := 0) hx hb dL_worth_1 (by decide) ?_
  refine lv_aload_n hx hb dL_worth_2 rfl (lv_at hl 0 rfl) ?_
  refine lv_iload_n hx hb dL_worth_3 rfl (lv_at hl 1 rfl) ?_
  refine lv_iload_n hx hb dL_worth_4 rfl (lv_at hl 2 rfl) ?_
  have htab : c.exceptionTable.toList = [⟨0, 10, 13, 15⟩] := vx_table (x := yL_worth) B (hts (.codeWith yL_worth cL_worth 5 (some .int) [(0, 10, 13, 15)]) (by unfold wsL_worth; exact List.mem_cons_self))
  refine vx_calli (vx_runV (As := [.int a, .int p9]) (rest := [.int 0, .ref o]) ⟨hx, hb, hml, hown, hts⟩ (bad_X3_worth l hl0 dC dI cI cW X Bk Br d r n ch pd pr yr Wd n2 ch2 pd2 pr2 yr2 W2 ((o, .inl (cJ, 1, .inr (.inl f0))) :: R) a p9 h9 _) (cwV 2 hts gL_worth_X3_worth rfl rfl rfl (by decide +kernel) ⟨Nat.le_of_ble_eq_true rfl, Nat.le_of_ble_eq_true rfl⟩) ⟨PreX_blind, va_recv (q := (RX3, TX3, 3)) hKK.1 hP rfl cw_obj, fun U hU hW => ⟨rfl, by rw [hU], by rw [hU]; exact hP, hKK.warm hW, by rw [hU]; exact hKX.warm hW⟩⟩ rfl rfl hl.1 rfl (lv_room (Nat.le_of_ble_eq_true rfl)) dL_worth_5 ⟨Nat.le_of_ble_eq_true rfl, Nat.le_of_ble_eq_true rfl⟩) hS (fun q _ h => hA q h) (fun q h => hA q h) (fun q _ h => hA q h) (fun E ce q9 u t H1 locs1 ht1 hvm hpx hBX hz hk9 hS1 hce hcv hcl => ?_) (fun r u t H1 locs1 _ _ hw => hw.elim)
  subst hBX
  have hP1 : va_P (dC, dI) vwCl (tab cI X d r ++ (bk cW X Bk n ch pd pr yr Wd ++ (bk cW X Br n2 ch2 pd2 pr2 yr2 W2 ++ (obj X Bk Br :: (o, .inl (cJ, 1, .inr (.inl f0))) :: R)))) H1 := hP.kept (fun k q hk => hk9 q.1 ((hP k q hk).lt) (Nat.not_le.mpr ((hP k q hk).lt)))
  refine vx_catch (own := RL) (name := xIA) hown [] ⟨0, 10, 13, 15⟩ [] htab (fun z hz => nomatch hz) rfl (by decide) (hts (.classLink RL 15 xIA) (by decide +kernel)) (va_Nw.use rfl hKX.1.1.2.1) hce hcv hcl ?_
  refine W.eq (g2 := F0 m 13 ls [.ref q9]) rfl ?_
  have hP := hP1
  have hS := hS1
  refine lv_astore (lv' := [(4, .ref q9), (0, .ref (X 0)), (1, .int a), (2, .int p9), (3, .ref o)]) hx hb dL_worth_13 hl (by decide) rfl (fun ls hl => ?_)
  refine lv_iconst (v := 1) hx hb dL_worth_15 (by decide) ?_
  have hP9 : va_P (dC, dI) vwCl (tab cI X d r ++ (bk cW X Bk n ch pd pr yr Wd ++ (bk cW X Br n2 ch2 pd2 pr2 yr2 W2 ++ (obj X Bk Br :: (o, .inl (cJ, 1, .inr (.inl f0))) :: R)))) _ := hP
  have hD9 : va_D A (tab cI X d r ++ (bk cW X Bk n ch pd pr yr Wd ++ (bk cW X Br n2 ch2 pd2 pr2 yr2 W2 ++ (obj X Bk Br :: (o, .inl (cJ, 1, .inr (.inl f0))) :: R)))) := hD
  have hz : (1 : Int32) = 1 := rfl
  exact W.iret (v := 1) hx hb hr (fun t ht hW => ⟨⟨_, (), rfl, hz, by rw [ht]; exact hP9, by rw [hAe]; exact hD9⟩, by rw [hAe]; exact hS.F ht⟩) hS.2.2 dL_worth_16
