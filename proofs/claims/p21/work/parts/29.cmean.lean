set_option maxHeartbeats 4000000 in
set_option maxRecDepth 100000 in
theorem met_X3_mean (l : Launch) (dC : Nat → ClassId) (dI : Nat → Nat → Nat) (cI cW : ClassId) (X Bk Br : Nat → Nat) (d r : Nat → Int32) (n : Nat) (ch pd pr yr : Int32) (Wd : Nat → Nat → Int32) (n2 : Nat) (ch2 pd2 pr2 yr2 : Int32) (W2 : Nat → Nat → Int32) (R : va_W) (hn : n ≤ 10) (hok : ∀ k, k < n → okW (Wd k)) : Met l yX3_mean wsX3_mean ({ frames := 2, cells := 0, slots := 0, locals := 44 }) (Pre0 dC dI cI cW [.ref (X 0)] (tab cI X d r ++ (bk cW X Bk n ch pd pr yr Wd ++ (bk cW X Br n2 ch2 pd2 pr2 yr2 W2 ++ (obj X Bk Br :: R))))) (vp_Sd (fun z => z = meanS n Wd)) 0 0 (fun _ => False) := by
  refine Met.ofW (cc := cX3_mean) (maxL := 2) (ret := (some .double)) (by decide) rfl ?_
  intro p e s m args below meth c s₁ B hml hv
  obtain ⟨rfl, hP, hKK⟩ := hv
  have hx := B.exec
  have hb := B.bytes
  have hr := B.returns
  have hts := atoms_spec (ws := wsX3_mean) B.pre
  have hown : s.vm.findClass RX3 = some m.cls := findClass_of_methodNamed B.named
  have hlocks := B.notSynchronized
  have hl := lv_entry ([.ref (X 0)]) (n := 2) (Nat.le_of_ble_eq_true rfl)
  rw [lg_entry_eq]
  generalize (lg_sl ([.ref (X 0)]) ++ List.replicate (2 - (lg_sl ([.ref (X 0)])).length) Slot.unset).toArray = ls at hl ⊢
  have hl : lv_has ls 2 [(0, .ref (X 0))] := hl
  refine lv_aload_n hx hb dX3_mean_0 rfl (lv_at hl 0 rfl) ?_
  refine va_get (D := (dC, dI)) (ci := 3) (v := .ref (Bk 0)) (C := RX3) (T := TX3) (N := 3) hx hb hts (by decide +kernel) hown hKK.1 hP 27 cw_obj rfl 1 (by decide) (hts (.fieldLink RX3 21 "WidowPennies" "book" "LWidowPennies$Book;") (by decide +kernel)) (fun _ h9 => h9) rfl dX3_mean_1 ?_
  refine rd_i (runV0 (As := []) (rest := []) ⟨hx, hb, hml, hown, hts⟩ (met_X0_living l dC dI cI cW X Bk n ch pd pr yr Wd hn) (cwV 0 hts gX3_mean_X0_living rfl rfl rfl (by decide +kernel) ⟨Nat.le_of_ble_eq_true rfl, Nat.le_of_ble_eq_true rfl⟩) hKK (ws_left (ws_right hP)) 0 0 rfl rfl rfl hl.1 (Nat.le_of_ble_eq_true rfl) rfl dX3_mean_4 ⟨Nat.zero_le _, Nat.zero_le _⟩) (fun r_1 hr_1 => ?_)
  subst hr_1
  refine lv_istore_n (lv' := [(1, .int (sm (alvF Wd) n)), (0, .ref (X 0))]) hx hb dX3_mean_7 rfl hl (by decide) rfl (fun ls hl => ?_)
  refine lv_iload_n hx hb dX3_mean_8 rfl (lv_at hl 0 rfl) ?_
  refine lv_if_ne (tgt := 16) hx hb dX3_mean_9 (by decide) (fun c_2 => ?_) (fun c_2 => ?_)
  · refine lv_aload_n hx hb dX3_mean_16 rfl (lv_at hl 1 rfl) ?_
    refine va_get (D := (dC, dI)) (ci := 3) (v := .ref (Bk 0)) (C := RX3) (T := TX3) (N := 3) hx hb hts (by decide +kernel) hown hKK.1 hP 27 cw_obj rfl 1 (by decide) (hts (.fieldLink RX3 21 "WidowPennies" "book" "LWidowPennies$Book;") (by decide +kernel)) (fun _ h9 => h9) rfl dX3_mean_17 ?_
    refine rd_i (runV0 (As := []) (rest := []) ⟨hx, hb, hml, hown, hts⟩ (met_X0_agesOfLiving l dC dI cI cW X Bk n ch pd pr yr Wd hn) (cwV 0 hts gX3_mean_X0_agesOfLiving rfl rfl rfl (by decide +kernel) ⟨Nat.le_of_ble_eq_true rfl, Nat.le_of_ble_eq_true rfl⟩) hKK (ws_left (ws_right hP)) 0 0 rfl rfl rfl hl.1 (Nat.le_of_ble_eq_true rfl) rfl dX3_mean_20 ⟨Nat.zero_le _, Nat.zero_le _⟩) (fun r_3 hr_3 => ?_)
    subst hr_3
    refine lv_i2d hx hb dX3_mean_23 ?_
    refine lv_iload_n hx hb dX3_mean_24 rfl (lv_at hl 0 rfl) ?_
    refine lv_i2d hx hb dX3_mean_25 ?_
    refine lv_ddiv hx hb dX3_mean_26 (mean_no hn hok c_2) ?_
    have hz : (FP.ddiv (FP.i2d (sm (ageF Wd) n)) (FP.i2d (sm (alvF Wd) n)) : UInt64) = meanS n Wd := by rw [meanS, if_neg c_2]
    exact W.dret (v := (FP.ddiv (FP.i2d (sm (ageF Wd) n)) (FP.i2d (sm (alvF Wd) n)))) hx hb hr (fun t ht hW => ⟨_, rfl, hz, ht⟩) (fun q hq => absurd hq List.not_mem_nil) dX3_mean_27
  · refine lv_dconst0 hx hb dX3_mean_12 ?_
    refine lv_goto (tgt := 27) hx hb dX3_mean_13 (by decide) ?_
    have hz : (0 : UInt64) = meanS n Wd := by rw [meanS, if_pos c_2]
    exact W.dret (v := 0) hx hb hr (fun t ht hW => ⟨_, rfl, hz, ht⟩) (fun q hq => absurd hq List.not_mem_nil) dX3_mean_27
