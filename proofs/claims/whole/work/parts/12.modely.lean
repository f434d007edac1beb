set_option maxHeartbeats 4000000 in
set_option maxRecDepth 100000 in
theorem met_X4_widowTold (l : Launch) (dC : Nat → ClassId) (dI : Nat → Nat → Nat) (cI cW : ClassId) (M : Nat → Nat) (th : Int32) (n : Nat) (d r : Nat → Int32) (Wd : Nat → Nat → Int32) (ch pd yr : Int32) (k : Nat) (hk : k < 10) (hok : okW (Wd k)) (f : Nat) (hf : f < 9) : Met l yX4_widowTold wsX4_widowTold ({ frames := 4, cells := 0, slots := 0, locals := 85 }) (Pre0 dC dI cI cW [.ref (M 0), .int (nI k), .int (nI f)] (mw cI M th n d r Wd ch pd yr (WT d (r 0)))) (vp_Si (fun z => z = tellS d r (Wd k) f)) 0 0 (fun _ => False) := by
  refine Met.ofW (cc := cX4_widowTold) (maxL := 3) (ret := (some .int)) (by decide) rfl ?_
  intro p e s m args below meth c s₁ B hml hv
  obtain ⟨rfl, hP, hKK⟩ := hv
  have hx := B.exec
  have hb := B.bytes
  have hr := B.returns
  have hts := atoms_spec (ws := wsX4_widowTold) B.pre
  have hown : s.vm.findClass RX4 = some m.cls := findClass_of_methodNamed B.named
  have hlocks := B.notSynchronized
  have hl := lv_entry ([.ref (M 0), .int (nI k), .int (nI f)]) (n := 3) (Nat.le_of_ble_eq_true rfl)
  rw [lg_entry_eq]
  generalize (lg_sl ([.ref (M 0), .int (nI k), .int (nI f)]) ++ List.replicate (3 - (lg_sl ([.ref (M 0), .int (nI k), .int (nI f)])).length) Slot.unset).toArray = ls at hl ⊢
  have hl : lv_has ls 3 [(0, .ref (M 0)), (1, .int (nI k)), (2, .int (nI f))] := hl
  rcases (show f = 0 ∨ f = 1 ∨ f = 2 ∨ f = 3 ∨ f = 4 ∨ f = 5 ∨ f = 6 ∨ f = 7 ∨ f = 8 by omega) with rfl | rfl | rfl | rfl | rfl | rfl | rfl | rfl | rfl
  · refine lv_iload_n hx hb dX4_widowTold_0 rfl (lv_at hl 2 rfl) ?_
    refine lv_tableOut (tgt := 59) hx hb dX4_widowTold_1 (by decide) (by decide) ?_
    refine lv_aload_n hx hb dX4_widowTold_59 rfl (lv_at hl 0 rfl) ?_
    refine lv_iload_n hx hb dX4_widowTold_60 rfl (lv_at hl 1 rfl) ?_
    refine lv_iload_n hx hb dX4_widowTold_61 rfl (lv_at hl 2 rfl) ?_
    refine rd_i (runV0 (As := [.int (nI k), .int (nI 0)]) (rest := []) ⟨hx, hb, hml, hown, hts⟩ (met_X4_wi l dC dI cI cW M th n d r Wd ch pd yr (WT d (r 0)) k hk 0 (by omega)) (cwV 2 hts gX4_widowTold_X4_wi rfl rfl rfl (by decide +kernel) ⟨Nat.le_of_ble_eq_true rfl, Nat.le_of_ble_eq_true rfl⟩) hKK hP 4 0 rfl rfl rfl hl.1 (Nat.le_of_ble_eq_true rfl) rfl dX4_widowTold_62 ⟨Nat.zero_le _, Nat.zero_le _⟩) (fun r_1 hr_1 => ?_)
    subst hr_1
    have hz : Wd k 0 = tellS d r (Wd k) 0 := rfl
    exact W.iret (v := (Wd k 0)) hx hb hr (fun t ht hW => ⟨_, rfl, hz, ht⟩) (fun q hq => absurd hq List.not_mem_nil) dX4_widowTold_65
  · refine lv_iload_n hx hb dX4_widowTold_0 rfl (lv_at hl 2 rfl) ?_
    refine lv_tableOut (tgt := 59) hx hb dX4_widowTold_1 (by decide) (by decide) ?_
    refine lv_aload_n hx hb dX4_widowTold_59 rfl (lv_at hl 0 rfl) ?_
    refine lv_iload_n hx hb dX4_widowTold_60 rfl (lv_at hl 1 rfl) ?_
    refine lv_iload_n hx hb dX4_widowTold_61 rfl (lv_at hl 2 rfl) ?_
    refine rd_i (runV0 (As := [.int (nI k), .int (nI 1)]) (rest := []) ⟨hx, hb, hml, hown, hts⟩ (met_X4_wi l dC dI cI cW M th n d r Wd ch pd yr (WT d (r 0)) k hk 1 (by omega)) (cwV 2 hts gX4_widowTold_X4_wi rfl rfl rfl (by decide +kernel) ⟨Nat.le_of_ble_eq_true rfl, Nat.le_of_ble_eq_true rfl⟩) hKK hP 4 0 rfl rfl rfl hl.1 (Nat.le_of_ble_eq_true rfl) rfl dX4_widowTold_62 ⟨Nat.zero_le _, Nat.zero_le _⟩) (fun r_1 hr_1 => ?_)
    subst hr_1
    have hz : Wd k 1 = tellS d r (Wd k) 1 := rfl
    exact W.iret (v := (Wd k 1)) hx hb hr (fun t ht hW => ⟨_, rfl, hz, ht⟩) (fun q hq => absurd hq List.not_mem_nil) dX4_widowTold_65
  · refine lv_iload_n hx hb dX4_widowTold_0 rfl (lv_at hl 2 rfl) ?_
    refine lv_tableOut (tgt := 59) hx hb dX4_widowTold_1 (by decide) (by decide) ?_
    refine lv_aload_n hx hb dX4_widowTold_59 rfl (lv_at hl 0 rfl) ?_
    refine lv_iload_n hx hb dX4_widowTold_60 rfl (lv_at hl 1 rfl) ?_
    refine lv_iload_n hx hb dX4_widowTold_61 rfl (lv_at hl 2 rfl) ?_
    refine rd_i (runV0 (As := [.int (nI k), .int (nI 2)]) (rest := []) ⟨hx, hb, hml, hown, hts⟩ (met_X4_wi l dC dI cI cW M th n d r Wd ch pd yr (WT d (r 0)) k hk 2 (by omega)) (cwV 2 hts gX4_widowTold_X4_wi rfl rfl rfl (by decide +kernel) ⟨Nat.le_of_ble_eq_true rfl, Nat.le_of_ble_eq_true rfl⟩) hKK hP 4 0 rfl rfl rfl hl.1 (Nat.le_of_ble_eq_true rfl) rfl dX4_widowTold_62 ⟨Nat.zero_le _, Nat.zero_le _⟩) (fun r_1 hr_1 => ?_)
    subst hr_1
    have hz : Wd k 2 = tellS d r (Wd k) 2 := rfl
    exact W.iret (v := (Wd k 2)) hx hb hr (fun t ht hW => ⟨_, rfl, hz, ht⟩) (fun q hq => absurd hq List.not_mem_nil) dX4_widowTold_65
  · refine lv_iload_n hx hb dX4_widowTold_0 rfl (lv_at hl 2 rfl) ?_
    refine lv_tableOut (tgt := 59) hx hb dX4_widowTold_1 (by decide) (by decide) ?_
    refine lv_aload_n hx hb dX4_widowTold_59 rfl (lv_at hl 0 rfl) ?_
    refine lv_iload_n hx hb dX4_widowTold_60 rfl (lv_at hl 1 rfl) ?_
    refine lv_iload_n hx hb dX4_widowTold_61 rfl (lv_at hl 2 rfl) ?_
    refine rd_i (runV0 (As := [.int (nI k), .int (nI 3)]) (rest := []) ⟨hx, hb, hml, hown, hts⟩ (met_X4_wi l dC dI cI cW M th n d r Wd ch pd yr (WT d (r 0)) k hk 3 (by omega)) (cwV 2 hts gX4_widowTold_X4_wi rfl rfl rfl (by decide +kernel) ⟨Nat.le_of_ble_eq_true rfl, Nat.le_of_ble_eq_true rfl⟩) hKK hP 4 0 rfl rfl rfl hl.1 (Nat.le_of_ble_eq_true rfl) rfl dX4_widowTold_62 ⟨Nat.zero_le _, Nat.zero_le _⟩) (fun r_1 hr_1 => ?_)
    subst hr_1
    have hz : Wd k 3 = tellS d r (Wd k) 3 := rfl
    exact W.iret (v := (Wd k 3)) hx hb hr (fun t ht hW => ⟨_, rfl, hz, ht⟩) (fun q hq => absurd hq List.not_mem_nil) dX4_widowTold_65
  · refine lv_iload_n hx hb dX4_widowTold_0 rfl (lv_at hl 2 rfl) ?_
    refine lv_tableOut (tgt := 59) hx hb dX4_widowTold_1 (by decide) (by decide) ?_
    refine lv_aload_n hx hb dX4_widowTold_59 rfl (lv_at hl 0 rfl) ?_
    refine lv_iload_n hx hb dX4_widowTold_60 rfl (lv_at hl 1 rfl) ?_
    refine lv_iload_n hx hb dX4_widowTold_61 rfl (lv_at hl 2 rfl) ?_
    refine rd_i (runV0 (As := [.int (nI k), .int (nI 4)]) (rest := []) ⟨hx, hb, hml, hown, hts⟩ (met_X4_wi l dC dI cI cW M th n d r Wd ch pd yr (WT d (r 0)) k hk 4 (by omega)) (cwV 2 hts gX4_widowTold_X4_wi rfl rfl rfl (by decide +kernel) ⟨Nat.le_of_ble_eq_true rfl, Nat.le_of_ble_eq_true rfl⟩) hKK hP 4 0 rfl rfl rfl hl.1 (Nat.le_of_ble_eq_true rfl) rfl dX4_widowTold_62 ⟨Nat.zero_le _, Nat.zero_le _⟩) (fun r_1 hr_1 => ?_)
    subst hr_1
    have hz : Wd k 4 = tellS d r (Wd k) 4 := rfl
    exact W.iret (v := (Wd k 4)) hx hb hr (fun t ht hW => ⟨_, rfl, hz, ht⟩) (fun q hq => absurd hq List.not_mem_nil) dX4_widowTold_65
  · refine lv_iload_n hx hb dX4_widowTold_0 rfl (lv_at hl 2 rfl) ?_
    refine lv_tableIn (tgt := 32) (off := 31) hx hb dX4_widowTold_1 (by decide) (by decide) rfl (by decide) ?_
    refine lv_aload_n hx hb dX4_widowTold_32 rfl (lv_at hl 0 rfl) ?_
    refine lv_iload_n hx hb dX4_widowTold_33 rfl (lv_at hl 1 rfl) ?_
    refine rd_i (runV0 (As := [.int (nI k)]) (rest := []) ⟨hx, hb, hml, hown, hts⟩ (met_X4_kept l dC dI cI cW M th n d r Wd ch pd yr k hk hok) (cwV 1 hts gX4_widowTold_X4_kept rfl rfl rfl (by decide +kernel) ⟨Nat.le_of_ble_eq_true rfl, Nat.le_of_ble_eq_true rfl⟩) hKK hP 4 0 rfl rfl rfl hl.1 (Nat.le_of_ble_eq_true rfl) rfl dX4_widowTold_34 ⟨Nat.zero_le _, Nat.zero_le _⟩) (fun r_1 hr_1 => ?_)
    subst hr_1
    have hz : keptS d (r 0) (Wd k) = tellS d r (Wd k) 5 := rfl
    exact W.iret (v := (keptS d (r 0) (Wd k))) hx hb hr (fun t ht hW => ⟨_, rfl, hz, ht⟩) (fun q hq => absurd hq List.not_mem_nil) dX4_widowTold_37
  · refine lv_iload_n hx hb dX4_widowTold_0 rfl (lv_at hl 2 rfl) ?_
    refine lv_tableIn (tgt := 38) (off := 37) hx hb dX4_widowTold_1 (by decide) (by decide) rfl (by decide) ?_
    refine lv_aload_n hx hb dX4_widowTold_38 rfl (lv_at hl 0 rfl) ?_
    refine lv_iload_n hx hb dX4_widowTold_39 rfl (lv_at hl 1 rfl) ?_
    refine lv_iconst (v := 5) hx hb dX4_widowTold_40 (by decide) ?_
    refine rd_i (runV0 (As := [.int (nI k), .int 5]) (rest := []) ⟨hx, hb, hml, hown, hts⟩ (met_X4_wi l dC dI cI cW M th n d r Wd ch pd yr (WT d (r 0)) k hk 5 (by omega)) (cwV 2 hts gX4_widowTold_X4_wi rfl rfl rfl (by decide +kernel) ⟨Nat.le_of_ble_eq_true rfl, Nat.le_of_ble_eq_true rfl⟩) hKK hP 4 0 rfl rfl rfl hl.1 (Nat.le_of_ble_eq_true rfl) rfl dX4_widowTold_41 ⟨Nat.zero_le _, Nat.zero_le _⟩) (fun r_1 hr_1 => ?_)
    subst hr_1
    have hz : Wd k 5 = tellS d r (Wd k) 6 := rfl
    exact W.iret (v := (Wd k 5)) hx hb hr (fun t ht hW => ⟨_, rfl, hz, ht⟩) (fun q hq => absurd hq List.not_mem_nil) dX4_widowTold_44
  · refine lv_iload_n hx hb dX4_widowTold_0 rfl (lv_at hl 2 rfl) ?_
    refine lv_tableIn (tgt := 45) (off := 44) hx hb dX4_widowTold_1 (by decide) (by decide) rfl (by decide) ?_
    refine lv_aload_n hx hb dX4_widowTold_45 rfl (lv_at hl 0 rfl) ?_
    refine lv_iload_n hx hb dX4_widowTold_46 rfl (lv_at hl 1 rfl) ?_
    refine lv_bipush (v := 6) hx hb dX4_widowTold_47 (by decide) ?_
    refine rd_i (runV0 (As := [.int (nI k), .int 6]) (rest := []) ⟨hx, hb, hml, hown, hts⟩ (met_X4_wi l dC dI cI cW M th n d r Wd ch pd yr (WT d (r 0)) k hk 6 (by omega)) (cwV 2 hts gX4_widowTold_X4_wi rfl rfl rfl (by decide +kernel) ⟨Nat.le_of_ble_eq_true rfl, Nat.le_of_ble_eq_true rfl⟩) hKK hP 4 0 rfl rfl rfl hl.1 (Nat.le_of_ble_eq_true rfl) rfl dX4_widowTold_49 ⟨Nat.zero_le _, Nat.zero_le _⟩) (fun r_1 hr_1 => ?_)
    subst hr_1
    have hz : Wd k 6 = tellS d r (Wd k) 7 := rfl
    exact W.iret (v := (Wd k 6)) hx hb hr (fun t ht hW => ⟨_, rfl, hz, ht⟩) (fun q hq => absurd hq List.not_mem_nil) dX4_widowTold_52
  · refine lv_iload_n hx hb dX4_widowTold_0 rfl (lv_at hl 2 rfl) ?_
    refine lv_tableIn (tgt := 53) (off := 52) hx hb dX4_widowTold_1 (by decide) (by decide) rfl (by decide) ?_
    refine lv_aload_n hx hb dX4_widowTold_53 rfl (lv_at hl 0 rfl) ?_
    refine lv_iload_n hx hb dX4_widowTold_54 rfl (lv_at hl 1 rfl) ?_
    refine rd_i (runV0 (As := [.int (nI k)]) (rest := []) ⟨hx, hb, hml, hown, hts⟩ (met_X4_back l dC dI cI cW M th n d r Wd ch pd yr k hk hok) (cwV 1 hts gX4_widowTold_X4_back rfl rfl rfl (by decide +kernel) ⟨Nat.le_of_ble_eq_true rfl, Nat.le_of_ble_eq_true rfl⟩) hKK hP 4 0 rfl rfl rfl hl.1 (Nat.le_of_ble_eq_true rfl) rfl dX4_widowTold_55 ⟨Nat.zero_le _, Nat.zero_le _⟩) (fun r_1 hr_1 => ?_)
    subst hr_1
    have hz : backS d r (Wd k) = tellS d r (Wd k) 8 := rfl
    exact W.iret (v := (backS d r (Wd k))) hx hb hr (fun t ht hW => ⟨_, rfl, hz, ht⟩) (fun q hq => absurd hq List.not_mem_nil) dX4_widowTold_58
set_option maxHeartbeats 4000000 in
set_option maxRecDepth 100000 in
theorem met_X4_counted (l : Launch) (dC : Nat → ClassId) (dI : Nat → Nat → Nat) (cI cW : ClassId) (M : Nat → Nat) (th : Int32) (n : Nat) (d r : Nat → Int32) (Wd : Nat → Nat → Int32) (ch pd yr : Int32) (hn : n ≤ 10) (hok : ∀ k, k < n → okW (Wd k)) (k : Nat) (hk : k < 9) : Met l yX4_counted wsX4_counted ({ frames := 4, cells := 0, slots := 0, locals := 86 }) (Pre0 dC dI cI cW [.ref (M 0), .int (nI k)] (mw cI M th n d r Wd ch pd yr (WT d (r 0)))) (vp_Si (fun z => z = countS d r n ch pd (sm (prcF Wd) n) yr Wd k)) 0 0 (fun _ => False) := by
  refine Met.ofW (cc := cX4_counted) (maxL := 4) (ret := (some .int)) (by decide) rfl ?_
  intro p e s m args below meth c s₁ B hml hv
  obtain ⟨rfl, hP, hKK⟩ := hv
  have hx := B.exec
  have hb := B.bytes
  have hr := B.returns
  have hts := atoms_spec (ws := wsX4_counted) B.pre
  have hown : s.vm.findClass RX4 = some m.cls := findClass_of_methodNamed B.named
  have hlocks := B.notSynchronized
  have hl := lv_entry ([.ref (M 0), .int (nI k)]) (n := 4) (Nat.le_of_ble_eq_true rfl)
  rw [lg_entry_eq]
  generalize (lg_sl ([.ref (M 0), .int (nI k)]) ++ List.replicate (4 - (lg_sl ([.ref (M 0), .int (nI k)])).length) Slot.unset).toArray = ls at hl ⊢
  have hl : lv_has ls 4 [(0, .ref (M 0)), (1, .int (nI k))] := hl
  rcases (show k = 0 ∨ k = 1 ∨ k = 2 ∨ k = 3 ∨ k = 4 ∨ k = 5 ∨ k = 6 ∨ k = 7 ∨ k = 8 by omega) with rfl | rfl | rfl | rfl | rfl | rfl | rfl | rfl | rfl
  · refine lv_iconst (v := 0) hx hb dX4_counted_0 (by decide) ?_
    refine lv_istore_n (lv' := [(2, .int 0), (0, .ref (M 0)), (1, .int (nI 0))]) hx hb dX4_counted_1 rfl hl (by decide) rfl (fun ls hl => ?_)
    refine lv_iload_n hx hb dX4_counted_2 rfl (lv_at hl 2 rfl) ?_
    refine lv_tableIn (tgt := 48) (off := 45) hx hb dX4_counted_3 (by decide) (by decide) rfl (by decide) ?_
    refine lv_aload_n hx hb dX4_counted_48 rfl (lv_at hl 1 rfl) ?_
    refine va_get (D := (dC, dI)) (ci := 4) (v := .ref (M 4)) (C := RX4) (T := TX4) (N := 7) hx hb hts (by decide +kernel) hown hKK.1 hP 0 rfl rfl 5 (by decide) (hts (.fieldLink RX4 19 "WidowPenniesModel" "numbers" "[I") (by decide +kernel)) (fun _ h9 => h9) rfl dX4_counted_49 ?_
    refine lv_iconst (v := 0) hx hb dX4_counted_52 (by decide) ?_
    refine va_iald hx hb hKK.1 hP 4 0 rfl rfl (vp_in_nI (n := 0) (by omega) (by omega)) dX4_counted_53 ?_
    rw [show (numF yr ch pd) (0 : Int32).toNatClampNeg = (numF yr ch pd) 0 from rfl]
    rw [show ((numF yr ch pd) 0 : Int32) = yr from rfl]
    have hz : yr = countS d r n ch pd (sm (prcF Wd) n) yr Wd 0 := rfl
    exact W.iret (v := yr) hx hb hr (fun t ht hW => ⟨_, rfl, hz, ht⟩) (fun q hq => absurd hq List.not_mem_nil) dX4_counted_54
  · refine lv_iconst (v := 0) hx hb dX4_counted_0 (by decide) ?_
    refine lv_istore_n (lv' := [(2, .int 0), (0, .ref (M 0)), (1, .int (nI 1))]) hx hb dX4_counted_1 rfl hl (by decide) rfl (fun ls hl => ?_)
    refine lv_iload_n hx hb dX4_counted_2 rfl (lv_at hl 2 rfl) ?_
    refine lv_tableIn (tgt := 55) (off := 52) hx hb dX4_counted_3 (by decide) (by decide) rfl (by decide) ?_
    refine lv_aload_n hx hb dX4_counted_55 rfl (lv_at hl 1 rfl) ?_
    refine va_get (D := (dC, dI)) (ci := 4) (v := .int (nI n)) (C := RX4) (T := TX4) (N := 7) hx hb hts (by decide +kernel) hown hKK.1 hP 0 rfl rfl 1 (by decide) (hts (.fieldLink RX4 36 "WidowPenniesModel" "widows" "I") (by decide +kernel)) (fun _ h9 => h9) rfl dX4_counted_56 ?_
    have hz : nI n = countS d r n ch pd (sm (prcF Wd) n) yr Wd 1 := rfl
    exact W.iret (v := (nI n)) hx hb hr (fun t ht hW => ⟨_, rfl, hz, ht⟩) (fun q hq => absurd hq List.not_mem_nil) dX4_counted_59
  · have key : ∀ (m9 j : Nat), j + m9 = n → ∀ ls : Array Slot, lv_has ls 4 [(3, .int (nI j)), (2, .int (sm (alvF Wd) j)), (0, .ref (M 0)), (1, .int (nI 2))] → W p l e (headSpec wsX4_counted ({ frames := 4, cells := 0, slots := 0, locals := 86 })).room s m (([.ref (M 0), .int (nI 2)] : List Value).toArray) below meth c s.heap [] 0 0 (MQ below (vp_Si (fun z => z = countS d r n ch pd (sm (prcF Wd) n) yr Wd 2)) ([.ref (M 0), .int (nI 2)] : List Value).toArray s 0 0 (fun _ => False)) (F0 m 62 ls []) := by
      intro m9
      induction m9 with
      | zero =>
        intro j hj ls hl
        refine lv_iload_n hx hb dX4_counted_62 rfl (lv_at hl 0 rfl) ?_
        refine lv_aload_n hx hb dX4_counted_63 rfl (lv_at hl 2 rfl) ?_
        refine va_get (D := (dC, dI)) (ci := 4) (v := .int (nI n)) (C := RX4) (T := TX4) (N := 7) hx hb hts (by decide +kernel) hown hKK.1 hP 0 rfl rfl 1 (by decide) (hts (.fieldLink RX4 36 "WidowPenniesModel" "widows" "I") (by decide +kernel)) (fun _ h9 => h9) rfl dX4_counted_64 ?_
        refine lv_icmp_ge (tgt := 92) hx hb dX4_counted_67 (by decide) (fun c_1 => ?_) (fun c_1 => ?_)
        · refine lv_iload_n hx hb dX4_counted_92 rfl (lv_at hl 1 rfl) ?_
          have hz : sm (alvF Wd) j = countS d r n ch pd (sm (prcF Wd) n) yr Wd 2 := by rw [show j = n by omega]; rfl
          exact W.iret (v := (sm (alvF Wd) j)) hx hb hr (fun t ht hW => ⟨_, rfl, hz, ht⟩) (fun q hq => absurd hq List.not_mem_nil) dX4_counted_93
        · exact absurd ((le_nI (by omega)).mpr (by omega)) c_1
      | succ m9 ih =>
        intro j hj ls hl
        have hj10 : j < 10 := by omega
        refine lv_iload_n hx hb dX4_counted_62 rfl (lv_at hl 0 rfl) ?_
        refine lv_aload_n hx hb dX4_counted_63 rfl (lv_at hl 2 rfl) ?_
        refine va_get (D := (dC, dI)) (ci := 4) (v := .int (nI n)) (C := RX4) (T := TX4) (N := 7) hx hb hts (by decide +kernel) hown hKK.1 hP 0 rfl rfl 1 (by decide) (hts (.fieldLink RX4 36 "WidowPenniesModel" "widows" "I") (by decide +kernel)) (fun _ h9 => h9) rfl dX4_counted_64 ?_
        refine lv_icmp_ge (tgt := 92) hx hb dX4_counted_67 (by decide) (fun c_1 => ?_) (fun c_1 => ?_)
        · exact absurd c_1 (fun q => absurd ((le_nI (by omega)).mp q) (by omega))
        · refine lv_iload_n hx hb dX4_counted_70 rfl (lv_at hl 1 rfl) ?_
          refine lv_aload_n hx hb dX4_counted_71 rfl (lv_at hl 2 rfl) ?_
          refine lv_iload_n hx hb dX4_counted_72 rfl (lv_at hl 0 rfl) ?_
          refine rd_i (runV0 (As := [.int (nI j)]) (rest := [.int (sm (alvF Wd) j)]) ⟨hx, hb, hml, hown, hts⟩ (met_X4_isAlive l dC dI cI cW M th n d r Wd ch pd yr (WT d (r 0)) j hj10) (cwV 1 hts gX4_counted_X4_isAlive rfl rfl rfl (by decide +kernel) ⟨Nat.le_of_ble_eq_true rfl, Nat.le_of_ble_eq_true rfl⟩) hKK hP 4 0 rfl rfl rfl hl.1 (Nat.le_of_ble_eq_true rfl) rfl dX4_counted_73 ⟨Nat.zero_le _, Nat.zero_le _⟩) (fun r_2 hr_2 => ?_)
          subst hr_2
          refine lv_if_eq (tgt := 83) hx hb dX4_counted_76 (by decide) (fun c_3 => ?_) (fun c_3 => ?_)
          · have bc_3 : ¬ (Wd j 4 = 0) := b0.mp c_3
            have hno := bc_3
            refine lv_iconst (v := 0) hx hb dX4_counted_83 (by decide) ?_
            refine lv_iadd hx hb dX4_counted_84 ?_
            rw [show ((sm (alvF Wd) j) + 0 : Int32) = sm (alvF Wd) (j + 1) from by simp [sm, alvF, hno]]
            refine lv_istore_n (lv' := [(2, .int (sm (alvF Wd) (j + 1))), (3, .int (nI j)), (0, .ref (M 0)), (1, .int (nI 2))]) hx hb dX4_counted_85 rfl hl (by decide) rfl (fun ls hl => ?_)
            refine lv_iinc (v := (nI (j + 1))) (lv' := [(3, .int (nI (j + 1))), (2, .int (sm (alvF Wd) (j + 1))), (0, .ref (M 0)), (1, .int (nI 2))]) hx hb dX4_counted_86 hl (k := 1) rfl (nI_1 j) (by decide) rfl (fun ls hl => ?_)
            refine lv_goto (tgt := 62) hx hb dX4_counted_89 (by decide) ?_
            exact ih (j + 1) (by omega) ls (lv_sub hl [0, 1, 2, 3] rfl)
          · have bc_3 : Wd j 4 = 0 := b1.mp c_3
            have hal := bc_3
            refine lv_iconst (v := 1) hx hb dX4_counted_79 (by decide) ?_
            refine lv_goto (tgt := 84) hx hb dX4_counted_80 (by decide) ?_
            refine lv_iadd hx hb dX4_counted_84 ?_
            rw [show ((sm (alvF Wd) j) + 1 : Int32) = sm (alvF Wd) (j + 1) from by simp [sm, alvF, hal]]
            refine lv_istore_n (lv' := [(2, .int (sm (alvF Wd) (j + 1))), (3, .int (nI j)), (0, .ref (M 0)), (1, .int (nI 2))]) hx hb dX4_counted_85 rfl hl (by decide) rfl (fun ls hl => ?_)
            refine lv_iinc (v := (nI (j + 1))) (lv' := [(3, .int (nI (j + 1))), (2, .int (sm (alvF Wd) (j + 1))), (0, .ref (M 0)), (1, .int (nI 2))]) hx hb dX4_counted_86 hl (k := 1) rfl (nI_1 j) (by decide) rfl (fun ls hl => ?_)
            refine lv_goto (tgt := 62) hx hb dX4_counted_89 (by decide) ?_
            exact ih (j + 1) (by omega) ls (lv_sub hl [0, 1, 2, 3] rfl)
    refine lv_iconst (v := 0) hx hb dX4_counted_0 (by decide) ?_
    refine lv_istore_n (lv' := [(2, .int 0), (0, .ref (M 0)), (1, .int (nI 2))]) hx hb dX4_counted_1 rfl hl (by decide) rfl (fun ls hl => ?_)
    refine lv_iload_n hx hb dX4_counted_2 rfl (lv_at hl 2 rfl) ?_
    refine lv_tableIn (tgt := 60) (off := 57) hx hb dX4_counted_3 (by decide) (by decide) rfl (by decide) ?_
    refine lv_iconst (v := 0) hx hb dX4_counted_60 (by decide) ?_
    refine lv_istore_n (lv' := [(3, .int 0), (2, .int 0), (0, .ref (M 0)), (1, .int (nI 2))]) hx hb dX4_counted_61 rfl hl (by decide) rfl (fun ls hl => ?_)
    exact key n 0 (by omega) ls (lv_sub hl [0, 1, 2, 3] rfl)
  · refine lv_iconst (v := 0) hx hb dX4_counted_0 (by decide) ?_
    refine lv_istore_n (lv' := [(2, .int 0), (0, .ref (M 0)), (1, .int (nI 3))]) hx hb dX4_counted_1 rfl hl (by decide) rfl (fun ls hl => ?_)
    refine lv_iload_n hx hb dX4_counted_2 rfl (lv_at hl 2 rfl) ?_
    refine lv_tableIn (tgt := 94) (off := 91) hx hb dX4_counted_3 (by decide) (by decide) rfl (by decide) ?_
    refine lv_aload_n hx hb dX4_counted_94 rfl (lv_at hl 1 rfl) ?_
    refine va_get (D := (dC, dI)) (ci := 4) (v := .ref (M 4)) (C := RX4) (T := TX4) (N := 7) hx hb hts (by decide +kernel) hown hKK.1 hP 0 rfl rfl 5 (by decide) (hts (.fieldLink RX4 19 "WidowPenniesModel" "numbers" "[I") (by decide +kernel)) (fun _ h9 => h9) rfl dX4_counted_95 ?_
    refine lv_iconst (v := 1) hx hb dX4_counted_98 (by decide) ?_
    refine va_iald hx hb hKK.1 hP 4 0 rfl rfl (vp_in_nI (n := 1) (by omega) (by omega)) dX4_counted_99 ?_
    rw [show (numF yr ch pd) (1 : Int32).toNatClampNeg = (numF yr ch pd) 1 from rfl]
    rw [show ((numF yr ch pd) 1 : Int32) = ch from rfl]
    have hz : ch = countS d r n ch pd (sm (prcF Wd) n) yr Wd 3 := rfl
    exact W.iret (v := ch) hx hb hr (fun t ht hW => ⟨_, rfl, hz, ht⟩) (fun q hq => absurd hq List.not_mem_nil) dX4_counted_100
  · refine lv_iconst (v := 0) hx hb dX4_counted_0 (by decide) ?_
    refine lv_istore_n (lv' := [(2, .int 0), (0, .ref (M 0)), (1, .int (nI 4))]) hx hb dX4_counted_1 rfl hl (by decide) rfl (fun ls hl => ?_)
    refine lv_iload_n hx hb dX4_counted_2 rfl (lv_at hl 2 rfl) ?_
    refine lv_tableIn (tgt := 101) (off := 98) hx hb dX4_counted_3 (by decide) (by decide) rfl (by decide) ?_
    refine lv_aload_n hx hb dX4_counted_101 rfl (lv_at hl 1 rfl) ?_
    refine rd_i (runV0 (As := []) (rest := []) ⟨hx, hb, hml, hown, hts⟩ (met_X4_keptForAll l dC dI cI cW M th n d r Wd ch pd yr hn hok) (cwV 0 hts gX4_counted_X4_keptForAll rfl rfl rfl (by decide +kernel) ⟨Nat.le_of_ble_eq_true rfl, Nat.le_of_ble_eq_true rfl⟩) hKK hP 4 0 rfl rfl rfl hl.1 (Nat.le_of_ble_eq_true rfl) rfl dX4_counted_102 ⟨Nat.zero_le _, Nat.zero_le _⟩) (fun r_1 hr_1 => ?_)
    subst hr_1
    have hz : sm (kptF d (r 0) Wd) n = countS d r n ch pd (sm (prcF Wd) n) yr Wd 4 := rfl
    exact W.iret (v := (sm (kptF d (r 0) Wd) n)) hx hb hr (fun t ht hW => ⟨_, rfl, hz, ht⟩) (fun q hq => absurd hq List.not_mem_nil) dX4_counted_105
  · refine lv_iconst (v := 0) hx hb dX4_counted_0 (by decide) ?_
    refine lv_istore_n (lv' := [(2, .int 0), (0, .ref (M 0)), (1, .int (nI 5))]) hx hb dX4_counted_1 rfl hl (by decide) rfl (fun ls hl => ?_)
    refine lv_iload_n hx hb dX4_counted_2 rfl (lv_at hl 2 rfl) ?_
    refine lv_tableIn (tgt := 106) (off := 103) hx hb dX4_counted_3 (by decide) (by decide) rfl (by decide) ?_
    refine lv_aload_n hx hb dX4_counted_106 rfl (lv_at hl 1 rfl) ?_
    refine va_get (D := (dC, dI)) (ci := 4) (v := .ref (M 4)) (C := RX4) (T := TX4) (N := 7) hx hb hts (by decide +kernel) hown hKK.1 hP 0 rfl rfl 5 (by decide) (hts (.fieldLink RX4 19 "WidowPenniesModel" "numbers" "[I") (by decide +kernel)) (fun _ h9 => h9) rfl dX4_counted_107 ?_
    refine lv_iconst (v := 1) hx hb dX4_counted_110 (by decide) ?_
    refine va_iald hx hb hKK.1 hP 4 0 rfl rfl (vp_in_nI (n := 1) (by omega) (by omega)) dX4_counted_111 ?_
    rw [show (numF yr ch pd) (1 : Int32).toNatClampNeg = (numF yr ch pd) 1 from rfl]
    rw [show ((numF yr ch pd) 1 : Int32) = ch from rfl]
    refine lv_aload_n hx hb dX4_counted_112 rfl (lv_at hl 1 rfl) ?_
    refine rd_i (runV0 (As := []) (rest := [.int ch]) ⟨hx, hb, hml, hown, hts⟩ (met_X4_keptForAll l dC dI cI cW M th n d r Wd ch pd yr hn hok) (cwV 0 hts gX4_counted_X4_keptForAll rfl rfl rfl (by decide +kernel) ⟨Nat.le_of_ble_eq_true rfl, Nat.le_of_ble_eq_true rfl⟩) hKK hP 4 0 rfl rfl rfl hl.1 (Nat.le_of_ble_eq_true rfl) rfl dX4_counted_113 ⟨Nat.zero_le _, Nat.zero_le _⟩) (fun r_2 hr_2 => ?_)
    subst hr_2
    refine lv_isub hx hb dX4_counted_116 ?_
    have hz : ch - (sm (kptF d (r 0) Wd) n) = countS d r n ch pd (sm (prcF Wd) n) yr Wd 5 := rfl
    exact W.iret (v := (ch - (sm (kptF d (r 0) Wd) n))) hx hb hr (fun t ht hW => ⟨_, rfl, hz, ht⟩) (fun q hq => absurd hq List.not_mem_nil) dX4_counted_117
  · have key : ∀ (m9 j : Nat), j + m9 = n → ∀ ls : Array Slot, lv_has ls 4 [(3, .int (nI j)), (2, .int (sm (dueF Wd) j)), (0, .ref (M 0)), (1, .int (nI 6))] → W p l e (headSpec wsX4_counted ({ frames := 4, cells := 0, slots := 0, locals := 86 })).room s m (([.ref (M 0), .int (nI 6)] : List Value).toArray) below meth c s.heap [] 0 0 (MQ below (vp_Si (fun z => z = countS d r n ch pd (sm (prcF Wd) n) yr Wd 6)) ([.ref (M 0), .int (nI 6)] : List Value).toArray s 0 0 (fun _ => False)) (F0 m 120 ls []) := by
      intro m9
      induction m9 with
      | zero =>
        intro j hj ls hl
        refine lv_iload_n hx hb dX4_counted_120 rfl (lv_at hl 0 rfl) ?_
        refine lv_aload_n hx hb dX4_counted_121 rfl (lv_at hl 2 rfl) ?_
        refine va_get (D := (dC, dI)) (ci := 4) (v := .int (nI n)) (C := RX4) (T := TX4) (N := 7) hx hb hts (by decide +kernel) hown hKK.1 hP 0 rfl rfl 1 (by decide) (hts (.fieldLink RX4 36 "WidowPenniesModel" "widows" "I") (by decide +kernel)) (fun _ h9 => h9) rfl dX4_counted_122 ?_
        refine lv_icmp_ge (tgt := 164) hx hb dX4_counted_125 (by decide) (fun c_1 => ?_) (fun c_1 => ?_)
        · refine lv_iload_n hx hb dX4_counted_164 rfl (lv_at hl 1 rfl) ?_
          have hz : sm (dueF Wd) j = countS d r n ch pd (sm (prcF Wd) n) yr Wd 6 := by rw [show j = n by omega]; rfl
          exact W.iret (v := (sm (dueF Wd) j)) hx hb hr (fun t ht hW => ⟨_, rfl, hz, ht⟩) (fun q hq => absurd hq List.not_mem_nil) dX4_counted_165
        · exact absurd ((le_nI (by omega)).mpr (by omega)) c_1
      | succ m9 ih =>
        intro j hj ls hl
        have hj10 : j < 10 := by omega
        refine lv_iload_n hx hb dX4_counted_120 rfl (lv_at hl 0 rfl) ?_
        refine lv_aload_n hx hb dX4_counted_121 rfl (lv_at hl 2 rfl) ?_
        refine va_get (D := (dC, dI)) (ci := 4) (v := .int (nI n)) (C := RX4) (T := TX4) (N := 7) hx hb hts (by decide +kernel) hown hKK.1 hP 0 rfl rfl 1 (by decide) (hts (.fieldLink RX4 36 "WidowPenniesModel" "widows" "I") (by decide +kernel)) (fun _ h9 => h9) rfl dX4_counted_122 ?_
        refine lv_icmp_ge (tgt := 164) hx hb dX4_counted_125 (by decide) (fun c_1 => ?_) (fun c_1 => ?_)
        · exact absurd c_1 (fun q => absurd ((le_nI (by omega)).mp q) (by omega))
        · refine lv_iload_n hx hb dX4_counted_128 rfl (lv_at hl 1 rfl) ?_
          refine lv_aload_n hx hb dX4_counted_129 rfl (lv_at hl 2 rfl) ?_
          refine lv_iload_n hx hb dX4_counted_130 rfl (lv_at hl 0 rfl) ?_
          refine rd_i (runV0 (As := [.int (nI j)]) (rest := [.int (sm (dueF Wd) j)]) ⟨hx, hb, hml, hown, hts⟩ (met_X4_isAlive l dC dI cI cW M th n d r Wd ch pd yr (WT d (r 0)) j hj10) (cwV 1 hts gX4_counted_X4_isAlive rfl rfl rfl (by decide +kernel) ⟨Nat.le_of_ble_eq_true rfl, Nat.le_of_ble_eq_true rfl⟩) hKK hP 4 0 rfl rfl rfl hl.1 (Nat.le_of_ble_eq_true rfl) rfl dX4_counted_131 ⟨Nat.zero_le _, Nat.zero_le _⟩) (fun r_2 hr_2 => ?_)
          subst hr_2
          refine lv_if_eq (tgt := 155) hx hb dX4_counted_134 (by decide) (fun c_3 => ?_) (fun c_3 => ?_)
          · have bc_3 : ¬ (Wd j 4 = 0) := b0.mp c_3
            have hno : ¬ (Wd j 4 = 0 ∧ Wd j 2 = 0) := fun q => bc_3 q.1
            refine lv_iconst (v := 0) hx hb dX4_counted_155 (by decide) ?_
            refine lv_iadd hx hb dX4_counted_156 ?_
            rw [show ((sm (dueF Wd) j) + 0 : Int32) = sm (dueF Wd) (j + 1) from by simp [sm, dueF, hno]]
            refine lv_istore_n (lv' := [(2, .int (sm (dueF Wd) (j + 1))), (3, .int (nI j)), (0, .ref (M 0)), (1, .int (nI 6))]) hx hb dX4_counted_157 rfl hl (by decide) rfl (fun ls hl => ?_)
            refine lv_iinc (v := (nI (j + 1))) (lv' := [(3, .int (nI (j + 1))), (2, .int (sm (dueF Wd) (j + 1))), (0, .ref (M 0)), (1, .int (nI 6))]) hx hb dX4_counted_158 hl (k := 1) rfl (nI_1 j) (by decide) rfl (fun ls hl => ?_)
            refine lv_goto (tgt := 120) hx hb dX4_counted_161 (by decide) ?_
            exact ih (j + 1) (by omega) ls (lv_sub hl [0, 1, 2, 3] rfl)
          · have bc_3 : Wd j 4 = 0 := b1.mp c_3
            have hal := bc_3
            refine lv_aload_n hx hb dX4_counted_137 rfl (lv_at hl 2 rfl) ?_
            refine lv_iload_n hx hb dX4_counted_138 rfl (lv_at hl 0 rfl) ?_
            refine lv_iconst (v := 2) hx hb dX4_counted_139 (by decide) ?_
            refine rd_i (runV0 (As := [.int (nI j), .int 2]) (rest := [.int (sm (dueF Wd) j)]) ⟨hx, hb, hml, hown, hts⟩ (met_X4_wi l dC dI cI cW M th n d r Wd ch pd yr (WT d (r 0)) j hj10 2 (by omega)) (cwV 2 hts gX4_counted_X4_wi rfl rfl rfl (by decide +kernel) ⟨Nat.le_of_ble_eq_true rfl, Nat.le_of_ble_eq_true rfl⟩) hKK hP 4 0 rfl rfl rfl hl.1 (Nat.le_of_ble_eq_true rfl) rfl dX4_counted_140 ⟨Nat.zero_le _, Nat.zero_le _⟩) (fun r_5 hr_5 => ?_)
            subst hr_5
            refine lv_if_ne (tgt := 155) hx hb dX4_counted_143 (by decide) (fun c_6 => ?_) (fun c_6 => ?_)
            · have hno : ¬ (Wd j 4 = 0 ∧ Wd j 2 = 0) := fun q => c_6 q.2
              refine lv_iconst (v := 0) hx hb dX4_counted_155 (by decide) ?_
              refine lv_iadd hx hb dX4_counted_156 ?_
              rw [show ((sm (dueF Wd) j) + 0 : Int32) = sm (dueF Wd) (j + 1) from by simp [sm, dueF, hno]]
              refine lv_istore_n (lv' := [(2, .int (sm (dueF Wd) (j + 1))), (3, .int (nI j)), (0, .ref (M 0)), (1, .int (nI 6))]) hx hb dX4_counted_157 rfl hl (by decide) rfl (fun ls hl => ?_)
              refine lv_iinc (v := (nI (j + 1))) (lv' := [(3, .int (nI (j + 1))), (2, .int (sm (dueF Wd) (j + 1))), (0, .ref (M 0)), (1, .int (nI 6))]) hx hb dX4_counted_158 hl (k := 1) rfl (nI_1 j) (by decide) rfl (fun ls hl => ?_)
              refine lv_goto (tgt := 120) hx hb dX4_counted_161 (by decide) ?_
              exact ih (j + 1) (by omega) ls (lv_sub hl [0, 1, 2, 3] rfl)
            · have hw0 := c_6
              refine lv_aload_n hx hb dX4_counted_146 rfl (lv_at hl 2 rfl) ?_
              refine lv_iload_n hx hb dX4_counted_147 rfl (lv_at hl 0 rfl) ?_
              refine lv_iconst (v := 1) hx hb dX4_counted_148 (by decide) ?_
              refine rd_i (runV0 (As := [.int (nI j), .int 1]) (rest := [.int (sm (dueF Wd) j)]) ⟨hx, hb, hml, hown, hts⟩ (met_X4_wi l dC dI cI cW M th n d r Wd ch pd yr (WT d (r 0)) j hj10 1 (by omega)) (cwV 2 hts gX4_counted_X4_wi rfl rfl rfl (by decide +kernel) ⟨Nat.le_of_ble_eq_true rfl, Nat.le_of_ble_eq_true rfl⟩) hKK hP 4 0 rfl rfl rfl hl.1 (Nat.le_of_ble_eq_true rfl) rfl dX4_counted_149 ⟨Nat.zero_le _, Nat.zero_le _⟩) (fun r_8 hr_8 => ?_)
              subst hr_8
              refine lv_goto (tgt := 156) hx hb dX4_counted_152 (by decide) ?_
              refine lv_iadd hx hb dX4_counted_156 ?_
              rw [show ((sm (dueF Wd) j) + (Wd j 1) : Int32) = sm (dueF Wd) (j + 1) from by simp [sm, dueF, hal, hw0]]
              refine lv_istore_n (lv' := [(2, .int (sm (dueF Wd) (j + 1))), (3, .int (nI j)), (0, .ref (M 0)), (1, .int (nI 6))]) hx hb dX4_counted_157 rfl hl (by decide) rfl (fun ls hl => ?_)
              refine lv_iinc (v := (nI (j + 1))) (lv' := [(3, .int (nI (j + 1))), (2, .int (sm (dueF Wd) (j + 1))), (0, .ref (M 0)), (1, .int (nI 6))]) hx hb dX4_counted_158 hl (k := 1) rfl (nI_1 j) (by decide) rfl (fun ls hl => ?_)
              refine lv_goto (tgt := 120) hx hb dX4_counted_161 (by decide) ?_
              exact ih (j + 1) (by omega) ls (lv_sub hl [0, 1, 2, 3] rfl)
    refine lv_iconst (v := 0) hx hb dX4_counted_0 (by decide) ?_
    refine lv_istore_n (lv' := [(2, .int 0), (0, .ref (M 0)), (1, .int (nI 6))]) hx hb dX4_counted_1 rfl hl (by decide) rfl (fun ls hl => ?_)
    refine lv_iload_n hx hb dX4_counted_2 rfl (lv_at hl 2 rfl) ?_
    refine lv_tableIn (tgt := 118) (off := 115) hx hb dX4_counted_3 (by decide) (by decide) rfl (by decide) ?_
    refine lv_iconst (v := 0) hx hb dX4_counted_118 (by decide) ?_
    refine lv_istore_n (lv' := [(3, .int 0), (2, .int 0), (0, .ref (M 0)), (1, .int (nI 6))]) hx hb dX4_counted_119 rfl hl (by decide) rfl (fun ls hl => ?_)
    exact key n 0 (by omega) ls (lv_sub hl [0, 1, 2, 3] rfl)
  · refine lv_iconst (v := 0) hx hb dX4_counted_0 (by decide) ?_
    refine lv_istore_n (lv' := [(2, .int 0), (0, .ref (M 0)), (1, .int (nI 7))]) hx hb dX4_counted_1 rfl hl (by decide) rfl (fun ls hl => ?_)
    refine lv_iload_n hx hb dX4_counted_2 rfl (lv_at hl 2 rfl) ?_
    refine lv_tableIn (tgt := 166) (off := 163) hx hb dX4_counted_3 (by decide) (by decide) rfl (by decide) ?_
    refine lv_aload_n hx hb dX4_counted_166 rfl (lv_at hl 1 rfl) ?_
    refine va_get (D := (dC, dI)) (ci := 4) (v := .ref (M 4)) (C := RX4) (T := TX4) (N := 7) hx hb hts (by decide +kernel) hown hKK.1 hP 0 rfl rfl 5 (by decide) (hts (.fieldLink RX4 19 "WidowPenniesModel" "numbers" "[I") (by decide +kernel)) (fun _ h9 => h9) rfl dX4_counted_167 ?_
    refine lv_iconst (v := 2) hx hb dX4_counted_170 (by decide) ?_
    refine va_iald hx hb hKK.1 hP 4 0 rfl rfl (vp_in_nI (n := 2) (by omega) (by omega)) dX4_counted_171 ?_
    rw [show (numF yr ch pd) (2 : Int32).toNatClampNeg = (numF yr ch pd) 2 from rfl]
    rw [show ((numF yr ch pd) 2 : Int32) = pd from rfl]
    have hz : pd = countS d r n ch pd (sm (prcF Wd) n) yr Wd 7 := rfl
    exact W.iret (v := pd) hx hb hr (fun t ht hW => ⟨_, rfl, hz, ht⟩) (fun q hq => absurd hq List.not_mem_nil) dX4_counted_172
  · have key : ∀ (m9 j : Nat), j + m9 = n → ∀ ls : Array Slot, lv_has ls 4 [(3, .int (nI j)), (2, .int (sm (prcF Wd) j)), (0, .ref (M 0)), (1, .int (nI 8))] → W p l e (headSpec wsX4_counted ({ frames := 4, cells := 0, slots := 0, locals := 86 })).room s m (([.ref (M 0), .int (nI 8)] : List Value).toArray) below meth c s.heap [] 0 0 (MQ below (vp_Si (fun z => z = countS d r n ch pd (sm (prcF Wd) n) yr Wd 8)) ([.ref (M 0), .int (nI 8)] : List Value).toArray s 0 0 (fun _ => False)) (F0 m 175 ls []) := by
      intro m9
      induction m9 with
      | zero =>
        intro j hj ls hl
        refine lv_iload_n hx hb dX4_counted_175 rfl (lv_at hl 0 rfl) ?_
        refine lv_aload_n hx hb dX4_counted_176 rfl (lv_at hl 2 rfl) ?_
        refine va_get (D := (dC, dI)) (ci := 4) (v := .int (nI n)) (C := RX4) (T := TX4) (N := 7) hx hb hts (by decide +kernel) hown hKK.1 hP 0 rfl rfl 1 (by decide) (hts (.fieldLink RX4 36 "WidowPenniesModel" "widows" "I") (by decide +kernel)) (fun _ h9 => h9) rfl dX4_counted_177 ?_
        refine lv_icmp_ge (tgt := 199) hx hb dX4_counted_180 (by decide) (fun c_1 => ?_) (fun c_1 => ?_)
        · refine lv_iload_n hx hb dX4_counted_199 rfl (lv_at hl 1 rfl) ?_
          have hz : sm (prcF Wd) j = countS d r n ch pd (sm (prcF Wd) n) yr Wd 8 := by rw [show j = n by omega]; rfl
          exact W.iret (v := (sm (prcF Wd) j)) hx hb hr (fun t ht hW => ⟨_, rfl, hz, ht⟩) (fun q hq => absurd hq List.not_mem_nil) dX4_counted_200
        · exact absurd ((le_nI (by omega)).mpr (by omega)) c_1
      | succ m9 ih =>
        intro j hj ls hl
        have hj10 : j < 10 := by omega
        refine lv_iload_n hx hb dX4_counted_175 rfl (lv_at hl 0 rfl) ?_
        refine lv_aload_n hx hb dX4_counted_176 rfl (lv_at hl 2 rfl) ?_
        refine va_get (D := (dC, dI)) (ci := 4) (v := .int (nI n)) (C := RX4) (T := TX4) (N := 7) hx hb hts (by decide +kernel) hown hKK.1 hP 0 rfl rfl 1 (by decide) (hts (.fieldLink RX4 36 "WidowPenniesModel" "widows" "I") (by decide +kernel)) (fun _ h9 => h9) rfl dX4_counted_177 ?_
        refine lv_icmp_ge (tgt := 199) hx hb dX4_counted_180 (by decide) (fun c_1 => ?_) (fun c_1 => ?_)
        · exact absurd c_1 (fun q => absurd ((le_nI (by omega)).mp q) (by omega))
        · refine lv_iload_n hx hb dX4_counted_183 rfl (lv_at hl 1 rfl) ?_
          refine lv_aload_n hx hb dX4_counted_184 rfl (lv_at hl 2 rfl) ?_
          refine lv_iload_n hx hb dX4_counted_185 rfl (lv_at hl 0 rfl) ?_
          refine lv_bipush (v := 6) hx hb dX4_counted_186 (by decide) ?_
          refine rd_i (runV0 (As := [.int (nI j), .int 6]) (rest := [.int (sm (prcF Wd) j)]) ⟨hx, hb, hml, hown, hts⟩ (met_X4_wi l dC dI cI cW M th n d r Wd ch pd yr (WT d (r 0)) j hj10 6 (by omega)) (cwV 2 hts gX4_counted_X4_wi rfl rfl rfl (by decide +kernel) ⟨Nat.le_of_ble_eq_true rfl, Nat.le_of_ble_eq_true rfl⟩) hKK hP 4 0 rfl rfl rfl hl.1 (Nat.le_of_ble_eq_true rfl) rfl dX4_counted_188 ⟨Nat.zero_le _, Nat.zero_le _⟩) (fun r_2 hr_2 => ?_)
          subst hr_2
          refine lv_iadd hx hb dX4_counted_191 ?_
          rw [show ((sm (prcF Wd) j) + (Wd j 6) : Int32) = sm (prcF Wd) (j + 1) from by simp [sm, prcF]]
          refine lv_istore_n (lv' := [(2, .int (sm (prcF Wd) (j + 1))), (3, .int (nI j)), (0, .ref (M 0)), (1, .int (nI 8))]) hx hb dX4_counted_192 rfl hl (by decide) rfl (fun ls hl => ?_)
          refine lv_iinc (v := (nI (j + 1))) (lv' := [(3, .int (nI (j + 1))), (2, .int (sm (prcF Wd) (j + 1))), (0, .ref (M 0)), (1, .int (nI 8))]) hx hb dX4_counted_193 hl (k := 1) rfl (nI_1 j) (by decide) rfl (fun ls hl => ?_)
          refine lv_goto (tgt := 175) hx hb dX4_counted_196 (by decide) ?_
          exact ih (j + 1) (by omega) ls (lv_sub hl [0, 1, 2, 3] rfl)
    refine lv_iconst (v := 0) hx hb dX4_counted_0 (by decide) ?_
    refine lv_istore_n (lv' := [(2, .int 0), (0, .ref (M 0)), (1, .int (nI 8))]) hx hb dX4_counted_1 rfl hl (by decide) rfl (fun ls hl => ?_)
    refine lv_iload_n hx hb dX4_counted_2 rfl (lv_at hl 2 rfl) ?_
    refine lv_tableOut (tgt := 173) hx hb dX4_counted_3 (by decide) (by decide) ?_
    refine lv_iconst (v := 0) hx hb dX4_counted_173 (by decide) ?_
    refine lv_istore_n (lv' := [(3, .int 0), (2, .int 0), (0, .ref (M 0)), (1, .int (nI 8))]) hx hb dX4_counted_174 rfl hl (by decide) rfl (fun ls hl => ?_)
    exact key n 0 (by omega) ls (lv_sub hl [0, 1, 2, 3] rfl)
set_option maxHeartbeats 4000000 in
set_option maxRecDepth 100000 in
theorem met_X4_yearOn (l : Launch) (dC : Nat → ClassId) (dI : Nat → Nat → Nat) (cI cW : ClassId) (M : Nat → Nat) (th : Int32) (n : Nat) (d r : Nat → Int32) (Wd : Nat → Nat → Int32) (ch pd yr : Int32) (T : Nat → Int32) (R : va_W) (hn : n ≤ 10) (hok : ∀ k, k < n → okW (Wd k)) (hI : intS (r 0) ch = (if 0 < ch then comeS ch (ch.toInt64 * (r 0).toInt64 / 1000) else ch)) (sz : Nat) : Met l yX4_yearOn wsX4_yearOn ({ frames := 2, cells := 0, slots := 0, locals := 45 }) (Pre1 dC dI cI cW [.ref (M 0)] (mw cI M th n d r Wd ch pd yr T ++ R) sz) (Qv1 dC dI (mw cI M th n d r Wd ch pd yr T ++ R) (mw cI M th n d r (yW n Wd) (intS (r 0) ch - sm (dueF Wd) n) (pd + sm (dueF Wd) n) (yr + 1) T ++ R) sz) 0 0 (va_A (mw cI M th n d r Wd ch pd yr T ++ R) sz) := by
  refine Met.ofW (cc := cX4_yearOn) (maxL := 2) (ret := none) (by decide) rfl ?_
  intro p e s m args below meth c s₁ B hml hv
  obtain ⟨rfl, hsz, hP, hD0, hKK⟩ := hv
  subst hsz
  have hx := B.exec
  have hb := B.bytes
  have hr := B.returns
  have hts := atoms_spec (ws := wsX4_yearOn) B.pre
  have hown : s.vm.findClass RX4 = some m.cls := findClass_of_methodNamed B.named
  have hlocks := B.notSynchronized
  have hD := hD0.self (sz := s.heap.size)
  generalize hAe : va_A (mw cI M th n d r Wd ch pd yr T ++ R) s.heap.size = A at hD ⊢
  have hA : ∀ q : Nat, s.heap.size ≤ q → A q := fun q h => by rw [← hAe]; exact Or.inr h
  have hS : va_S A s.heap s.heap [] := va_S.rf
  have hl := lv_entry ([.ref (M 0)]) (n := 2) (Nat.le_of_ble_eq_true rfl)
  rw [lg_entry_eq]
  generalize (lg_sl ([.ref (M 0)]) ++ List.replicate (2 - (lg_sl ([.ref (M 0)])).length) Slot.unset).toArray = ls at hl ⊢
  have hl : lv_has ls 2 [(0, .ref (M 0))] := hl
  have key : ∀ (m9 j : Nat), j + m9 = n → ∀ (H : Heap) (locs : List Loc), va_P (dC, dI) vwCl (mw cI M th n d r (yW j Wd) (intS (r 0) ch - sm (dueF Wd) j) (pd + sm (dueF Wd) j) yr T ++ R) H → va_D A (mw cI M th n d r (yW j Wd) (intS (r 0) ch - sm (dueF Wd) j) (pd + sm (dueF Wd) j) yr T ++ R) → va_S A s.heap H locs → ∀ ls : Array Slot, lv_has ls 2 [(1, .int (nI j)), (0, .ref (M 0))] → W p l e (headSpec wsX4_yearOn ({ frames := 2, cells := 0, slots := 0, locals := 45 })).room s m (([.ref (M 0)] : List Value).toArray) below meth c H locs 0 0 (MQ below (Qv1 dC dI (mw cI M th n d r Wd ch pd yr T ++ R) (mw cI M th n d r (yW n Wd) (intS (r 0) ch - sm (dueF Wd) n) (pd + sm (dueF Wd) n) (yr + 1) T ++ R) s.heap.size) ([.ref (M 0)] : List Value).toArray s 0 0 A) (F0 m 34 ls []) := by
    intro m9
    induction m9 with
    | zero =>
      intro j hj H locs hP hD hS ls hl
      have hjn : j = n := by omega
      subst hjn
      refine lv_iload_n hx hb dX4_yearOn_34 rfl (lv_at hl 0 rfl) ?_
      refine lv_aload_n hx hb dX4_yearOn_35 rfl (lv_at hl 1 rfl) ?_
      refine va_get (D := (dC, dI)) (ci := 4) (v := .int (nI j)) (C := RX4) (T := TX4) (N := 7) hx hb hts (by decide +kernel) hown hKK.1 hP 0 rfl rfl 1 (by decide) (hts (.fieldLink RX4 36 "WidowPenniesModel" "widows" "I") (by decide +kernel)) (fun _ h9 => h9) rfl dX4_yearOn_36 ?_
      refine lv_icmp_ge (tgt := 142) hx hb dX4_yearOn_39 (by decide) (fun c_1 => ?_) (fun c_1 => ?_)
      · refine lv_aload_n hx hb dX4_yearOn_142 rfl (lv_at hl 1 rfl) ?_
        refine va_get (D := (dC, dI)) (ci := 4) (v := .ref (M 4)) (C := RX4) (T := TX4) (N := 7) hx hb hts (by decide +kernel) hown hKK.1 hP 0 rfl rfl 5 (by decide) (hts (.fieldLink RX4 19 "WidowPenniesModel" "numbers" "[I") (by decide +kernel)) (fun _ h9 => h9) rfl dX4_yearOn_143 ?_
        refine lv_iconst (v := 0) hx hb dX4_yearOn_146 (by decide) ?_
        refine lv_dup2_11 hx hb dX4_yearOn_147 rfl rfl ?_
        refine va_iald hx hb hKK.1 hP 4 0 rfl rfl (vp_in_nI (n := 0) (by omega) (by omega)) dX4_yearOn_148 ?_
        rw [show (numF yr (intS (r 0) ch - sm (dueF Wd) j) (pd + sm (dueF Wd) j)) (0 : Int32).toNatClampNeg = (numF yr (intS (r 0) ch - sm (dueF Wd) j) (pd + sm (dueF Wd) j)) 0 from rfl]
        rw [show ((numF yr (intS (r 0) ch - sm (dueF Wd) j) (pd + sm (dueF Wd) j)) 0 : Int32) = yr from rfl]
        refine lv_iconst (v := 1) hx hb dX4_yearOn_149 (by decide) ?_
        refine lv_iadd hx hb dX4_yearOn_150 ?_
        refine va_iast hx hb hKK.1 hP hD hS 4 0 rfl rfl (vp_in_nI (n := 0) (by omega) (by omega)) dX4_yearOn_151 (fun H locs hP hD hS => ?_)
        rw [show (0 : Int32).toNatClampNeg = 0 from rfl, numF_u0] at hP hD
        have hP : va_P (dC, dI) vwCl (mw cI M th j d r (yW j Wd) (intS (r 0) ch - sm (dueF Wd) j) (pd + sm (dueF Wd) j) (yr + 1) T ++ R) H := hP
        have hD : va_D A (mw cI M th j d r (yW j Wd) (intS (r 0) ch - sm (dueF Wd) j) (pd + sm (dueF Wd) j) (yr + 1) T ++ R) := hD
        have hP9 : va_P (dC, dI) vwCl (mw cI M th j d r (yW j Wd) (intS (r 0) ch - sm (dueF Wd) j) (pd + sm (dueF Wd) j) (yr + 1) T ++ R) _ := hP
        have hD9 : va_D A (mw cI M th j d r (yW j Wd) (intS (r 0) ch - sm (dueF Wd) j) (pd + sm (dueF Wd) j) (yr + 1) T ++ R) := hD
        exact W.vret hx hb hr (fun t ht hW => ⟨⟨(), rfl, trivial, by rw [ht]; exact hP9, by rw [hAe]; exact hD9⟩, by rw [hAe]; exact hS.F ht⟩) hS.2.2 dX4_yearOn_152
      · exact absurd (Int32.le_refl _) c_1
    | succ m9 ih =>
      intro j hj H locs hP hD hS ls hl
      have hj10 : j < 10 := by omega
      have hyj : yW j Wd j = Wd j := by simp [yW]
      have hokj := hok j (by omega)
      refine lv_iload_n hx hb dX4_yearOn_34 rfl (lv_at hl 0 rfl) ?_
      refine lv_aload_n hx hb dX4_yearOn_35 rfl (lv_at hl 1 rfl) ?_
      refine va_get (D := (dC, dI)) (ci := 4) (v := .int (nI n)) (C := RX4) (T := TX4) (N := 7) hx hb hts (by decide +kernel) hown hKK.1 hP 0 rfl rfl 1 (by decide) (hts (.fieldLink RX4 36 "WidowPenniesModel" "widows" "I") (by decide +kernel)) (fun _ h9 => h9) rfl dX4_yearOn_36 ?_
      refine lv_icmp_ge (tgt := 142) hx hb dX4_yearOn_39 (by decide) (fun c_1 => ?_) (fun c_1 => ?_)
      · exact absurd c_1 (fun q => absurd ((le_nI (by omega)).mp q) (by omega))
      · refine lv_aload_n hx hb dX4_yearOn_42 rfl (lv_at hl 1 rfl) ?_
        refine lv_iload_n hx hb dX4_yearOn_43 rfl (lv_at hl 0 rfl) ?_
        refine rd_i (runV0 (As := [.int (nI j)]) (rest := []) ⟨hx, hb, hml, hown, hts⟩ (met_X4_isAlive l dC dI cI cW M th n d r (yW j Wd) (intS (r 0) ch - sm (dueF Wd) j) (pd + sm (dueF Wd) j) yr T j hj10) (cwV 1 hts gX4_yearOn_X4_isAlive rfl rfl rfl (by decide +kernel) ⟨Nat.le_of_ble_eq_true rfl, Nat.le_of_ble_eq_true rfl⟩) hKK (ws_left hP) 4 0 rfl rfl rfl hl.1 (Nat.le_of_ble_eq_true rfl) rfl dX4_yearOn_44 ⟨Nat.zero_le _, Nat.zero_le _⟩) (fun r_2 hr_2 => ?_)
        subst hr_2
        refine lv_if_ne (tgt := 53) hx hb dX4_yearOn_47 (by decide) (fun c_3 => ?_) (fun c_3 => ?_)
        · have bc_3 : (yW j Wd) j 4 = 0 := b1.mp c_3
          have hal : Wd j 4 = 0 := by rw [hyj] at bc_3; exact bc_3
          refine lv_aload_n hx hb dX4_yearOn_53 rfl (lv_at hl 1 rfl) ?_
          refine lv_iload_n hx hb dX4_yearOn_54 rfl (lv_at hl 0 rfl) ?_
          refine lv_iconst (v := 2) hx hb dX4_yearOn_55 (by decide) ?_
          refine rd_i (runV0 (As := [.int (nI j), .int 2]) (rest := []) ⟨hx, hb, hml, hown, hts⟩ (met_X4_wi l dC dI cI cW M th n d r (yW j Wd) (intS (r 0) ch - sm (dueF Wd) j) (pd + sm (dueF Wd) j) yr T j hj10 2 (by omega)) (cwV 2 hts gX4_yearOn_X4_wi rfl rfl rfl (by decide +kernel) ⟨Nat.le_of_ble_eq_true rfl, Nat.le_of_ble_eq_true rfl⟩) hKK (ws_left hP) 4 0 rfl rfl rfl hl.1 (Nat.le_of_ble_eq_true rfl) rfl dX4_yearOn_56 ⟨Nat.zero_le _, Nat.zero_le _⟩) (fun r_4 hr_4 => ?_)
          subst hr_4
          rw [show ((yW j Wd) j 2 : Int32) = Wd j 2 from by simp [upW, upd, hyj]]
          refine lv_if_ne (tgt := 76) hx hb dX4_yearOn_59 (by decide) (fun c_6 => ?_) (fun c_6 => ?_)
          · have hw1 : ¬ Wd j 2 = 0 := c_6
            refine lv_aload_n hx hb dX4_yearOn_76 rfl (lv_at hl 1 rfl) ?_
            refine lv_iload_n hx hb dX4_yearOn_77 rfl (lv_at hl 0 rfl) ?_
            refine lv_iconst (v := 2) hx hb dX4_yearOn_78 (by decide) ?_
            refine lv_aload_n hx hb dX4_yearOn_79 rfl (lv_at hl 1 rfl) ?_
            refine lv_iload_n hx hb dX4_yearOn_80 rfl (lv_at hl 0 rfl) ?_
            refine lv_iconst (v := 2) hx hb dX4_yearOn_81 (by decide) ?_
            refine rd_i (runV0 (As := [.int (nI j), .int 2]) (rest := [.int 2, .int (nI j), .ref (M 0)]) ⟨hx, hb, hml, hown, hts⟩ (met_X4_wi l dC dI cI cW M th n d r (yW j Wd) (intS (r 0) ch - sm (dueF Wd) j) (pd + sm (dueF Wd) j) yr T j hj10 2 (by omega)) (cwV 2 hts gX4_yearOn_X4_wi rfl rfl rfl (by decide +kernel) ⟨Nat.le_of_ble_eq_true rfl, Nat.le_of_ble_eq_true rfl⟩) hKK (ws_left hP) 4 0 rfl rfl rfl hl.1 (Nat.le_of_ble_eq_true rfl) rfl dX4_yearOn_82 ⟨Nat.zero_le _, Nat.zero_le _⟩) (fun r_7 hr_7 => ?_)
            subst hr_7
            rw [show ((yW j Wd) j 2 : Int32) = Wd j 2 from by simp [upW, upd, hyj]]
            refine lv_iconst (v := 1) hx hb dX4_yearOn_85 (by decide) ?_
            refine lv_isub hx hb dX4_yearOn_86 ?_
            refine wr_v (runV1 (As := [.int (nI j), .int 2, .int ((Wd j 2) - 1)]) (rest := []) ⟨hx, hb, hml, hown, hts⟩ (met_X4_let l dC dI cI cW M th n d r (yW j Wd) (intS (r 0) ch - sm (dueF Wd) j) (pd + sm (dueF Wd) j) yr T R j hj10 2 (by omega) ((Wd j 2) - 1) _) (cwV 3 hts gX4_yearOn_X4_let rfl rfl rfl (by decide +kernel) ⟨Nat.le_of_ble_eq_true rfl, Nat.le_of_ble_eq_true rfl⟩) hKK hP hD 4 0 rfl rfl rfl hl.1 (Nat.le_of_ble_eq_true rfl) rfl dX4_yearOn_87 ⟨Nat.zero_le _, Nat.zero_le _⟩) hD hS hA (fun H locs hP hD hS => ?_)
            have hP : va_P (dC, dI) vwCl (mw cI M th n d r (upW (yW j Wd) j (upd ((yW j Wd) j) 2 ((Wd j 2) - 1))) (intS (r 0) ch - sm (dueF Wd) j) (pd + sm (dueF Wd) j) yr T ++ R) H := hP
            have hD : va_D A (mw cI M th n d r (upW (yW j Wd) j (upd ((yW j Wd) j) 2 ((Wd j 2) - 1))) (intS (r 0) ch - sm (dueF Wd) j) (pd + sm (dueF Wd) j) yr T ++ R) := hD
            refine lv_aload_n hx hb dX4_yearOn_90 rfl (lv_at hl 1 rfl) ?_
            refine lv_iload_n hx hb dX4_yearOn_91 rfl (lv_at hl 0 rfl) ?_
            refine lv_iconst (v := 0) hx hb dX4_yearOn_92 (by decide) ?_
            refine lv_aload_n hx hb dX4_yearOn_93 rfl (lv_at hl 1 rfl) ?_
            refine lv_iload_n hx hb dX4_yearOn_94 rfl (lv_at hl 0 rfl) ?_
            refine lv_iconst (v := 0) hx hb dX4_yearOn_95 (by decide) ?_
            refine rd_i (runV0 (As := [.int (nI j), .int 0]) (rest := [.int 0, .int (nI j), .ref (M 0)]) ⟨hx, hb, hml, hown, hts⟩ (met_X4_wi l dC dI cI cW M th n d r (upW (yW j Wd) j (upd ((yW j Wd) j) 2 ((Wd j 2) - 1))) (intS (r 0) ch - sm (dueF Wd) j) (pd + sm (dueF Wd) j) yr T j hj10 0 (by omega)) (cwV 2 hts gX4_yearOn_X4_wi rfl rfl rfl (by decide +kernel) ⟨Nat.le_of_ble_eq_true rfl, Nat.le_of_ble_eq_true rfl⟩) hKK (ws_left hP) 4 0 rfl rfl rfl hl.1 (Nat.le_of_ble_eq_true rfl) rfl dX4_yearOn_96 ⟨Nat.zero_le _, Nat.zero_le _⟩) (fun r_9 hr_9 => ?_)
            subst hr_9
            rw [show ((upW (yW j Wd) j (upd ((yW j Wd) j) 2 ((Wd j 2) - 1))) j 0 : Int32) = Wd j 0 from by simp [upW, upd, hyj]]
            refine lv_iconst (v := 1) hx hb dX4_yearOn_99 (by decide) ?_
            refine lv_iadd hx hb dX4_yearOn_100 ?_
            refine wr_v (runV1 (As := [.int (nI j), .int 0, .int ((Wd j 0) + 1)]) (rest := []) ⟨hx, hb, hml, hown, hts⟩ (met_X4_let l dC dI cI cW M th n d r (upW (yW j Wd) j (upd ((yW j Wd) j) 2 ((Wd j 2) - 1))) (intS (r 0) ch - sm (dueF Wd) j) (pd + sm (dueF Wd) j) yr T R j hj10 0 (by omega) ((Wd j 0) + 1) _) (cwV 3 hts gX4_yearOn_X4_let rfl rfl rfl (by decide +kernel) ⟨Nat.le_of_ble_eq_true rfl, Nat.le_of_ble_eq_true rfl⟩) hKK hP hD 4 0 rfl rfl rfl hl.1 (Nat.le_of_ble_eq_true rfl) rfl dX4_yearOn_101 ⟨Nat.zero_le _, Nat.zero_le _⟩) hD hS hA (fun H locs hP hD hS => ?_)
            rw [upW_upW, upW_at] at hP hD
            have hP : va_P (dC, dI) vwCl (mw cI M th n d r (upW (yW j Wd) j (upd (upd ((yW j Wd) j) 2 ((Wd j 2) - 1)) 0 ((Wd j 0) + 1))) (intS (r 0) ch - sm (dueF Wd) j) (pd + sm (dueF Wd) j) yr T ++ R) H := hP
            have hD : va_D A (mw cI M th n d r (upW (yW j Wd) j (upd (upd ((yW j Wd) j) 2 ((Wd j 2) - 1)) 0 ((Wd j 0) + 1))) (intS (r 0) ch - sm (dueF Wd) j) (pd + sm (dueF Wd) j) yr T ++ R) := hD
            refine lv_aload_n hx hb dX4_yearOn_104 rfl (lv_at hl 1 rfl) ?_
            refine lv_iload_n hx hb dX4_yearOn_105 rfl (lv_at hl 0 rfl) ?_
            refine lv_iconst (v := 3) hx hb dX4_yearOn_106 (by decide) ?_
            refine lv_aload_n hx hb dX4_yearOn_107 rfl (lv_at hl 1 rfl) ?_
            refine lv_iload_n hx hb dX4_yearOn_108 rfl (lv_at hl 0 rfl) ?_
            refine lv_iconst (v := 3) hx hb dX4_yearOn_109 (by decide) ?_
            refine rd_i (runV0 (As := [.int (nI j), .int 3]) (rest := [.int 3, .int (nI j), .ref (M 0)]) ⟨hx, hb, hml, hown, hts⟩ (met_X4_wi l dC dI cI cW M th n d r (upW (yW j Wd) j (upd (upd ((yW j Wd) j) 2 ((Wd j 2) - 1)) 0 ((Wd j 0) + 1))) (intS (r 0) ch - sm (dueF Wd) j) (pd + sm (dueF Wd) j) yr T j hj10 3 (by omega)) (cwV 2 hts gX4_yearOn_X4_wi rfl rfl rfl (by decide +kernel) ⟨Nat.le_of_ble_eq_true rfl, Nat.le_of_ble_eq_true rfl⟩) hKK (ws_left hP) 4 0 rfl rfl rfl hl.1 (Nat.le_of_ble_eq_true rfl) rfl dX4_yearOn_110 ⟨Nat.zero_le _, Nat.zero_le _⟩) (fun r_11 hr_11 => ?_)
            subst hr_11
            rw [show ((upW (yW j Wd) j (upd (upd ((yW j Wd) j) 2 ((Wd j 2) - 1)) 0 ((Wd j 0) + 1))) j 3 : Int32) = Wd j 3 from by simp [upW, upd, hyj]]
            refine lv_iconst (v := 1) hx hb dX4_yearOn_113 (by decide) ?_
            refine lv_iadd hx hb dX4_yearOn_114 ?_
            refine wr_v (runV1 (As := [.int (nI j), .int 3, .int ((Wd j 3) + 1)]) (rest := []) ⟨hx, hb, hml, hown, hts⟩ (met_X4_let l dC dI cI cW M th n d r (upW (yW j Wd) j (upd (upd ((yW j Wd) j) 2 ((Wd j 2) - 1)) 0 ((Wd j 0) + 1))) (intS (r 0) ch - sm (dueF Wd) j) (pd + sm (dueF Wd) j) yr T R j hj10 3 (by omega) ((Wd j 3) + 1) _) (cwV 3 hts gX4_yearOn_X4_let rfl rfl rfl (by decide +kernel) ⟨Nat.le_of_ble_eq_true rfl, Nat.le_of_ble_eq_true rfl⟩) hKK hP hD 4 0 rfl rfl rfl hl.1 (Nat.le_of_ble_eq_true rfl) rfl dX4_yearOn_115 ⟨Nat.zero_le _, Nat.zero_le _⟩) hD hS hA (fun H locs hP hD hS => ?_)
            rw [upW_upW, upW_at] at hP hD
            have hP : va_P (dC, dI) vwCl (mw cI M th n d r (upW (yW j Wd) j (upd (upd (upd ((yW j Wd) j) 2 ((Wd j 2) - 1)) 0 ((Wd j 0) + 1)) 3 ((Wd j 3) + 1))) (intS (r 0) ch - sm (dueF Wd) j) (pd + sm (dueF Wd) j) yr T ++ R) H := hP
            have hD : va_D A (mw cI M th n d r (upW (yW j Wd) j (upd (upd (upd ((yW j Wd) j) 2 ((Wd j 2) - 1)) 0 ((Wd j 0) + 1)) 3 ((Wd j 3) + 1))) (intS (r 0) ch - sm (dueF Wd) j) (pd + sm (dueF Wd) j) yr T ++ R) := hD
            refine lv_aload_n hx hb dX4_yearOn_118 rfl (lv_at hl 1 rfl) ?_
            refine lv_iload_n hx hb dX4_yearOn_119 rfl (lv_at hl 0 rfl) ?_
            refine lv_iconst (v := 0) hx hb dX4_yearOn_120 (by decide) ?_
            refine rd_i (runV0 (As := [.int (nI j), .int 0]) (rest := []) ⟨hx, hb, hml, hown, hts⟩ (met_X4_wi l dC dI cI cW M th n d r (upW (yW j Wd) j (upd (upd (upd ((yW j Wd) j) 2 ((Wd j 2) - 1)) 0 ((Wd j 0) + 1)) 3 ((Wd j 3) + 1))) (intS (r 0) ch - sm (dueF Wd) j) (pd + sm (dueF Wd) j) yr T j hj10 0 (by omega)) (cwV 2 hts gX4_yearOn_X4_wi rfl rfl rfl (by decide +kernel) ⟨Nat.le_of_ble_eq_true rfl, Nat.le_of_ble_eq_true rfl⟩) hKK (ws_left hP) 4 0 rfl rfl rfl hl.1 (Nat.le_of_ble_eq_true rfl) rfl dX4_yearOn_121 ⟨Nat.zero_le _, Nat.zero_le _⟩) (fun r_13 hr_13 => ?_)
            subst hr_13
            rw [show ((upW (yW j Wd) j (upd (upd (upd ((yW j Wd) j) 2 ((Wd j 2) - 1)) 0 ((Wd j 0) + 1)) 3 ((Wd j 3) + 1))) j 0 : Int32) = (Wd j 0) + 1 from by simp [upW, upd, hyj]]
            refine lv_bipush (v := 100) hx hb dX4_yearOn_124 (by decide) ?_
            refine lv_icmp_ne (tgt := 136) hx hb dX4_yearOn_126 (by decide) (fun c_15 => ?_) (fun c_15 => ?_)
            · have hd1 : ¬ Wd j 0 = 99 := fun q => c_15 (by rw [q]; decide)
              refine lv_iinc (v := (nI (j + 1))) (lv' := [(1, .int (nI (j + 1))), (0, .ref (M 0))]) hx hb dX4_yearOn_136 hl (k := 0) rfl (nI_1 j) (by decide) rfl (fun ls hl => ?_)
              refine lv_goto (tgt := 34) hx hb dX4_yearOn_139 (by decide) ?_
              have eG : upd (upd (upd ((yW j Wd) j) 2 ((Wd j 2) - 1)) 0 ((Wd j 0) + 1)) 3 ((Wd j 3) + 1) = yearW (Wd j) := by
                funext k9
                rw [hyj]
                by_cases q0 : k9 = 0
                · subst q0
                  simp [upd, yearW, hw1, hd1]
                by_cases q2 : k9 = 2
                · subst q2
                  simp [upd, yearW, hw1, hd1]
                by_cases q3 : k9 = 3
                · subst q3
                  simp [upd, yearW, hw1, hd1]
                by_cases q4 : k9 = 4
                · subst q4
                  simp [upd, yearW, hw1, hd1]
                by_cases q5 : k9 = 5
                · subst q5
                  simp [upd, yearW, hw1, hd1]
                simp [upd, yearW, q0, q2, q3, q4, q5]
              have hP : va_P (dC, dI) vwCl (mw cI M th n d r (yW (j + 1) Wd) (intS (r 0) ch - sm (dueF Wd) (j + 1)) (pd + sm (dueF Wd) (j + 1)) yr T ++ R) H := by rw [yW_yes hal, due_yes hal, if_neg hw1, Int32.add_zero, ← eG]; exact hP
              have hD : va_D A (mw cI M th n d r (yW (j + 1) Wd) (intS (r 0) ch - sm (dueF Wd) (j + 1)) (pd + sm (dueF Wd) (j + 1)) yr T ++ R) := by rw [yW_yes hal, due_yes hal, if_neg hw1, Int32.add_zero, ← eG]; exact hD
              exact ih (j + 1) (by omega) H locs hP hD hS ls (lv_sub hl [0, 1] rfl)
            · have hd0 : Wd j 0 = 99 := eq_99 c_15
              refine lv_aload_n hx hb dX4_yearOn_129 rfl (lv_at hl 1 rfl) ?_
              refine lv_iload_n hx hb dX4_yearOn_130 rfl (lv_at hl 0 rfl) ?_
              refine lv_iconst (v := 4) hx hb dX4_yearOn_131 (by decide) ?_
              refine lv_iconst (v := 1) hx hb dX4_yearOn_132 (by decide) ?_
              refine wr_v (runV1 (As := [.int (nI j), .int 4, .int 1]) (rest := []) ⟨hx, hb, hml, hown, hts⟩ (met_X4_let l dC dI cI cW M th n d r (upW (yW j Wd) j (upd (upd (upd ((yW j Wd) j) 2 ((Wd j 2) - 1)) 0 ((Wd j 0) + 1)) 3 ((Wd j 3) + 1))) (intS (r 0) ch - sm (dueF Wd) j) (pd + sm (dueF Wd) j) yr T R j hj10 4 (by omega) 1 _) (cwV 3 hts gX4_yearOn_X4_let rfl rfl rfl (by decide +kernel) ⟨Nat.le_of_ble_eq_true rfl, Nat.le_of_ble_eq_true rfl⟩) hKK hP hD 4 0 rfl rfl rfl hl.1 (Nat.le_of_ble_eq_true rfl) rfl dX4_yearOn_133 ⟨Nat.zero_le _, Nat.zero_le _⟩) hD hS hA (fun H locs hP hD hS => ?_)
              rw [upW_upW, upW_at] at hP hD
              have hP : va_P (dC, dI) vwCl (mw cI M th n d r (upW (yW j Wd) j (upd (upd (upd (upd ((yW j Wd) j) 2 ((Wd j 2) - 1)) 0 ((Wd j 0) + 1)) 3 ((Wd j 3) + 1)) 4 1)) (intS (r 0) ch - sm (dueF Wd) j) (pd + sm (dueF Wd) j) yr T ++ R) H := hP
              have hD : va_D A (mw cI M th n d r (upW (yW j Wd) j (upd (upd (upd (upd ((yW j Wd) j) 2 ((Wd j 2) - 1)) 0 ((Wd j 0) + 1)) 3 ((Wd j 3) + 1)) 4 1)) (intS (r 0) ch - sm (dueF Wd) j) (pd + sm (dueF Wd) j) yr T ++ R) := hD
              refine lv_iinc (v := (nI (j + 1))) (lv' := [(1, .int (nI (j + 1))), (0, .ref (M 0))]) hx hb dX4_yearOn_136 hl (k := 0) rfl (nI_1 j) (by decide) rfl (fun ls hl => ?_)
              refine lv_goto (tgt := 34) hx hb dX4_yearOn_139 (by decide) ?_
              have eG : upd (upd (upd (upd ((yW j Wd) j) 2 ((Wd j 2) - 1)) 0 ((Wd j 0) + 1)) 3 ((Wd j 3) + 1)) 4 1 = yearW (Wd j) := by
                funext k9
                rw [hyj]
                by_cases q0 : k9 = 0
                · subst q0
                  simp [upd, yearW, hw1, hd0]
                by_cases q2 : k9 = 2
                · subst q2
                  simp [upd, yearW, hw1, hd0]
                by_cases q3 : k9 = 3
                · subst q3
                  simp [upd, yearW, hw1, hd0]
                by_cases q4 : k9 = 4
                · subst q4
                  simp [upd, yearW, hw1, hd0]
                by_cases q5 : k9 = 5
                · subst q5
                  simp [upd, yearW, hw1, hd0]
                simp [upd, yearW, q0, q2, q3, q4, q5]
              have hP : va_P (dC, dI) vwCl (mw cI M th n d r (yW (j + 1) Wd) (intS (r 0) ch - sm (dueF Wd) (j + 1)) (pd + sm (dueF Wd) (j + 1)) yr T ++ R) H := by rw [yW_yes hal, due_yes hal, if_neg hw1, Int32.add_zero, ← eG]; exact hP
              have hD : va_D A (mw cI M th n d r (yW (j + 1) Wd) (intS (r 0) ch - sm (dueF Wd) (j + 1)) (pd + sm (dueF Wd) (j + 1)) yr T ++ R) := by rw [yW_yes hal, due_yes hal, if_neg hw1, Int32.add_zero, ← eG]; exact hD
              exact ih (j + 1) (by omega) H locs hP hD hS ls (lv_sub hl [0, 1] rfl)
          · have hw0 : Wd j 2 = 0 := c_6
            refine lv_aload_n hx hb dX4_yearOn_62 rfl (lv_at hl 1 rfl) ?_
            refine lv_iload_n hx hb dX4_yearOn_63 rfl (lv_at hl 0 rfl) ?_
            refine lv_aload_n hx hb dX4_yearOn_64 rfl (lv_at hl 1 rfl) ?_
            refine lv_iload_n hx hb dX4_yearOn_65 rfl (lv_at hl 0 rfl) ?_
            refine lv_iconst (v := 1) hx hb dX4_yearOn_66 (by decide) ?_
            refine rd_i (runV0 (As := [.int (nI j), .int 1]) (rest := [.int (nI j), .ref (M 0)]) ⟨hx, hb, hml, hown, hts⟩ (met_X4_wi l dC dI cI cW M th n d r (yW j Wd) (intS (r 0) ch - sm (dueF Wd) j) (pd + sm (dueF Wd) j) yr T j hj10 1 (by omega)) (cwV 2 hts gX4_yearOn_X4_wi rfl rfl rfl (by decide +kernel) ⟨Nat.le_of_ble_eq_true rfl, Nat.le_of_ble_eq_true rfl⟩) hKK (ws_left hP) 4 0 rfl rfl rfl hl.1 (Nat.le_of_ble_eq_true rfl) rfl dX4_yearOn_67 ⟨Nat.zero_le _, Nat.zero_le _⟩) (fun r_16 hr_16 => ?_)
            subst hr_16
            rw [show ((yW j Wd) j 1 : Int32) = Wd j 1 from by simp [upW, upd, hyj]]
            refine wr_v (runV1 (As := [.int (nI j), .int (Wd j 1)]) (rest := []) ⟨hx, hb, hml, hown, hts⟩ (met_X4_payOut l dC dI cI cW M th n d r (yW j Wd) (intS (r 0) ch - sm (dueF Wd) j) (pd + sm (dueF Wd) j) yr T R j hj10 (Wd j 1) _) (cwV 2 hts gX4_yearOn_X4_payOut rfl rfl rfl (by decide +kernel) ⟨Nat.le_of_ble_eq_true rfl, Nat.le_of_ble_eq_true rfl⟩) hKK hP hD 4 0 rfl rfl rfl hl.1 (Nat.le_of_ble_eq_true rfl) rfl dX4_yearOn_70 ⟨Nat.zero_le _, Nat.zero_le _⟩) hD hS hA (fun H locs hP hD hS => ?_)
            have hP : va_P (dC, dI) vwCl (mw cI M th n d r (upW (yW j Wd) j (upd ((yW j Wd) j) 5 ((yW j Wd) j 5 + (Wd j 1)))) ((intS (r 0) ch - sm (dueF Wd) j) - (Wd j 1)) ((pd + sm (dueF Wd) j) + (Wd j 1)) yr T ++ R) H := hP
            have hD : va_D A (mw cI M th n d r (upW (yW j Wd) j (upd ((yW j Wd) j) 5 ((yW j Wd) j 5 + (Wd j 1)))) ((intS (r 0) ch - sm (dueF Wd) j) - (Wd j 1)) ((pd + sm (dueF Wd) j) + (Wd j 1)) yr T ++ R) := hD
            refine lv_goto (tgt := 90) hx hb dX4_yearOn_73 (by decide) ?_
            refine lv_aload_n hx hb dX4_yearOn_90 rfl (lv_at hl 1 rfl) ?_
            refine lv_iload_n hx hb dX4_yearOn_91 rfl (lv_at hl 0 rfl) ?_
            refine lv_iconst (v := 0) hx hb dX4_yearOn_92 (by decide) ?_
            refine lv_aload_n hx hb dX4_yearOn_93 rfl (lv_at hl 1 rfl) ?_
            refine lv_iload_n hx hb dX4_yearOn_94 rfl (lv_at hl 0 rfl) ?_
            refine lv_iconst (v := 0) hx hb dX4_yearOn_95 (by decide) ?_
            refine rd_i (runV0 (As := [.int (nI j), .int 0]) (rest := [.int 0, .int (nI j), .ref (M 0)]) ⟨hx, hb, hml, hown, hts⟩ (met_X4_wi l dC dI cI cW M th n d r (upW (yW j Wd) j (upd ((yW j Wd) j) 5 ((yW j Wd) j 5 + (Wd j 1)))) ((intS (r 0) ch - sm (dueF Wd) j) - (Wd j 1)) ((pd + sm (dueF Wd) j) + (Wd j 1)) yr T j hj10 0 (by omega)) (cwV 2 hts gX4_yearOn_X4_wi rfl rfl rfl (by decide +kernel) ⟨Nat.le_of_ble_eq_true rfl, Nat.le_of_ble_eq_true rfl⟩) hKK (ws_left hP) 4 0 rfl rfl rfl hl.1 (Nat.le_of_ble_eq_true rfl) rfl dX4_yearOn_96 ⟨Nat.zero_le _, Nat.zero_le _⟩) (fun r_18 hr_18 => ?_)
            subst hr_18
            rw [show ((upW (yW j Wd) j (upd ((yW j Wd) j) 5 ((yW j Wd) j 5 + (Wd j 1)))) j 0 : Int32) = Wd j 0 from by simp [upW, upd, hyj]]
            refine lv_iconst (v := 1) hx hb dX4_yearOn_99 (by decide) ?_
            refine lv_iadd hx hb dX4_yearOn_100 ?_
            refine wr_v (runV1 (As := [.int (nI j), .int 0, .int ((Wd j 0) + 1)]) (rest := []) ⟨hx, hb, hml, hown, hts⟩ (met_X4_let l dC dI cI cW M th n d r (upW (yW j Wd) j (upd ((yW j Wd) j) 5 ((yW j Wd) j 5 + (Wd j 1)))) ((intS (r 0) ch - sm (dueF Wd) j) - (Wd j 1)) ((pd + sm (dueF Wd) j) + (Wd j 1)) yr T R j hj10 0 (by omega) ((Wd j 0) + 1) _) (cwV 3 hts gX4_yearOn_X4_let rfl rfl rfl (by decide +kernel) ⟨Nat.le_of_ble_eq_true rfl, Nat.le_of_ble_eq_true rfl⟩) hKK hP hD 4 0 rfl rfl rfl hl.1 (Nat.le_of_ble_eq_true rfl) rfl dX4_yearOn_101 ⟨Nat.zero_le _, Nat.zero_le _⟩) hD hS hA (fun H locs hP hD hS => ?_)
            rw [upW_upW, upW_at] at hP hD
            have hP : va_P (dC, dI) vwCl (mw cI M th n d r (upW (yW j Wd) j (upd (upd ((yW j Wd) j) 5 ((yW j Wd) j 5 + (Wd j 1))) 0 ((Wd j 0) + 1))) ((intS (r 0) ch - sm (dueF Wd) j) - (Wd j 1)) ((pd + sm (dueF Wd) j) + (Wd j 1)) yr T ++ R) H := hP
            have hD : va_D A (mw cI M th n d r (upW (yW j Wd) j (upd (upd ((yW j Wd) j) 5 ((yW j Wd) j 5 + (Wd j 1))) 0 ((Wd j 0) + 1))) ((intS (r 0) ch - sm (dueF Wd) j) - (Wd j 1)) ((pd + sm (dueF Wd) j) + (Wd j 1)) yr T ++ R) := hD
            refine lv_aload_n hx hb dX4_yearOn_104 rfl (lv_at hl 1 rfl) ?_
            refine lv_iload_n hx hb dX4_yearOn_105 rfl (lv_at hl 0 rfl) ?_
            refine lv_iconst (v := 3) hx hb dX4_yearOn_106 (by decide) ?_
            refine lv_aload_n hx hb dX4_yearOn_107 rfl (lv_at hl 1 rfl) ?_
            refine lv_iload_n hx hb dX4_yearOn_108 rfl (lv_at hl 0 rfl) ?_
            refine lv_iconst (v := 3) hx hb dX4_yearOn_109 (by decide) ?_
            refine rd_i (runV0 (As := [.int (nI j), .int 3]) (rest := [.int 3, .int (nI j), .ref (M 0)]) ⟨hx, hb, hml, hown, hts⟩ (met_X4_wi l dC dI cI cW M th n d r (upW (yW j Wd) j (upd (upd ((yW j Wd) j) 5 ((yW j Wd) j 5 + (Wd j 1))) 0 ((Wd j 0) + 1))) ((intS (r 0) ch - sm (dueF Wd) j) - (Wd j 1)) ((pd + sm (dueF Wd) j) + (Wd j 1)) yr T j hj10 3 (by omega)) (cwV 2 hts gX4_yearOn_X4_wi rfl rfl rfl (by decide +kernel) ⟨Nat.le_of_ble_eq_true rfl, Nat.le_of_ble_eq_true rfl⟩) hKK (ws_left hP) 4 0 rfl rfl rfl hl.1 (Nat.le_of_ble_eq_true rfl) rfl dX4_yearOn_110 ⟨Nat.zero_le _, Nat.zero_le _⟩) (fun r_20 hr_20 => ?_)
            subst hr_20
            rw [show ((upW (yW j Wd) j (upd (upd ((yW j Wd) j) 5 ((yW j Wd) j 5 + (Wd j 1))) 0 ((Wd j 0) + 1))) j 3 : Int32) = Wd j 3 from by simp [upW, upd, hyj]]
            refine lv_iconst (v := 1) hx hb dX4_yearOn_113 (by decide) ?_
            refine lv_iadd hx hb dX4_yearOn_114 ?_
            refine wr_v (runV1 (As := [.int (nI j), .int 3, .int ((Wd j 3) + 1)]) (rest := []) ⟨hx, hb, hml, hown, hts⟩ (met_X4_let l dC dI cI cW M th n d r (upW (yW j Wd) j (upd (upd ((yW j Wd) j) 5 ((yW j Wd) j 5 + (Wd j 1))) 0 ((Wd j 0) + 1))) ((intS (r 0) ch - sm (dueF Wd) j) - (Wd j 1)) ((pd + sm (dueF Wd) j) + (Wd j 1)) yr T R j hj10 3 (by omega) ((Wd j 3) + 1) _) (cwV 3 hts gX4_yearOn_X4_let rfl rfl rfl (by decide +kernel) ⟨Nat.le_of_ble_eq_true rfl, Nat.le_of_ble_eq_true rfl⟩) hKK hP hD 4 0 rfl rfl rfl hl.1 (Nat.le_of_ble_eq_true rfl) rfl dX4_yearOn_115 ⟨Nat.zero_le _, Nat.zero_le _⟩) hD hS hA (fun H locs hP hD hS => ?_)
            rw [upW_upW, upW_at] at hP hD
            have hP : va_P (dC, dI) vwCl (mw cI M th n d r (upW (yW j Wd) j (upd (upd (upd ((yW j Wd) j) 5 ((yW j Wd) j 5 + (Wd j 1))) 0 ((Wd j 0) + 1)) 3 ((Wd j 3) + 1))) ((intS (r 0) ch - sm (dueF Wd) j) - (Wd j 1)) ((pd + sm (dueF Wd) j) + (Wd j 1)) yr T ++ R) H := hP
            have hD : va_D A (mw cI M th n d r (upW (yW j Wd) j (upd (upd (upd ((yW j Wd) j) 5 ((yW j Wd) j 5 + (Wd j 1))) 0 ((Wd j 0) + 1)) 3 ((Wd j 3) + 1))) ((intS (r 0) ch - sm (dueF Wd) j) - (Wd j 1)) ((pd + sm (dueF Wd) j) + (Wd j 1)) yr T ++ R) := hD
            refine lv_aload_n hx hb dX4_yearOn_118 rfl (lv_at hl 1 rfl) ?_
            refine lv_iload_n hx hb dX4_yearOn_119 rfl (lv_at hl 0 rfl) ?_
            refine lv_iconst (v := 0) hx hb dX4_yearOn_120 (by decide) ?_
            refine rd_i (runV0 (As := [.int (nI j), .int 0]) (rest := []) ⟨hx, hb, hml, hown, hts⟩ (met_X4_wi l dC dI cI cW M th n d r (upW (yW j Wd) j (upd (upd (upd ((yW j Wd) j) 5 ((yW j Wd) j 5 + (Wd j 1))) 0 ((Wd j 0) + 1)) 3 ((Wd j 3) + 1))) ((intS (r 0) ch - sm (dueF Wd) j) - (Wd j 1)) ((pd + sm (dueF Wd) j) + (Wd j 1)) yr T j hj10 0 (by omega)) (cwV 2 hts gX4_yearOn_X4_wi rfl rfl rfl (by decide +kernel) ⟨Nat.le_of_ble_eq_true rfl, Nat.le_of_ble_eq_true rfl⟩) hKK (ws_left hP) 4 0 rfl rfl rfl hl.1 (Nat.le_of_ble_eq_true rfl) rfl dX4_yearOn_121 ⟨Nat.zero_le _, Nat.zero_le _⟩) (fun r_22 hr_22 => ?_)
            subst hr_22
            rw [show ((upW (yW j Wd) j (upd (upd (upd ((yW j Wd) j) 5 ((yW j Wd) j 5 + (Wd j 1))) 0 ((Wd j 0) + 1)) 3 ((Wd j 3) + 1))) j 0 : Int32) = (Wd j 0) + 1 from by simp [upW, upd, hyj]]
            refine lv_bipush (v := 100) hx hb dX4_yearOn_124 (by decide) ?_
            refine lv_icmp_ne (tgt := 136) hx hb dX4_yearOn_126 (by decide) (fun c_24 => ?_) (fun c_24 => ?_)
            · have hd1 : ¬ Wd j 0 = 99 := fun q => c_24 (by rw [q]; decide)
              refine lv_iinc (v := (nI (j + 1))) (lv' := [(1, .int (nI (j + 1))), (0, .ref (M 0))]) hx hb dX4_yearOn_136 hl (k := 0) rfl (nI_1 j) (by decide) rfl (fun ls hl => ?_)
              refine lv_goto (tgt := 34) hx hb dX4_yearOn_139 (by decide) ?_
              have eG : upd (upd (upd ((yW j Wd) j) 5 ((yW j Wd) j 5 + (Wd j 1))) 0 ((Wd j 0) + 1)) 3 ((Wd j 3) + 1) = yearW (Wd j) := by
                funext k9
                rw [hyj]
                by_cases q0 : k9 = 0
                · subst q0
                  simp [upd, yearW, hw0, hd1]
                by_cases q2 : k9 = 2
                · subst q2
                  simp [upd, yearW, hw0, hd1]
                by_cases q3 : k9 = 3
                · subst q3
                  simp [upd, yearW, hw0, hd1]
                by_cases q4 : k9 = 4
                · subst q4
                  simp [upd, yearW, hw0, hd1]
                by_cases q5 : k9 = 5
                · subst q5
                  simp [upd, yearW, hw0, hd1]
                simp [upd, yearW, q0, q2, q3, q4, q5]
              have hP : va_P (dC, dI) vwCl (mw cI M th n d r (yW (j + 1) Wd) (intS (r 0) ch - sm (dueF Wd) (j + 1)) (pd + sm (dueF Wd) (j + 1)) yr T ++ R) H := by rw [yW_yes hal, due_yes hal, if_pos hw0, ← i_assoc_sub, ← i_assoc_add, ← eG]; exact hP
              have hD : va_D A (mw cI M th n d r (yW (j + 1) Wd) (intS (r 0) ch - sm (dueF Wd) (j + 1)) (pd + sm (dueF Wd) (j + 1)) yr T ++ R) := by rw [yW_yes hal, due_yes hal, if_pos hw0, ← i_assoc_sub, ← i_assoc_add, ← eG]; exact hD
              exact ih (j + 1) (by omega) H locs hP hD hS ls (lv_sub hl [0, 1] rfl)
            · have hd0 : Wd j 0 = 99 := eq_99 c_24
              refine lv_aload_n hx hb dX4_yearOn_129 rfl (lv_at hl 1 rfl) ?_
              refine lv_iload_n hx hb dX4_yearOn_130 rfl (lv_at hl 0 rfl) ?_
              refine lv_iconst (v := 4) hx hb dX4_yearOn_131 (by decide) ?_
              refine lv_iconst (v := 1) hx hb dX4_yearOn_132 (by decide) ?_
              refine wr_v (runV1 (As := [.int (nI j), .int 4, .int 1]) (rest := []) ⟨hx, hb, hml, hown, hts⟩ (met_X4_let l dC dI cI cW M th n d r (upW (yW j Wd) j (upd (upd (upd ((yW j Wd) j) 5 ((yW j Wd) j 5 + (Wd j 1))) 0 ((Wd j 0) + 1)) 3 ((Wd j 3) + 1))) ((intS (r 0) ch - sm (dueF Wd) j) - (Wd j 1)) ((pd + sm (dueF Wd) j) + (Wd j 1)) yr T R j hj10 4 (by omega) 1 _) (cwV 3 hts gX4_yearOn_X4_let rfl rfl rfl (by decide +kernel) ⟨Nat.le_of_ble_eq_true rfl, Nat.le_of_ble_eq_true rfl⟩) hKK hP hD 4 0 rfl rfl rfl hl.1 (Nat.le_of_ble_eq_true rfl) rfl dX4_yearOn_133 ⟨Nat.zero_le _, Nat.zero_le _⟩) hD hS hA (fun H locs hP hD hS => ?_)
              rw [upW_upW, upW_at] at hP hD
              have hP : va_P (dC, dI) vwCl (mw cI M th n d r (upW (yW j Wd) j (upd (upd (upd (upd ((yW j Wd) j) 5 ((yW j Wd) j 5 + (Wd j 1))) 0 ((Wd j 0) + 1)) 3 ((Wd j 3) + 1)) 4 1)) ((intS (r 0) ch - sm (dueF Wd) j) - (Wd j 1)) ((pd + sm (dueF Wd) j) + (Wd j 1)) yr T ++ R) H := hP
              have hD : va_D A (mw cI M th n d r (upW (yW j Wd) j (upd (upd (upd (upd ((yW j Wd) j) 5 ((yW j Wd) j 5 + (Wd j 1))) 0 ((Wd j 0) + 1)) 3 ((Wd j 3) + 1)) 4 1)) ((intS (r 0) ch - sm (dueF Wd) j) - (Wd j 1)) ((pd + sm (dueF Wd) j) + (Wd j 1)) yr T ++ R) := hD
              refine lv_iinc (v := (nI (j + 1))) (lv' := [(1, .int (nI (j + 1))), (0, .ref (M 0))]) hx hb dX4_yearOn_136 hl (k := 0) rfl (nI_1 j) (by decide) rfl (fun ls hl => ?_)
              refine lv_goto (tgt := 34) hx hb dX4_yearOn_139 (by decide) ?_
              have eG : upd (upd (upd (upd ((yW j Wd) j) 5 ((yW j Wd) j 5 + (Wd j 1))) 0 ((Wd j 0) + 1)) 3 ((Wd j 3) + 1)) 4 1 = yearW (Wd j) := by
                funext k9
                rw [hyj]
                by_cases q0 : k9 = 0
                · subst q0
                  simp [upd, yearW, hw0, hd0]
                by_cases q2 : k9 = 2
                · subst q2
                  simp [upd, yearW, hw0, hd0]
                by_cases q3 : k9 = 3
                · subst q3
                  simp [upd, yearW, hw0, hd0]
                by_cases q4 : k9 = 4
                · subst q4
                  simp [upd, yearW, hw0, hd0]
                by_cases q5 : k9 = 5
                · subst q5
                  simp [upd, yearW, hw0, hd0]
                simp [upd, yearW, q0, q2, q3, q4, q5]
              have hP : va_P (dC, dI) vwCl (mw cI M th n d r (yW (j + 1) Wd) (intS (r 0) ch - sm (dueF Wd) (j + 1)) (pd + sm (dueF Wd) (j + 1)) yr T ++ R) H := by rw [yW_yes hal, due_yes hal, if_pos hw0, ← i_assoc_sub, ← i_assoc_add, ← eG]; exact hP
              have hD : va_D A (mw cI M th n d r (yW (j + 1) Wd) (intS (r 0) ch - sm (dueF Wd) (j + 1)) (pd + sm (dueF Wd) (j + 1)) yr T ++ R) := by rw [yW_yes hal, due_yes hal, if_pos hw0, ← i_assoc_sub, ← i_assoc_add, ← eG]; exact hD
              exact ih (j + 1) (by omega) H locs hP hD hS ls (lv_sub hl [0, 1] rfl)
        · have bc_3 : ¬ ((yW j Wd) j 4 = 0) := b0.mp c_3
          have hno : ¬ Wd j 4 = 0 := by rw [hyj] at bc_3; exact bc_3
          refine lv_goto (tgt := 136) hx hb dX4_yearOn_50 (by decide) ?_
          refine lv_iinc (v := (nI (j + 1))) (lv' := [(1, .int (nI (j + 1))), (0, .ref (M 0))]) hx hb dX4_yearOn_136 hl (k := 0) rfl (nI_1 j) (by decide) rfl (fun ls hl => ?_)
          refine lv_goto (tgt := 34) hx hb dX4_yearOn_139 (by decide) ?_
          have hP : va_P (dC, dI) vwCl (mw cI M th n d r (yW (j + 1) Wd) (intS (r 0) ch - sm (dueF Wd) (j + 1)) (pd + sm (dueF Wd) (j + 1)) yr T ++ R) H := by rw [yW_no hno, due_no hno]; exact hP
          have hD : va_D A (mw cI M th n d r (yW (j + 1) Wd) (intS (r 0) ch - sm (dueF Wd) (j + 1)) (pd + sm (dueF Wd) (j + 1)) yr T ++ R) := by rw [yW_no hno, due_no hno]; exact hD
          exact ih (j + 1) (by omega) H locs hP hD hS ls (lv_sub hl [0, 1] rfl)
  refine lv_aload_n hx hb dX4_yearOn_0 rfl (lv_at hl 0 rfl) ?_
  refine va_get (D := (dC, dI)) (ci := 4) (v := .ref (M 4)) (C := RX4) (T := TX4) (N := 7) hx hb hts (by decide +kernel) hown hKK.1 hP 0 rfl rfl 5 (by decide) (hts (.fieldLink RX4 19 "WidowPenniesModel" "numbers" "[I") (by decide +kernel)) (fun _ h9 => h9) rfl dX4_yearOn_1 ?_
  refine lv_iconst (v := 1) hx hb dX4_yearOn_4 (by decide) ?_
  refine va_iald hx hb hKK.1 hP 4 0 rfl rfl (vp_in_nI (n := 1) (by omega) (by omega)) dX4_yearOn_5 ?_
  rw [show (numF yr ch pd) (1 : Int32).toNatClampNeg = (numF yr ch pd) 1 from rfl]
  rw [show ((numF yr ch pd) 1 : Int32) = ch from rfl]
  refine lv_if_le (tgt := 32) hx hb dX4_yearOn_6 (by decide) (fun c_2 => ?_) (fun c_2 => ?_)
  · refine lv_iconst (v := 0) hx hb dX4_yearOn_32 (by decide) ?_
    refine lv_istore_n (lv' := [(1, .int 0), (0, .ref (M 0))]) hx hb dX4_yearOn_33 rfl hl (by decide) rfl (fun ls hl => ?_)
    have e1 : intS (r 0) ch = ch := by rw [hI, if_neg (Int32.not_lt.mpr c_2)]
    have hP : va_P (dC, dI) vwCl (mw cI M th n d r (yW 0 Wd) (intS (r 0) ch - sm (dueF Wd) 0) (pd + sm (dueF Wd) 0) yr T ++ R) s.heap := by rw [yW_0, e1, sm, Int32.sub_zero, Int32.add_zero]; exact hP
    have hD : va_D A (mw cI M th n d r (yW 0 Wd) (intS (r 0) ch - sm (dueF Wd) 0) (pd + sm (dueF Wd) 0) yr T ++ R) := by rw [yW_0, e1, sm, Int32.sub_zero, Int32.add_zero]; exact hD
    exact key n 0 (by omega) _ _ hP hD hS ls (lv_sub hl [0, 1] rfl)
  · refine lv_aload_n hx hb dX4_yearOn_9 rfl (lv_at hl 0 rfl) ?_
    refine lv_aload_n hx hb dX4_yearOn_10 rfl (lv_at hl 0 rfl) ?_
    refine va_get (D := (dC, dI)) (ci := 4) (v := .ref (M 4)) (C := RX4) (T := TX4) (N := 7) hx hb hts (by decide +kernel) hown hKK.1 hP 0 rfl rfl 5 (by decide) (hts (.fieldLink RX4 19 "WidowPenniesModel" "numbers" "[I") (by decide +kernel)) (fun _ h9 => h9) rfl dX4_yearOn_11 ?_
    refine lv_iconst (v := 1) hx hb dX4_yearOn_14 (by decide) ?_
    refine va_iald hx hb hKK.1 hP 4 0 rfl rfl (vp_in_nI (n := 1) (by omega) (by omega)) dX4_yearOn_15 ?_
    rw [show (numF yr ch pd) (1 : Int32).toNatClampNeg = (numF yr ch pd) 1 from rfl]
    rw [show ((numF yr ch pd) 1 : Int32) = ch from rfl]
    refine lv_i2l hx hb dX4_yearOn_16 rfl ?_
    refine lv_aload_n hx hb dX4_yearOn_17 rfl (lv_at hl 0 rfl) ?_
    refine va_get (D := (dC, dI)) (ci := 4) (v := .ref (M 1)) (C := RX4) (T := TX4) (N := 7) hx hb hts (by decide +kernel) hown hKK.1 hP 0 rfl rfl 2 (by decide) (hts (.fieldLink RX4 7 "WidowPenniesModel" "rates" "[I") (by decide +kernel)) (fun _ h9 => h9) rfl dX4_yearOn_18 ?_
    refine lv_iconst (v := 0) hx hb dX4_yearOn_21 (by decide) ?_
    refine va_iald hx hb hKK.1 hP 1 0 rfl rfl (vp_in_nI (n := 0) (by omega) (by omega)) dX4_yearOn_22 ?_
    rw [show r (0 : Int32).toNatClampNeg = r 0 from rfl]
    refine lv_i2l hx hb dX4_yearOn_23 rfl ?_
    refine lv_lmul hx hb dX4_yearOn_24 ?_
    refine lv_ldc2 (v := 1000) hx hb hown (hts (.constantLong RX4 123 1000) (by decide +kernel)) dX4_yearOn_25 ?_
    refine lv_ldiv hx hb dX4_yearOn_28 (by decide) ?_
    refine wr_v (runV1 (As := [.long ((ch.toInt64 * ((r 0).toInt64)) / 1000)]) (rest := []) ⟨hx, hb, hml, hown, hts⟩ (met_X4_comeIn l dC dI cI cW M th n d r Wd ch pd yr T R ((ch.toInt64 * ((r 0).toInt64)) / 1000) _) (cwV 1 hts gX4_yearOn_X4_comeIn rfl rfl rfl (by decide +kernel) ⟨Nat.le_of_ble_eq_true rfl, Nat.le_of_ble_eq_true rfl⟩) hKK hP hD 4 0 rfl rfl rfl hl.1 (Nat.le_of_ble_eq_true rfl) rfl dX4_yearOn_29 ⟨Nat.zero_le _, Nat.zero_le _⟩) hD hS hA (fun H locs hP hD hS => ?_)
    have hP : va_P (dC, dI) vwCl (mw cI M th n d r Wd (comeS ch ((ch.toInt64 * ((r 0).toInt64)) / 1000)) pd yr T ++ R) H := hP
    have hD : va_D A (mw cI M th n d r Wd (comeS ch ((ch.toInt64 * ((r 0).toInt64)) / 1000)) pd yr T ++ R) := hD
    refine lv_iconst (v := 0) hx hb dX4_yearOn_32 (by decide) ?_
    refine lv_istore_n (lv' := [(1, .int 0), (0, .ref (M 0))]) hx hb dX4_yearOn_33 rfl hl (by decide) rfl (fun ls hl => ?_)
    have e1 : intS (r 0) ch = comeS ch ((ch.toInt64 * ((r 0).toInt64)) / 1000) := by rw [hI, if_pos (Int32.not_le.mp c_2)]
    have hP : va_P (dC, dI) vwCl (mw cI M th n d r (yW 0 Wd) (intS (r 0) ch - sm (dueF Wd) 0) (pd + sm (dueF Wd) 0) yr T ++ R) H := by rw [yW_0, e1, sm, Int32.sub_zero, Int32.add_zero]; exact hP
    have hD : va_D A (mw cI M th n d r (yW 0 Wd) (intS (r 0) ch - sm (dueF Wd) 0) (pd + sm (dueF Wd) 0) yr T ++ R) := by rw [yW_0, e1, sm, Int32.sub_zero, Int32.add_zero]; exact hD
    exact key n 0 (by omega) _ _ hP hD hS ls (lv_sub hl [0, 1] rfl)
set_option maxHeartbeats 4000000 in
set_option maxRecDepth 100000 in
theorem met_X4_yearsOn (l : Launch) (dC : Nat → ClassId) (dI : Nat → Nat → Nat) (cI cW : ClassId) (M : Nat → Nat) (th : Int32) (n : Nat) (d r : Nat → Int32) (Wd : Nat → Nat → Int32) (ch pd yr : Int32) (T : Nat → Int32) (R : va_W) (hn : n ≤ 10) (hok : ∀ k, k < n → okW (Wd k)) (y : Nat) (hy : y < 1000) (hI : ∀ j, j < y → intS (r 0) (yIter (r 0) n j (ch, pd, yr, Wd)).1 = (if 0 < (yIter (r 0) n j (ch, pd, yr, Wd)).1 then comeS (yIter (r 0) n j (ch, pd, yr, Wd)).1 ((yIter (r 0) n j (ch, pd, yr, Wd)).1.toInt64 * (r 0).toInt64 / 1000) else (yIter (r 0) n j (ch, pd, yr, Wd)).1)) (sz : Nat) : Met l yX4_yearsOn wsX4_yearsOn ({ frames := 3, cells := 0, slots := 0, locals := 66 }) (Pre1 dC dI cI cW [.ref (M 0), .int (nI y)] (mw cI M th n d r Wd ch pd yr T ++ R) sz) (Qv1 dC dI (mw cI M th n d r Wd ch pd yr T ++ R) (mw cI M th n d r ((yIter (r 0) n y (ch, pd, yr, Wd)).2.2.2) ((yIter (r 0) n y (ch, pd, yr, Wd)).1) ((yIter (r 0) n y (ch, pd, yr, Wd)).2.1) ((yIter (r 0) n y (ch, pd, yr, Wd)).2.2.1) T ++ R) sz) 0 0 (va_A (mw cI M th n d r Wd ch pd yr T ++ R) sz) := by
  refine Met.ofW (cc := cX4_yearsOn) (maxL := 3) (ret := none) (by decide) rfl ?_
  intro p e s m args below meth c s₁ B hml hv
  obtain ⟨rfl, hsz, hP, hD0, hKK⟩ := hv
  subst hsz
  have hx := B.exec
  have hb := B.bytes
  have hr := B.returns
  have hts := atoms_spec (ws := wsX4_yearsOn) B.pre
  have hown : s.vm.findClass RX4 = some m.cls := findClass_of_methodNamed B.named
  have hlocks := B.notSynchronized
  have hD := hD0.self (sz := s.heap.size)
  generalize hAe : va_A (mw cI M th n d r Wd ch pd yr T ++ R) s.heap.size = A at hD ⊢
  have hA : ∀ q : Nat, s.heap.size ≤ q → A q := fun q h => by rw [← hAe]; exact Or.inr h
  have hS : va_S A s.heap s.heap [] := va_S.rf
  have hl := lv_entry ([.ref (M 0), .int (nI y)]) (n := 3) (Nat.le_of_ble_eq_true rfl)
  rw [lg_entry_eq]
  generalize (lg_sl ([.ref (M 0), .int (nI y)]) ++ List.replicate (3 - (lg_sl ([.ref (M 0), .int (nI y)])).length) Slot.unset).toArray = ls at hl ⊢
  have hl : lv_has ls 3 [(0, .ref (M 0)), (1, .int (nI y))] := hl
  have key : ∀ (m9 j : Nat), j + m9 = y → ∀ (H : Heap) (locs : List Loc), va_P (dC, dI) vwCl (mw cI M th n d r ((yIter (r 0) n j (ch, pd, yr, Wd)).2.2.2) ((yIter (r 0) n j (ch, pd, yr, Wd)).1) ((yIter (r 0) n j (ch, pd, yr, Wd)).2.1) ((yIter (r 0) n j (ch, pd, yr, Wd)).2.2.1) T ++ R) H → va_D A (mw cI M th n d r ((yIter (r 0) n j (ch, pd, yr, Wd)).2.2.2) ((yIter (r 0) n j (ch, pd, yr, Wd)).1) ((yIter (r 0) n j (ch, pd, yr, Wd)).2.1) ((yIter (r 0) n j (ch, pd, yr, Wd)).2.2.1) T ++ R) → va_S A s.heap H locs → ∀ ls : Array Slot, lv_has ls 3 [(2, .int (nI j)), (0, .ref (M 0)), (1, .int (nI y))] → W p l e (headSpec wsX4_yearsOn ({ frames := 3, cells := 0, slots := 0, locals := 66 })).room s m (([.ref (M 0), .int (nI y)] : List Value).toArray) below meth c H locs 0 0 (MQ below (Qv1 dC dI (mw cI M th n d r Wd ch pd yr T ++ R) (mw cI M th n d r ((yIter (r 0) n y (ch, pd, yr, Wd)).2.2.2) ((yIter (r 0) n y (ch, pd, yr, Wd)).1) ((yIter (r 0) n y (ch, pd, yr, Wd)).2.1) ((yIter (r 0) n y (ch, pd, yr, Wd)).2.2.1) T ++ R) s.heap.size) ([.ref (M 0), .int (nI y)] : List Value).toArray s 0 0 A) (F0 m 2 ls []) := by
    intro m9
    induction m9 with
    | zero =>
      intro j hj H locs hP hD hS ls hl
      have hjn : j = y := by omega
      subst hjn
      refine lv_iload_n hx hb dX4_yearsOn_2 rfl (lv_at hl 0 rfl) ?_
      refine lv_iload_n hx hb dX4_yearsOn_3 rfl (lv_at hl 2 rfl) ?_
      refine lv_icmp_ge (tgt := 17) hx hb dX4_yearsOn_4 (by decide) (fun c_1 => ?_) (fun c_1 => ?_)
      · have hP9 : va_P (dC, dI) vwCl (mw cI M th n d r ((yIter (r 0) n j (ch, pd, yr, Wd)).2.2.2) ((yIter (r 0) n j (ch, pd, yr, Wd)).1) ((yIter (r 0) n j (ch, pd, yr, Wd)).2.1) ((yIter (r 0) n j (ch, pd, yr, Wd)).2.2.1) T ++ R) _ := hP
        have hD9 : va_D A (mw cI M th n d r ((yIter (r 0) n j (ch, pd, yr, Wd)).2.2.2) ((yIter (r 0) n j (ch, pd, yr, Wd)).1) ((yIter (r 0) n j (ch, pd, yr, Wd)).2.1) ((yIter (r 0) n j (ch, pd, yr, Wd)).2.2.1) T ++ R) := hD
        exact W.vret hx hb hr (fun t ht hW => ⟨⟨(), rfl, trivial, by rw [ht]; exact hP9, by rw [hAe]; exact hD9⟩, by rw [hAe]; exact hS.F ht⟩) hS.2.2 dX4_yearsOn_17
      · exact absurd (Int32.le_refl _) c_1
    | succ m9 ih =>
      intro j hj H locs hP hD hS ls hl
      refine lv_iload_n hx hb dX4_yearsOn_2 rfl (lv_at hl 0 rfl) ?_
      refine lv_iload_n hx hb dX4_yearsOn_3 rfl (lv_at hl 2 rfl) ?_
      refine lv_icmp_ge (tgt := 17) hx hb dX4_yearsOn_4 (by decide) (fun c_1 => ?_) (fun c_1 => ?_)
      · exact absurd c_1 (fun q => absurd ((le_nI (by omega)).mp q) (by omega))
      · refine lv_aload_n hx hb dX4_yearsOn_7 rfl (lv_at hl 1 rfl) ?_
        refine wr_v (runV1 (As := []) (rest := []) ⟨hx, hb, hml, hown, hts⟩ (met_X4_yearOn l dC dI cI cW M th n d r ((yIter (r 0) n j (ch, pd, yr, Wd)).2.2.2) ((yIter (r 0) n j (ch, pd, yr, Wd)).1) ((yIter (r 0) n j (ch, pd, yr, Wd)).2.1) ((yIter (r 0) n j (ch, pd, yr, Wd)).2.2.1) T R hn (okW_iter (S := (ch, pd, yr, Wd)) hok j) (hI j (by omega)) _) (cwV 0 hts gX4_yearsOn_X4_yearOn rfl rfl rfl (by decide +kernel) ⟨Nat.le_of_ble_eq_true rfl, Nat.le_of_ble_eq_true rfl⟩) hKK hP hD 4 0 rfl rfl rfl hl.1 (Nat.le_of_ble_eq_true rfl) rfl dX4_yearsOn_8 ⟨Nat.zero_le _, Nat.zero_le _⟩) hD hS hA (fun H locs hP hD hS => ?_)
        have hP : va_P (dC, dI) vwCl (mw cI M th n d r (yW n ((yIter (r 0) n j (ch, pd, yr, Wd)).2.2.2)) (intS (r 0) ((yIter (r 0) n j (ch, pd, yr, Wd)).1) - sm (dueF ((yIter (r 0) n j (ch, pd, yr, Wd)).2.2.2)) n) (((yIter (r 0) n j (ch, pd, yr, Wd)).2.1) + sm (dueF ((yIter (r 0) n j (ch, pd, yr, Wd)).2.2.2)) n) (((yIter (r 0) n j (ch, pd, yr, Wd)).2.2.1) + 1) T ++ R) H := hP
        have hD : va_D A (mw cI M th n d r (yW n ((yIter (r 0) n j (ch, pd, yr, Wd)).2.2.2)) (intS (r 0) ((yIter (r 0) n j (ch, pd, yr, Wd)).1) - sm (dueF ((yIter (r 0) n j (ch, pd, yr, Wd)).2.2.2)) n) (((yIter (r 0) n j (ch, pd, yr, Wd)).2.1) + sm (dueF ((yIter (r 0) n j (ch, pd, yr, Wd)).2.2.2)) n) (((yIter (r 0) n j (ch, pd, yr, Wd)).2.2.1) + 1) T ++ R) := hD
        refine lv_iinc (v := (nI (j + 1))) (lv' := [(2, .int (nI (j + 1))), (0, .ref (M 0)), (1, .int (nI y))]) hx hb dX4_yearsOn_11 hl (k := 0) rfl (nI_1 j) (by decide) rfl (fun ls hl => ?_)
        refine lv_goto (tgt := 2) hx hb dX4_yearsOn_14 (by decide) ?_
        exact ih (j + 1) (by omega) H locs hP hD hS ls (lv_sub hl [0, 1, 2] rfl)
  refine lv_iconst (v := 0) hx hb dX4_yearsOn_0 (by decide) ?_
  refine lv_istore_n (lv' := [(2, .int 0), (0, .ref (M 0)), (1, .int (nI y))]) hx hb dX4_yearsOn_1 rfl hl (by decide) rfl (fun ls hl => ?_)
  exact key y 0 (by omega) _ _ hP hD hS ls (lv_sub hl [0, 1, 2] rfl)
