set_option maxHeartbeats 4000000 in
set_option maxRecDepth 100000 in
theorem met_X0_isFull (l : Launch) (dC : Nat → ClassId) (dI : Nat → Nat → Nat) (cI cW : ClassId) (X Bk : Nat → Nat) (n : Nat) (ch pd pr yr : Int32) (Wd : Nat → Nat → Int32) (hn : n ≤ 10) : Met l yX0_isFull wsX0_isFull ({ frames := 0, cells := 0, slots := 0, locals := 0 }) (Pre0 dC dI cI cW [.ref (Bk 0)] (bk cW X Bk n ch pd pr yr Wd)) (vp_Si (fun z => z = (if n = 10 then (1 : Int32) else 0))) 0 0 (fun _ => False) := by
  refine Met.ofW (cc := cX0_isFull) (maxL := 1) (ret := (some .boolean)) (by decide) rfl ?_
  intro p e s m args below meth c s₁ B hml hv
  obtain ⟨rfl, hP, hKK⟩ := hv
  have hx := B.exec
  have hb := B.bytes
  have hr := B.returns
  have hts := atoms_spec (ws := wsX0_isFull) B.pre
  have hown : s.vm.findClass RX0 = some m.cls := findClass_of_methodNamed B.named
  have hlocks := B.notSynchronized
  have hl := lv_entry ([.ref (Bk 0)]) (n := 1) (Nat.le_of_ble_eq_true rfl)
  rw [lg_entry_eq]
  generalize (lg_sl ([.ref (Bk 0)]) ++ List.replicate (1 - (lg_sl ([.ref (Bk 0)])).length) Slot.unset).toArray = ls at hl ⊢
  have hl : lv_has ls 1 [(0, .ref (Bk 0))] := hl
  refine lv_aload_n hx hb dX0_isFull_0 rfl (lv_at hl 0 rfl) ?_
  refine va_get (D := (dC, dI)) (ci := 0) (v := .int (nI n)) (C := RX0) (T := TX0) (N := 7) hx hb hts (by decide +kernel) hown hKK.1 hP 0 rfl rfl 2 (by decide) (hts (.fieldLink RX0 22 "WidowPennies$Book" "written" "I") (by decide +kernel)) (fun _ h9 => h9) rfl dX0_isFull_1 ?_
  refine lv_bipush (v := 10) hx hb dX0_isFull_4 (by decide) ?_
  refine lv_icmp_lt (tgt := 13) hx hb dX0_isFull_6 (by decide) (fun c_1 => ?_) (fun c_1 => ?_)
  · refine lv_iconst (v := 0) hx hb dX0_isFull_13 (by decide) ?_
    have hz : 0 = (if n = 10 then (1 : Int32) else 0) := by rw [if_neg (show ¬ n = 10 from fun q => by subst q; exact absurd c_1 (by decide))]
    exact W.zret (v := 0) hx hb hr (by first | rfl | (split <;> rfl)) (fun t ht hW => ⟨_, rfl, hz, ht⟩) (fun q hq => absurd hq List.not_mem_nil) dX0_isFull_14
  · refine lv_iconst (v := 1) hx hb dX0_isFull_9 (by decide) ?_
    refine lv_goto (tgt := 14) hx hb dX0_isFull_10 (by decide) ?_
    have hz : 1 = (if n = 10 then (1 : Int32) else 0) := by rw [if_pos (by have h9 : ¬ n < 10 := fun q => c_1 ((lt_nI (a := n) (b := 10) (by omega)).mpr q); omega)]
    exact W.zret (v := 1) hx hb hr (by first | rfl | (split <;> rfl)) (fun t ht hW => ⟨_, rfl, hz, ht⟩) (fun q hq => absurd hq List.not_mem_nil) dX0_isFull_14
set_option maxHeartbeats 4000000 in
set_option maxRecDepth 100000 in
theorem met_X0_widowAt (l : Launch) (dC : Nat → ClassId) (dI : Nat → Nat → Nat) (cI cW : ClassId) (X Bk : Nat → Nat) (n : Nat) (ch pd pr yr : Int32) (Wd : Nat → Nat → Int32) (k : Nat) (hk : k < 10) : Met l yX0_widowAt wsX0_widowAt ({ frames := 0, cells := 0, slots := 0, locals := 0 }) (Pre0 dC dI cI cW [.ref (Bk 0), .int (nI k)] (bk cW X Bk n ch pd pr yr Wd)) (Sr0 (fun z => z = Bk (k + 2))) 0 0 (fun _ => False) := by
  refine Met.ofW (cc := cX0_widowAt) (maxL := 2) (ret := (some (.object "WidowPennies$Widow"))) (by decide) rfl ?_
  intro p e s m args below meth c s₁ B hml hv
  obtain ⟨rfl, hP, hKK⟩ := hv
  have hx := B.exec
  have hb := B.bytes
  have hr := B.returns
  have hts := atoms_spec (ws := wsX0_widowAt) B.pre
  have hown : s.vm.findClass RX0 = some m.cls := findClass_of_methodNamed B.named
  have hlocks := B.notSynchronized
  have hl := lv_entry ([.ref (Bk 0), .int (nI k)]) (n := 2) (Nat.le_of_ble_eq_true rfl)
  rw [lg_entry_eq]
  generalize (lg_sl ([.ref (Bk 0), .int (nI k)]) ++ List.replicate (2 - (lg_sl ([.ref (Bk 0), .int (nI k)])).length) Slot.unset).toArray = ls at hl ⊢
  have hl : lv_has ls 2 [(0, .ref (Bk 0)), (1, .int (nI k))] := hl
  refine lv_aload_n hx hb dX0_widowAt_0 rfl (lv_at hl 0 rfl) ?_
  refine va_get (D := (dC, dI)) (ci := 0) (v := .ref (Bk 1)) (C := RX0) (T := TX0) (N := 7) hx hb hts (by decide +kernel) hown hKK.1 hP 0 rfl rfl 1 (by decide) (hts (.fieldLink RX0 17 "WidowPennies$Book" "widows" "[LWidowPennies$Widow;") (by decide +kernel)) (fun _ h9 => h9) rfl dX0_widowAt_1 ?_
  refine lv_iload_n hx hb dX0_widowAt_4 rfl (lv_at hl 1 rfl) ?_
  refine lv_if_lt (tgt := 18) hx hb dX0_widowAt_5 (by decide) (fun c_1 => ?_) (fun c_1 => ?_)
  · exact absurd c_1 (nI_pos (by omega))
  · refine lv_iload_n hx hb dX0_widowAt_8 rfl (lv_at hl 1 rfl) ?_
    refine lv_bipush (v := 10) hx hb dX0_widowAt_9 (by decide) ?_
    refine lv_icmp_ge (tgt := 18) hx hb dX0_widowAt_11 (by decide) (fun c_2 => ?_) (fun c_2 => ?_)
    · exact absurd c_2 (nI_ge (b := 10) hk (by omega))
    · refine lv_iload_n hx hb dX0_widowAt_14 rfl (lv_at hl 1 rfl) ?_
      refine lv_goto (tgt := 19) hx hb dX0_widowAt_15 (by decide) ?_
      refine va_aldq hx hb hKK.1 hP 1 1 rfl rfl (vp_in_nI hk (by omega)) dX0_widowAt_19 ?_
      rw [show va_rf ((fun k => some (Bk (k + 2))) (nI k).toNatClampNeg) = .ref (Bk (k + 2)) from by rw [clamp_nI (show k < 2147483648 by omega)]; rfl]
      have hz : Bk (k + 2) = Bk (k + 2) := rfl
      exact W.aret (v := .ref (Bk (k + 2))) hx hb hr (Or.inl ⟨_, rfl⟩) (Or.inr ⟨_, rfl⟩) (fun t ht hW => ⟨_, rfl, hz, ht⟩) (fun q hq => absurd hq List.not_mem_nil) dX0_widowAt_20
set_option maxHeartbeats 4000000 in
set_option maxRecDepth 100000 in
theorem met_X0_living (l : Launch) (dC : Nat → ClassId) (dI : Nat → Nat → Nat) (cI cW : ClassId) (X Bk : Nat → Nat) (n : Nat) (ch pd pr yr : Int32) (Wd : Nat → Nat → Int32) (hn : n ≤ 10) : Met l yX0_living wsX0_living ({ frames := 1, cells := 0, slots := 0, locals := 21 }) (Pre0 dC dI cI cW [.ref (Bk 0)] (bk cW X Bk n ch pd pr yr Wd)) (vp_Si (fun z => z = sm (alvF Wd) n)) 0 0 (fun _ => False) := by
  refine Met.ofW (cc := cX0_living) (maxL := 3) (ret := (some .int)) (by decide) rfl ?_
  intro p e s m args below meth c s₁ B hml hv
  obtain ⟨rfl, hP, hKK⟩ := hv
  have hx := B.exec
  have hb := B.bytes
  have hr := B.returns
  have hts := atoms_spec (ws := wsX0_living) B.pre
  have hown : s.vm.findClass RX0 = some m.cls := findClass_of_methodNamed B.named
  have hlocks := B.notSynchronized
  have hl := lv_entry ([.ref (Bk 0)]) (n := 3) (Nat.le_of_ble_eq_true rfl)
  rw [lg_entry_eq]
  generalize (lg_sl ([.ref (Bk 0)]) ++ List.replicate (3 - (lg_sl ([.ref (Bk 0)])).length) Slot.unset).toArray = ls at hl ⊢
  have hl : lv_has ls 3 [(0, .ref (Bk 0))] := hl
  have key : ∀ (m9 j : Nat), j + m9 = n → ∀ ls : Array Slot, lv_has ls 3 [(2, .int (nI j)), (1, .int (sm (alvF Wd) j)), (0, .ref (Bk 0))] → W p l e (headSpec wsX0_living ({ frames := 1, cells := 0, slots := 0, locals := 21 })).room s m (([.ref (Bk 0)] : List Value).toArray) below meth c s.heap [] 0 0 (MQ below (vp_Si (fun z => z = sm (alvF Wd) n)) ([.ref (Bk 0)] : List Value).toArray s 0 0 (fun _ => False)) (F0 m 4 ls []) := by
    intro m9
    induction m9 with
    | zero =>
      intro j hj ls hl
      refine lv_iload_n hx hb dX0_living_4 rfl (lv_at hl 0 rfl) ?_
      refine lv_aload_n hx hb dX0_living_5 rfl (lv_at hl 2 rfl) ?_
      refine va_get (D := (dC, dI)) (ci := 0) (v := .int (nI n)) (C := RX0) (T := TX0) (N := 7) hx hb hts (by decide +kernel) hown hKK.1 hP 0 rfl rfl 2 (by decide) (hts (.fieldLink RX0 22 "WidowPennies$Book" "written" "I") (by decide +kernel)) (fun _ h9 => h9) rfl dX0_living_6 ?_
      refine lv_icmp_ge (tgt := 32) hx hb dX0_living_9 (by decide) (fun c_1 => ?_) (fun c_1 => ?_)
      · refine lv_iload_n hx hb dX0_living_32 rfl (lv_at hl 1 rfl) ?_
        have hz : sm (alvF Wd) j = sm (alvF Wd) n := by rw [show j = n by omega]
        exact W.iret (v := (sm (alvF Wd) j)) hx hb hr (fun t ht hW => ⟨_, rfl, hz, ht⟩) (fun q hq => absurd hq List.not_mem_nil) dX0_living_33
      · exact absurd ((le_nI (by omega)).mpr (by omega)) c_1
    | succ m9 ih =>
      intro j hj ls hl
      have hj10 : j < 10 := by omega
      refine lv_iload_n hx hb dX0_living_4 rfl (lv_at hl 0 rfl) ?_
      refine lv_aload_n hx hb dX0_living_5 rfl (lv_at hl 2 rfl) ?_
      refine va_get (D := (dC, dI)) (ci := 0) (v := .int (nI n)) (C := RX0) (T := TX0) (N := 7) hx hb hts (by decide +kernel) hown hKK.1 hP 0 rfl rfl 2 (by decide) (hts (.fieldLink RX0 22 "WidowPennies$Book" "written" "I") (by decide +kernel)) (fun _ h9 => h9) rfl dX0_living_6 ?_
      refine lv_icmp_ge (tgt := 32) hx hb dX0_living_9 (by decide) (fun c_1 => ?_) (fun c_1 => ?_)
      · exact absurd c_1 (fun q => absurd ((le_nI (by omega)).mp q) (by omega))
      · refine lv_aload_n hx hb dX0_living_12 rfl (lv_at hl 2 rfl) ?_
        refine lv_iload_n hx hb dX0_living_13 rfl (lv_at hl 0 rfl) ?_
        refine rd_r (runV0 (As := [.int (nI j)]) (rest := []) ⟨hx, hb, hml, hown, hts⟩ (met_X0_widowAt l dC dI cI cW X Bk n ch pd pr yr Wd j hj10) (cwV 1 hts gX0_living_X0_widowAt rfl rfl rfl (by decide +kernel) ⟨Nat.le_of_ble_eq_true rfl, Nat.le_of_ble_eq_true rfl⟩) hKK hP 0 0 rfl rfl rfl hl.1 (Nat.le_of_ble_eq_true rfl) rfl dX0_living_14 ⟨Nat.zero_le _, Nat.zero_le _⟩) (fun r_2 hr_2 => ?_)
        subst hr_2
        refine rd_i (runV0 (As := []) (rest := []) ⟨hx, hb, hml, hown, hts⟩ (met_X2_lives l dC dI cI cW (Bk (j + 2)) (Wd j)) (cwV 0 hts gX0_living_X2_lives rfl rfl rfl (by decide +kernel) ⟨Nat.le_of_ble_eq_true rfl, Nat.le_of_ble_eq_true rfl⟩) hKK (ws_one hP (bk_at hj10)) 2 0 rfl rfl rfl hl.1 (Nat.le_of_ble_eq_true rfl) rfl dX0_living_17 ⟨Nat.zero_le _, Nat.zero_le _⟩) (fun r_3 hr_3 => ?_)
        subst hr_3
        refine lv_if_eq (tgt := 26) hx hb dX0_living_20 (by decide) (fun c_4 => ?_) (fun c_4 => ?_)
        · have bc_4 : ¬ ((Wd j) 4 = 0) := b0.mp c_4
          have hno := bc_4
          refine lv_iinc (v := (nI (j + 1))) (lv' := [(2, .int (nI (j + 1))), (1, .int (sm (alvF Wd) j)), (0, .ref (Bk 0))]) hx hb dX0_living_26 hl (k := 0) rfl (nI_1 j) (by decide) rfl (fun ls hl => ?_)
          refine lv_goto (tgt := 4) hx hb dX0_living_29 (by decide) ?_
          have e0 : sm (alvF Wd) (j + 1) = sm (alvF Wd) j := by simp [sm, alvF, ageF, dueF, hno]
          exact ih (j + 1) (by omega) ls (hl_to (by rw [e0]; rfl) (lv_sub hl [0, 1, 2] rfl))
        · have bc_4 : (Wd j) 4 = 0 := b1.mp c_4
          have hal := bc_4
          refine lv_iinc (v := (sm (alvF Wd) (j + 1))) (lv' := [(1, .int (sm (alvF Wd) (j + 1))), (2, .int (nI j)), (0, .ref (Bk 0))]) hx hb dX0_living_23 hl (k := 1) rfl (by show sm (alvF Wd) j + 1 = _; simp [sm, alvF, ageF, hal]) (by decide) rfl (fun ls hl => ?_)
          refine lv_iinc (v := (nI (j + 1))) (lv' := [(2, .int (nI (j + 1))), (1, .int (sm (alvF Wd) (j + 1))), (0, .ref (Bk 0))]) hx hb dX0_living_26 hl (k := 1) rfl (nI_1 j) (by decide) rfl (fun ls hl => ?_)
          refine lv_goto (tgt := 4) hx hb dX0_living_29 (by decide) ?_
          exact ih (j + 1) (by omega) ls (lv_sub hl [0, 1, 2] rfl)
  refine lv_iconst (v := 0) hx hb dX0_living_0 (by decide) ?_
  refine lv_istore_n (lv' := [(1, .int 0), (0, .ref (Bk 0))]) hx hb dX0_living_1 rfl hl (by decide) rfl (fun ls hl => ?_)
  refine lv_iconst (v := 0) hx hb dX0_living_2 (by decide) ?_
  refine lv_istore_n (lv' := [(2, .int 0), (1, .int 0), (0, .ref (Bk 0))]) hx hb dX0_living_3 rfl hl (by decide) rfl (fun ls hl => ?_)
  exact key n 0 (by omega) ls (lv_sub hl [0, 1, 2] rfl)
set_option maxHeartbeats 4000000 in
set_option maxRecDepth 100000 in
theorem met_X0_agesOfLiving (l : Launch) (dC : Nat → ClassId) (dI : Nat → Nat → Nat) (cI cW : ClassId) (X Bk : Nat → Nat) (n : Nat) (ch pd pr yr : Int32) (Wd : Nat → Nat → Int32) (hn : n ≤ 10) : Met l yX0_agesOfLiving wsX0_agesOfLiving ({ frames := 1, cells := 0, slots := 0, locals := 21 }) (Pre0 dC dI cI cW [.ref (Bk 0)] (bk cW X Bk n ch pd pr yr Wd)) (vp_Si (fun z => z = sm (ageF Wd) n)) 0 0 (fun _ => False) := by
  refine Met.ofW (cc := cX0_agesOfLiving) (maxL := 4) (ret := (some .int)) (by decide) rfl ?_
  intro p e s m args below meth c s₁ B hml hv
  obtain ⟨rfl, hP, hKK⟩ := hv
  have hx := B.exec
  have hb := B.bytes
  have hr := B.returns
  have hts := atoms_spec (ws := wsX0_agesOfLiving) B.pre
  have hown : s.vm.findClass RX0 = some m.cls := findClass_of_methodNamed B.named
  have hlocks := B.notSynchronized
  have hl := lv_entry ([.ref (Bk 0)]) (n := 4) (Nat.le_of_ble_eq_true rfl)
  rw [lg_entry_eq]
  generalize (lg_sl ([.ref (Bk 0)]) ++ List.replicate (4 - (lg_sl ([.ref (Bk 0)])).length) Slot.unset).toArray = ls at hl ⊢
  have hl : lv_has ls 4 [(0, .ref (Bk 0))] := hl
  have key : ∀ (m9 j : Nat), j + m9 = n → ∀ ls : Array Slot, lv_has ls 4 [(2, .int (nI j)), (1, .int (sm (ageF Wd) j)), (0, .ref (Bk 0))] → W p l e (headSpec wsX0_agesOfLiving ({ frames := 1, cells := 0, slots := 0, locals := 21 })).room s m (([.ref (Bk 0)] : List Value).toArray) below meth c s.heap [] 0 0 (MQ below (vp_Si (fun z => z = sm (ageF Wd) n)) ([.ref (Bk 0)] : List Value).toArray s 0 0 (fun _ => False)) (F0 m 4 ls []) := by
    intro m9
    induction m9 with
    | zero =>
      intro j hj ls hl
      refine lv_iload_n hx hb dX0_agesOfLiving_4 rfl (lv_at hl 0 rfl) ?_
      refine lv_aload_n hx hb dX0_agesOfLiving_5 rfl (lv_at hl 2 rfl) ?_
      refine va_get (D := (dC, dI)) (ci := 0) (v := .int (nI n)) (C := RX0) (T := TX0) (N := 7) hx hb hts (by decide +kernel) hown hKK.1 hP 0 rfl rfl 2 (by decide) (hts (.fieldLink RX0 22 "WidowPennies$Book" "written" "I") (by decide +kernel)) (fun _ h9 => h9) rfl dX0_agesOfLiving_6 ?_
      refine lv_icmp_ge (tgt := 38) hx hb dX0_agesOfLiving_9 (by decide) (fun c_1 => ?_) (fun c_1 => ?_)
      · refine lv_iload_n hx hb dX0_agesOfLiving_38 rfl (lv_at hl 1 rfl) ?_
        have hz : sm (ageF Wd) j = sm (ageF Wd) n := by rw [show j = n by omega]
        exact W.iret (v := (sm (ageF Wd) j)) hx hb hr (fun t ht hW => ⟨_, rfl, hz, ht⟩) (fun q hq => absurd hq List.not_mem_nil) dX0_agesOfLiving_39
      · exact absurd ((le_nI (by omega)).mpr (by omega)) c_1
    | succ m9 ih =>
      intro j hj ls hl
      have hj10 : j < 10 := by omega
      refine lv_iload_n hx hb dX0_agesOfLiving_4 rfl (lv_at hl 0 rfl) ?_
      refine lv_aload_n hx hb dX0_agesOfLiving_5 rfl (lv_at hl 2 rfl) ?_
      refine va_get (D := (dC, dI)) (ci := 0) (v := .int (nI n)) (C := RX0) (T := TX0) (N := 7) hx hb hts (by decide +kernel) hown hKK.1 hP 0 rfl rfl 2 (by decide) (hts (.fieldLink RX0 22 "WidowPennies$Book" "written" "I") (by decide +kernel)) (fun _ h9 => h9) rfl dX0_agesOfLiving_6 ?_
      refine lv_icmp_ge (tgt := 38) hx hb dX0_agesOfLiving_9 (by decide) (fun c_1 => ?_) (fun c_1 => ?_)
      · exact absurd c_1 (fun q => absurd ((le_nI (by omega)).mp q) (by omega))
      · refine lv_aload_n hx hb dX0_agesOfLiving_12 rfl (lv_at hl 2 rfl) ?_
        refine lv_iload_n hx hb dX0_agesOfLiving_13 rfl (lv_at hl 0 rfl) ?_
        refine rd_r (runV0 (As := [.int (nI j)]) (rest := []) ⟨hx, hb, hml, hown, hts⟩ (met_X0_widowAt l dC dI cI cW X Bk n ch pd pr yr Wd j hj10) (cwV 1 hts gX0_agesOfLiving_X0_widowAt rfl rfl rfl (by decide +kernel) ⟨Nat.le_of_ble_eq_true rfl, Nat.le_of_ble_eq_true rfl⟩) hKK hP 0 0 rfl rfl rfl hl.1 (Nat.le_of_ble_eq_true rfl) rfl dX0_agesOfLiving_14 ⟨Nat.zero_le _, Nat.zero_le _⟩) (fun r_2 hr_2 => ?_)
        subst hr_2
        refine lv_astore_n (lv' := [(3, .ref (Bk (j + 2))), (2, .int (nI j)), (1, .int (sm (ageF Wd) j)), (0, .ref (Bk 0))]) hx hb dX0_agesOfLiving_17 rfl hl (by decide) rfl (fun ls hl => ?_)
        refine lv_aload_n hx hb dX0_agesOfLiving_18 rfl (lv_at hl 0 rfl) ?_
        refine rd_i (runV0 (As := []) (rest := []) ⟨hx, hb, hml, hown, hts⟩ (met_X2_lives l dC dI cI cW (Bk (j + 2)) (Wd j)) (cwV 0 hts gX0_agesOfLiving_X2_lives rfl rfl rfl (by decide +kernel) ⟨Nat.le_of_ble_eq_true rfl, Nat.le_of_ble_eq_true rfl⟩) hKK (ws_one hP (bk_at hj10)) 2 0 rfl rfl rfl hl.1 (Nat.le_of_ble_eq_true rfl) rfl dX0_agesOfLiving_19 ⟨Nat.zero_le _, Nat.zero_le _⟩) (fun r_3 hr_3 => ?_)
        subst hr_3
        refine lv_if_eq (tgt := 32) hx hb dX0_agesOfLiving_22 (by decide) (fun c_4 => ?_) (fun c_4 => ?_)
        · have bc_4 : ¬ ((Wd j) 4 = 0) := b0.mp c_4
          have hno := bc_4
          refine lv_iinc (v := (nI (j + 1))) (lv' := [(2, .int (nI (j + 1))), (3, .ref (Bk (j + 2))), (1, .int (sm (ageF Wd) j)), (0, .ref (Bk 0))]) hx hb dX0_agesOfLiving_32 hl (k := 1) rfl (nI_1 j) (by decide) rfl (fun ls hl => ?_)
          refine lv_goto (tgt := 4) hx hb dX0_agesOfLiving_35 (by decide) ?_
          have e0 : sm (ageF Wd) (j + 1) = sm (ageF Wd) j := by simp [sm, alvF, ageF, dueF, hno]
          exact ih (j + 1) (by omega) ls (hl_to (by rw [e0]; rfl) (lv_sub hl [0, 2, 3] rfl))
        · have bc_4 : (Wd j) 4 = 0 := b1.mp c_4
          have hal := bc_4
          refine lv_iload_n hx hb dX0_agesOfLiving_25 rfl (lv_at hl 2 rfl) ?_
          refine lv_aload_n hx hb dX0_agesOfLiving_26 rfl (lv_at hl 0 rfl) ?_
          refine va_get (D := (dC, dI)) (ci := 2) (v := .int (Wd j 0)) (C := RX2) (T := TX2) (N := 7) hx hb hts (by decide +kernel) hown hKK.1 hP (j + 2) (bk_at hj10) rfl 0 (by decide) (hts (.fieldLink RX0 90 "WidowPennies$Widow" "age" "I") (by decide +kernel)) (fun _ h9 => h9) rfl dX0_agesOfLiving_27 ?_
          refine lv_iadd hx hb dX0_agesOfLiving_30 ?_
          rw [show ((sm (ageF Wd) j) + (Wd j 0) : Int32) = sm (ageF Wd) (j + 1) from by simp [sm, alvF, ageF, hal]]
          refine lv_istore_n (lv' := [(1, .int (sm (ageF Wd) (j + 1))), (3, .ref (Bk (j + 2))), (2, .int (nI j)), (0, .ref (Bk 0))]) hx hb dX0_agesOfLiving_31 rfl hl (by decide) rfl (fun ls hl => ?_)
          refine lv_iinc (v := (nI (j + 1))) (lv' := [(2, .int (nI (j + 1))), (1, .int (sm (ageF Wd) (j + 1))), (3, .ref (Bk (j + 2))), (0, .ref (Bk 0))]) hx hb dX0_agesOfLiving_32 hl (k := 2) rfl (nI_1 j) (by decide) rfl (fun ls hl => ?_)
          refine lv_goto (tgt := 4) hx hb dX0_agesOfLiving_35 (by decide) ?_
          exact ih (j + 1) (by omega) ls (lv_sub hl [0, 1, 3] rfl)
  refine lv_iconst (v := 0) hx hb dX0_agesOfLiving_0 (by decide) ?_
  refine lv_istore_n (lv' := [(1, .int 0), (0, .ref (Bk 0))]) hx hb dX0_agesOfLiving_1 rfl hl (by decide) rfl (fun ls hl => ?_)
  refine lv_iconst (v := 0) hx hb dX0_agesOfLiving_2 (by decide) ?_
  refine lv_istore_n (lv' := [(2, .int 0), (1, .int 0), (0, .ref (Bk 0))]) hx hb dX0_agesOfLiving_3 rfl hl (by decide) rfl (fun ls hl => ?_)
  exact key n 0 (by omega) ls (lv_sub hl [0, 1, 2] rfl)
set_option maxHeartbeats 4000000 in
set_option maxRecDepth 100000 in
theorem met_X0_sumsDue (l : Launch) (dC : Nat → ClassId) (dI : Nat → Nat → Nat) (cI cW : ClassId) (X Bk : Nat → Nat) (n : Nat) (ch pd pr yr : Int32) (Wd : Nat → Nat → Int32) (hn : n ≤ 10) : Met l yX0_sumsDue wsX0_sumsDue ({ frames := 1, cells := 0, slots := 0, locals := 21 }) (Pre0 dC dI cI cW [.ref (Bk 0)] (bk cW X Bk n ch pd pr yr Wd)) (vp_Si (fun z => z = sm (dueF Wd) n)) 0 0 (fun _ => False) := by
  refine Met.ofW (cc := cX0_sumsDue) (maxL := 4) (ret := (some .int)) (by decide) rfl ?_
  intro p e s m args below meth c s₁ B hml hv
  obtain ⟨rfl, hP, hKK⟩ := hv
  have hx := B.exec
  have hb := B.bytes
  have hr := B.returns
  have hts := atoms_spec (ws := wsX0_sumsDue) B.pre
  have hown : s.vm.findClass RX0 = some m.cls := findClass_of_methodNamed B.named
  have hlocks := B.notSynchronized
  have hl := lv_entry ([.ref (Bk 0)]) (n := 4) (Nat.le_of_ble_eq_true rfl)
  rw [lg_entry_eq]
  generalize (lg_sl ([.ref (Bk 0)]) ++ List.replicate (4 - (lg_sl ([.ref (Bk 0)])).length) Slot.unset).toArray = ls at hl ⊢
  have hl : lv_has ls 4 [(0, .ref (Bk 0))] := hl
  have key : ∀ (m9 j : Nat), j + m9 = n → ∀ ls : Array Slot, lv_has ls 4 [(2, .int (nI j)), (1, .int (sm (dueF Wd) j)), (0, .ref (Bk 0))] → W p l e (headSpec wsX0_sumsDue ({ frames := 1, cells := 0, slots := 0, locals := 21 })).room s m (([.ref (Bk 0)] : List Value).toArray) below meth c s.heap [] 0 0 (MQ below (vp_Si (fun z => z = sm (dueF Wd) n)) ([.ref (Bk 0)] : List Value).toArray s 0 0 (fun _ => False)) (F0 m 4 ls []) := by
    intro m9
    induction m9 with
    | zero =>
      intro j hj ls hl
      refine lv_iload_n hx hb dX0_sumsDue_4 rfl (lv_at hl 0 rfl) ?_
      refine lv_aload_n hx hb dX0_sumsDue_5 rfl (lv_at hl 2 rfl) ?_
      refine va_get (D := (dC, dI)) (ci := 0) (v := .int (nI n)) (C := RX0) (T := TX0) (N := 7) hx hb hts (by decide +kernel) hown hKK.1 hP 0 rfl rfl 2 (by decide) (hts (.fieldLink RX0 22 "WidowPennies$Book" "written" "I") (by decide +kernel)) (fun _ h9 => h9) rfl dX0_sumsDue_6 ?_
      refine lv_icmp_ge (tgt := 45) hx hb dX0_sumsDue_9 (by decide) (fun c_1 => ?_) (fun c_1 => ?_)
      · refine lv_iload_n hx hb dX0_sumsDue_45 rfl (lv_at hl 1 rfl) ?_
        have hz : sm (dueF Wd) j = sm (dueF Wd) n := by rw [show j = n by omega]
        exact W.iret (v := (sm (dueF Wd) j)) hx hb hr (fun t ht hW => ⟨_, rfl, hz, ht⟩) (fun q hq => absurd hq List.not_mem_nil) dX0_sumsDue_46
      · exact absurd ((le_nI (by omega)).mpr (by omega)) c_1
    | succ m9 ih =>
      intro j hj ls hl
      have hj10 : j < 10 := by omega
      refine lv_iload_n hx hb dX0_sumsDue_4 rfl (lv_at hl 0 rfl) ?_
      refine lv_aload_n hx hb dX0_sumsDue_5 rfl (lv_at hl 2 rfl) ?_
      refine va_get (D := (dC, dI)) (ci := 0) (v := .int (nI n)) (C := RX0) (T := TX0) (N := 7) hx hb hts (by decide +kernel) hown hKK.1 hP 0 rfl rfl 2 (by decide) (hts (.fieldLink RX0 22 "WidowPennies$Book" "written" "I") (by decide +kernel)) (fun _ h9 => h9) rfl dX0_sumsDue_6 ?_
      refine lv_icmp_ge (tgt := 45) hx hb dX0_sumsDue_9 (by decide) (fun c_1 => ?_) (fun c_1 => ?_)
      · exact absurd c_1 (fun q => absurd ((le_nI (by omega)).mp q) (by omega))
      · refine lv_aload_n hx hb dX0_sumsDue_12 rfl (lv_at hl 2 rfl) ?_
        refine lv_iload_n hx hb dX0_sumsDue_13 rfl (lv_at hl 0 rfl) ?_
        refine rd_r (runV0 (As := [.int (nI j)]) (rest := []) ⟨hx, hb, hml, hown, hts⟩ (met_X0_widowAt l dC dI cI cW X Bk n ch pd pr yr Wd j hj10) (cwV 1 hts gX0_sumsDue_X0_widowAt rfl rfl rfl (by decide +kernel) ⟨Nat.le_of_ble_eq_true rfl, Nat.le_of_ble_eq_true rfl⟩) hKK hP 0 0 rfl rfl rfl hl.1 (Nat.le_of_ble_eq_true rfl) rfl dX0_sumsDue_14 ⟨Nat.zero_le _, Nat.zero_le _⟩) (fun r_2 hr_2 => ?_)
        subst hr_2
        refine lv_astore_n (lv' := [(3, .ref (Bk (j + 2))), (2, .int (nI j)), (1, .int (sm (dueF Wd) j)), (0, .ref (Bk 0))]) hx hb dX0_sumsDue_17 rfl hl (by decide) rfl (fun ls hl => ?_)
        refine lv_aload_n hx hb dX0_sumsDue_18 rfl (lv_at hl 0 rfl) ?_
        refine rd_i (runV0 (As := []) (rest := []) ⟨hx, hb, hml, hown, hts⟩ (met_X2_lives l dC dI cI cW (Bk (j + 2)) (Wd j)) (cwV 0 hts gX0_sumsDue_X2_lives rfl rfl rfl (by decide +kernel) ⟨Nat.le_of_ble_eq_true rfl, Nat.le_of_ble_eq_true rfl⟩) hKK (ws_one hP (bk_at hj10)) 2 0 rfl rfl rfl hl.1 (Nat.le_of_ble_eq_true rfl) rfl dX0_sumsDue_19 ⟨Nat.zero_le _, Nat.zero_le _⟩) (fun r_3 hr_3 => ?_)
        subst hr_3
        refine lv_if_eq (tgt := 39) hx hb dX0_sumsDue_22 (by decide) (fun c_4 => ?_) (fun c_4 => ?_)
        · have bc_4 : ¬ ((Wd j) 4 = 0) := b0.mp c_4
          have hno : ¬ (Wd j 4 = 0 ∧ Wd j 2 = 0) := fun q => bc_4 q.1
          refine lv_iinc (v := (nI (j + 1))) (lv' := [(2, .int (nI (j + 1))), (3, .ref (Bk (j + 2))), (1, .int (sm (dueF Wd) j)), (0, .ref (Bk 0))]) hx hb dX0_sumsDue_39 hl (k := 1) rfl (nI_1 j) (by decide) rfl (fun ls hl => ?_)
          refine lv_goto (tgt := 4) hx hb dX0_sumsDue_42 (by decide) ?_
          have e0 : sm (dueF Wd) (j + 1) = sm (dueF Wd) j := by simp [sm, alvF, ageF, dueF, hno]
          exact ih (j + 1) (by omega) ls (hl_to (by rw [e0]; rfl) (lv_sub hl [0, 2, 3] rfl))
        · have bc_4 : (Wd j) 4 = 0 := b1.mp c_4
          have hal := bc_4
          refine lv_aload_n hx hb dX0_sumsDue_25 rfl (lv_at hl 0 rfl) ?_
          refine va_get (D := (dC, dI)) (ci := 2) (v := .int (Wd j 2)) (C := RX2) (T := TX2) (N := 7) hx hb hts (by decide +kernel) hown hKK.1 hP (j + 2) (bk_at hj10) rfl 2 (by decide) (hts (.fieldLink RX0 93 "WidowPennies$Widow" "wait" "I") (by decide +kernel)) (fun _ h9 => h9) rfl dX0_sumsDue_26 ?_
          refine lv_if_ne (tgt := 39) hx hb dX0_sumsDue_29 (by decide) (fun c_5 => ?_) (fun c_5 => ?_)
          · have hno : ¬ (Wd j 4 = 0 ∧ Wd j 2 = 0) := fun q => c_5 q.2
            refine lv_iinc (v := (nI (j + 1))) (lv' := [(2, .int (nI (j + 1))), (3, .ref (Bk (j + 2))), (1, .int (sm (dueF Wd) j)), (0, .ref (Bk 0))]) hx hb dX0_sumsDue_39 hl (k := 1) rfl (nI_1 j) (by decide) rfl (fun ls hl => ?_)
            refine lv_goto (tgt := 4) hx hb dX0_sumsDue_42 (by decide) ?_
            have e0 : sm (dueF Wd) (j + 1) = sm (dueF Wd) j := by simp [sm, alvF, ageF, dueF, hno]
            exact ih (j + 1) (by omega) ls (hl_to (by rw [e0]; rfl) (lv_sub hl [0, 2, 3] rfl))
          · have hw0 := c_5
            refine lv_iload_n hx hb dX0_sumsDue_32 rfl (lv_at hl 2 rfl) ?_
            refine lv_aload_n hx hb dX0_sumsDue_33 rfl (lv_at hl 0 rfl) ?_
            refine va_get (D := (dC, dI)) (ci := 2) (v := .int (Wd j 1)) (C := RX2) (T := TX2) (N := 7) hx hb hts (by decide +kernel) hown hKK.1 hP (j + 2) (bk_at hj10) rfl 1 (by decide) (hts (.fieldLink RX0 96 "WidowPennies$Widow" "sum" "I") (by decide +kernel)) (fun _ h9 => h9) rfl dX0_sumsDue_34 ?_
            refine lv_iadd hx hb dX0_sumsDue_37 ?_
            rw [show ((sm (dueF Wd) j) + (Wd j 1) : Int32) = sm (dueF Wd) (j + 1) from by simp [sm, dueF, hal, hw0]]
            refine lv_istore_n (lv' := [(1, .int (sm (dueF Wd) (j + 1))), (3, .ref (Bk (j + 2))), (2, .int (nI j)), (0, .ref (Bk 0))]) hx hb dX0_sumsDue_38 rfl hl (by decide) rfl (fun ls hl => ?_)
            refine lv_iinc (v := (nI (j + 1))) (lv' := [(2, .int (nI (j + 1))), (1, .int (sm (dueF Wd) (j + 1))), (3, .ref (Bk (j + 2))), (0, .ref (Bk 0))]) hx hb dX0_sumsDue_39 hl (k := 2) rfl (nI_1 j) (by decide) rfl (fun ls hl => ?_)
            refine lv_goto (tgt := 4) hx hb dX0_sumsDue_42 (by decide) ?_
            exact ih (j + 1) (by omega) ls (lv_sub hl [0, 1, 3] rfl)
  refine lv_iconst (v := 0) hx hb dX0_sumsDue_0 (by decide) ?_
  refine lv_istore_n (lv' := [(1, .int 0), (0, .ref (Bk 0))]) hx hb dX0_sumsDue_1 rfl hl (by decide) rfl (fun ls hl => ?_)
  refine lv_iconst (v := 0) hx hb dX0_sumsDue_2 (by decide) ?_
  refine lv_istore_n (lv' := [(2, .int 0), (1, .int 0), (0, .ref (Bk 0))]) hx hb dX0_sumsDue_3 rfl hl (by decide) rfl (fun ls hl => ?_)
  exact key n 0 (by omega) ls (lv_sub hl [0, 1, 2] rfl)
set_option maxHeartbeats 4000000 in
set_option maxRecDepth 100000 in
theorem met_X0_keptForAll (l : Launch) (dC : Nat → ClassId) (dI : Nat → Nat → Nat) (cI cW : ClassId) (X Bk : Nat → Nat) (d r : Nat → Int32) (n : Nat) (ch pd pr yr : Int32) (Wd : Nat → Nat → Int32) (R : va_W) (hn : n ≤ 10) (hok : ∀ k, k < n → okW (Wd k)) (i : Int32) (hi : ¬ (1000 : Int32) + i = 0) (hi0 : ¬ i < 0) : Met l yX0_keptForAll wsX0_keptForAll ({ frames := 4, cells := 0, slots := 0, locals := 90 }) (Pre0 dC dI cI cW [.ref (Bk 0), .int i] (tab cI X d r ++ (bk cW X Bk n ch pd pr yr Wd ++ R))) (vp_Si (fun z => z = sm (kptF d i Wd) n)) 0 0 (fun _ => False) := by
  refine Met.ofW (cc := cX0_keptForAll) (maxL := 4) (ret := (some .int)) (by decide) rfl ?_
  intro p e s m args below meth c s₁ B hml hv
  obtain ⟨rfl, hP, hKK⟩ := hv
  have hx := B.exec
  have hb := B.bytes
  have hr := B.returns
  have hts := atoms_spec (ws := wsX0_keptForAll) B.pre
  have hown : s.vm.findClass RX0 = some m.cls := findClass_of_methodNamed B.named
  have hlocks := B.notSynchronized
  have hl := lv_entry ([.ref (Bk 0), .int i]) (n := 4) (Nat.le_of_ble_eq_true rfl)
  rw [lg_entry_eq]
  generalize (lg_sl ([.ref (Bk 0), .int i]) ++ List.replicate (4 - (lg_sl ([.ref (Bk 0), .int i])).length) Slot.unset).toArray = ls at hl ⊢
  have hl : lv_has ls 4 [(0, .ref (Bk 0)), (1, .int i)] := hl
  have key : ∀ (m9 j : Nat), j + m9 = n → ∀ ls : Array Slot, lv_has ls 4 [(3, .int (nI j)), (2, .int (sm (kptF d i Wd) j)), (0, .ref (Bk 0)), (1, .int i)] → W p l e (headSpec wsX0_keptForAll ({ frames := 4, cells := 0, slots := 0, locals := 90 })).room s m (([.ref (Bk 0), .int i] : List Value).toArray) below meth c s.heap [] 0 0 (MQ below (vp_Si (fun z => z = sm (kptF d i Wd) n)) ([.ref (Bk 0), .int i] : List Value).toArray s 0 0 (fun _ => False)) (F0 m 4 ls []) := by
    intro m9
    induction m9 with
    | zero =>
      intro j hj ls hl
      refine lv_iload_n hx hb dX0_keptForAll_4 rfl (lv_at hl 0 rfl) ?_
      refine lv_aload_n hx hb dX0_keptForAll_5 rfl (lv_at hl 2 rfl) ?_
      refine va_get (D := (dC, dI)) (ci := 0) (v := .int (nI n)) (C := RX0) (T := TX0) (N := 7) hx hb hts (by decide +kernel) hown hKK.1 hP 3 rfl rfl 2 (by decide) (hts (.fieldLink RX0 22 "WidowPennies$Book" "written" "I") (by decide +kernel)) (fun _ h9 => h9) rfl dX0_keptForAll_6 ?_
      refine lv_icmp_ge (tgt := 34) hx hb dX0_keptForAll_9 (by decide) (fun c_1 => ?_) (fun c_1 => ?_)
      · refine lv_iload_n hx hb dX0_keptForAll_34 rfl (lv_at hl 1 rfl) ?_
        have hz : sm (kptF d i Wd) j = sm (kptF d i Wd) n := by rw [show j = n by omega]
        exact W.iret (v := (sm (kptF d i Wd) j)) hx hb hr (fun t ht hW => ⟨_, rfl, hz, ht⟩) (fun q hq => absurd hq List.not_mem_nil) dX0_keptForAll_35
      · exact absurd ((le_nI (by omega)).mpr (by omega)) c_1
    | succ m9 ih =>
      intro j hj ls hl
      have hj10 : j < 10 := by omega
      refine lv_iload_n hx hb dX0_keptForAll_4 rfl (lv_at hl 0 rfl) ?_
      refine lv_aload_n hx hb dX0_keptForAll_5 rfl (lv_at hl 2 rfl) ?_
      refine va_get (D := (dC, dI)) (ci := 0) (v := .int (nI n)) (C := RX0) (T := TX0) (N := 7) hx hb hts (by decide +kernel) hown hKK.1 hP 3 rfl rfl 2 (by decide) (hts (.fieldLink RX0 22 "WidowPennies$Book" "written" "I") (by decide +kernel)) (fun _ h9 => h9) rfl dX0_keptForAll_6 ?_
      refine lv_icmp_ge (tgt := 34) hx hb dX0_keptForAll_9 (by decide) (fun c_1 => ?_) (fun c_1 => ?_)
      · exact absurd c_1 (fun q => absurd ((le_nI (by omega)).mp q) (by omega))
      · refine lv_iload_n hx hb dX0_keptForAll_12 rfl (lv_at hl 1 rfl) ?_
        refine lv_aload_n hx hb dX0_keptForAll_13 rfl (lv_at hl 2 rfl) ?_
        refine va_get (D := (dC, dI)) (ci := 0) (v := .ref (X 1)) (C := RX0) (T := TX0) (N := 7) hx hb hts (by decide +kernel) hown hKK.1 hP 3 rfl rfl 0 (by decide) (hts (.fieldLink RX0 9 "WidowPennies$Book" "tables" "LWidowPennies$Tables;") (by decide +kernel)) (fun _ h9 => h9) rfl dX0_keptForAll_14 ?_
        refine lv_aload_n hx hb dX0_keptForAll_17 rfl (lv_at hl 2 rfl) ?_
        refine lv_iload_n hx hb dX0_keptForAll_18 rfl (lv_at hl 0 rfl) ?_
        refine rd_r (runV0 (As := [.int (nI j)]) (rest := [.ref (X 1), .int (sm (kptF d i Wd) j)]) ⟨hx, hb, hml, hown, hts⟩ (met_X0_widowAt l dC dI cI cW X Bk n ch pd pr yr Wd j hj10) (cwV 1 hts gX0_keptForAll_X0_widowAt rfl rfl rfl (by decide +kernel) ⟨Nat.le_of_ble_eq_true rfl, Nat.le_of_ble_eq_true rfl⟩) hKK (ws_left (ws_right hP)) 0 0 rfl rfl rfl hl.1 (Nat.le_of_ble_eq_true rfl) rfl dX0_keptForAll_19 ⟨Nat.zero_le _, Nat.zero_le _⟩) (fun r_2 hr_2 => ?_)
        subst hr_2
        refine lv_iload_n hx hb dX0_keptForAll_22 rfl (lv_at hl 3 rfl) ?_
        refine rd_i (runV0 (As := [.ref (Bk (j + 2)), .int i]) (rest := [.int (sm (kptF d i Wd) j)]) ⟨hx, hb, hml, hown, hts⟩ (met_X1_keptWith l dC dI cI cW X d r (Bk (j + 2)) (Wd j) (hok j (by omega)) i hi hi0) (cwV 2 hts gX0_keptForAll_X1_keptWith rfl rfl rfl (by decide +kernel) ⟨Nat.le_of_ble_eq_true rfl, Nat.le_of_ble_eq_true rfl⟩) hKK ((ws_left hP).app (ws_one hP (bw_at hj10))) 1 0 rfl rfl rfl hl.1 (Nat.le_of_ble_eq_true rfl) rfl dX0_keptForAll_23 ⟨Nat.zero_le _, Nat.zero_le _⟩) (fun r_3 hr_3 => ?_)
        subst hr_3
        refine lv_iadd hx hb dX0_keptForAll_26 ?_
        rw [show ((sm (kptF d i Wd) j) + (keptS d i (Wd j)) : Int32) = sm (kptF d i Wd) (j + 1) from by simp [sm, kptF]]
        refine lv_istore_n (lv' := [(2, .int (sm (kptF d i Wd) (j + 1))), (3, .int (nI j)), (0, .ref (Bk 0)), (1, .int i)]) hx hb dX0_keptForAll_27 rfl hl (by decide) rfl (fun ls hl => ?_)
        refine lv_iinc (v := (nI (j + 1))) (lv' := [(3, .int (nI (j + 1))), (2, .int (sm (kptF d i Wd) (j + 1))), (0, .ref (Bk 0)), (1, .int i)]) hx hb dX0_keptForAll_28 hl (k := 1) rfl (nI_1 j) (by decide) rfl (fun ls hl => ?_)
        refine lv_goto (tgt := 4) hx hb dX0_keptForAll_31 (by decide) ?_
        exact ih (j + 1) (by omega) ls (lv_sub hl [0, 1, 2, 3] rfl)
  refine lv_iconst (v := 0) hx hb dX0_keptForAll_0 (by decide) ?_
  refine lv_istore_n (lv' := [(2, .int 0), (0, .ref (Bk 0)), (1, .int i)]) hx hb dX0_keptForAll_1 rfl hl (by decide) rfl (fun ls hl => ?_)
  refine lv_iconst (v := 0) hx hb dX0_keptForAll_2 (by decide) ?_
  refine lv_istore_n (lv' := [(3, .int 0), (2, .int 0), (0, .ref (Bk 0)), (1, .int i)]) hx hb dX0_keptForAll_3 rfl hl (by decide) rfl (fun ls hl => ?_)
  exact key n 0 (by omega) ls (lv_sub hl [0, 1, 2, 3] rfl)
set_option maxHeartbeats 4000000 in
set_option maxRecDepth 100000 in
theorem met_X0_tell (l : Launch) (dC : Nat → ClassId) (dI : Nat → Nat → Nat) (cI cW : ClassId) (X Bk : Nat → Nat) (d r : Nat → Int32) (n : Nat) (ch pd pr yr : Int32) (Wd : Nat → Nat → Int32) (R : va_W) (hn : n ≤ 10) (hok : ∀ k, k < n → okW (Wd k)) (k : Nat) (hk : k < 9) (hi : ¬ (1000 : Int32) + r 0 = 0) (hi0 : ¬ r 0 < 0) : Met l yX0_tell wsX0_tell ({ frames := 5, cells := 0, slots := 0, locals := 113 }) (Pre0 dC dI cI cW [.ref (Bk 0), .int (nI k)] (tab cI X d r ++ (bk cW X Bk n ch pd pr yr Wd ++ R))) (vp_Si (fun z => z = countS d r n ch pd pr yr Wd k)) 0 0 (fun _ => False) := by
  refine Met.ofW (cc := cX0_tell) (maxL := 2) (ret := (some .int)) (by decide) rfl ?_
  intro p e s m args below meth c s₁ B hml hv
  obtain ⟨rfl, hP, hKK⟩ := hv
  have hx := B.exec
  have hb := B.bytes
  have hr := B.returns
  have hts := atoms_spec (ws := wsX0_tell) B.pre
  have hown : s.vm.findClass RX0 = some m.cls := findClass_of_methodNamed B.named
  have hlocks := B.notSynchronized
  have hl := lv_entry ([.ref (Bk 0), .int (nI k)]) (n := 2) (Nat.le_of_ble_eq_true rfl)
  rw [lg_entry_eq]
  generalize (lg_sl ([.ref (Bk 0), .int (nI k)]) ++ List.replicate (2 - (lg_sl ([.ref (Bk 0), .int (nI k)])).length) Slot.unset).toArray = ls at hl ⊢
  have hl : lv_has ls 2 [(0, .ref (Bk 0)), (1, .int (nI k))] := hl
  rcases (show k = 0 ∨ k = 1 ∨ k = 2 ∨ k = 3 ∨ k = 4 ∨ k = 5 ∨ k = 6 ∨ k = 7 ∨ k = 8 by omega) with rfl | rfl | rfl | rfl | rfl | rfl | rfl | rfl | rfl
  · refine lv_iload_n hx hb dX0_tell_0 rfl (lv_at hl 1 rfl) ?_
    refine lv_tableIn (tgt := 48) (off := 47) hx hb dX0_tell_1 (by decide) (by decide) rfl (by decide) ?_
    refine lv_aload_n hx hb dX0_tell_48 rfl (lv_at hl 0 rfl) ?_
    refine va_get (D := (dC, dI)) (ci := 0) (v := .int yr) (C := RX0) (T := TX0) (N := 7) hx hb hts (by decide +kernel) hown hKK.1 hP 3 rfl rfl 6 (by decide) (hts (.fieldLink RX0 48 "WidowPennies$Book" "year" "I") (by decide +kernel)) (fun _ h9 => h9) rfl dX0_tell_49 ?_
    have hz : yr = countS d r n ch pd pr yr Wd 0 := rfl
    exact W.iret (v := yr) hx hb hr (fun t ht hW => ⟨_, rfl, hz, ht⟩) (fun q hq => absurd hq List.not_mem_nil) dX0_tell_52
  · refine lv_iload_n hx hb dX0_tell_0 rfl (lv_at hl 1 rfl) ?_
    refine lv_tableIn (tgt := 53) (off := 52) hx hb dX0_tell_1 (by decide) (by decide) rfl (by decide) ?_
    refine lv_aload_n hx hb dX0_tell_53 rfl (lv_at hl 0 rfl) ?_
    refine va_get (D := (dC, dI)) (ci := 0) (v := .int (nI n)) (C := RX0) (T := TX0) (N := 7) hx hb hts (by decide +kernel) hown hKK.1 hP 3 rfl rfl 2 (by decide) (hts (.fieldLink RX0 22 "WidowPennies$Book" "written" "I") (by decide +kernel)) (fun _ h9 => h9) rfl dX0_tell_54 ?_
    have hz : nI n = countS d r n ch pd pr yr Wd 1 := rfl
    exact W.iret (v := (nI n)) hx hb hr (fun t ht hW => ⟨_, rfl, hz, ht⟩) (fun q hq => absurd hq List.not_mem_nil) dX0_tell_57
  · refine lv_iload_n hx hb dX0_tell_0 rfl (lv_at hl 1 rfl) ?_
    refine lv_tableIn (tgt := 58) (off := 57) hx hb dX0_tell_1 (by decide) (by decide) rfl (by decide) ?_
    refine lv_aload_n hx hb dX0_tell_58 rfl (lv_at hl 0 rfl) ?_
    refine rd_i (runV0 (As := []) (rest := []) ⟨hx, hb, hml, hown, hts⟩ (met_X0_living l dC dI cI cW X Bk n ch pd pr yr Wd hn) (cwV 0 hts gX0_tell_X0_living rfl rfl rfl (by decide +kernel) ⟨Nat.le_of_ble_eq_true rfl, Nat.le_of_ble_eq_true rfl⟩) hKK (ws_left (ws_right hP)) 0 0 rfl rfl rfl hl.1 (Nat.le_of_ble_eq_true rfl) rfl dX0_tell_59 ⟨Nat.zero_le _, Nat.zero_le _⟩) (fun r_1 hr_1 => ?_)
    subst hr_1
    have hz : sm (alvF Wd) n = countS d r n ch pd pr yr Wd 2 := rfl
    exact W.iret (v := (sm (alvF Wd) n)) hx hb hr (fun t ht hW => ⟨_, rfl, hz, ht⟩) (fun q hq => absurd hq List.not_mem_nil) dX0_tell_62
  · refine lv_iload_n hx hb dX0_tell_0 rfl (lv_at hl 1 rfl) ?_
    refine lv_tableIn (tgt := 63) (off := 62) hx hb dX0_tell_1 (by decide) (by decide) rfl (by decide) ?_
    refine lv_aload_n hx hb dX0_tell_63 rfl (lv_at hl 0 rfl) ?_
    refine va_get (D := (dC, dI)) (ci := 0) (v := .int ch) (C := RX0) (T := TX0) (N := 7) hx hb hts (by decide +kernel) hown hKK.1 hP 3 rfl rfl 3 (by decide) (hts (.fieldLink RX0 41 "WidowPennies$Book" "chest" "I") (by decide +kernel)) (fun _ h9 => h9) rfl dX0_tell_64 ?_
    have hz : ch = countS d r n ch pd pr yr Wd 3 := rfl
    exact W.iret (v := ch) hx hb hr (fun t ht hW => ⟨_, rfl, hz, ht⟩) (fun q hq => absurd hq List.not_mem_nil) dX0_tell_67
  · refine lv_iload_n hx hb dX0_tell_0 rfl (lv_at hl 1 rfl) ?_
    refine lv_tableIn (tgt := 68) (off := 67) hx hb dX0_tell_1 (by decide) (by decide) rfl (by decide) ?_
    refine lv_aload_n hx hb dX0_tell_68 rfl (lv_at hl 0 rfl) ?_
    refine lv_aload_n hx hb dX0_tell_69 rfl (lv_at hl 0 rfl) ?_
    refine va_get (D := (dC, dI)) (ci := 0) (v := .ref (X 1)) (C := RX0) (T := TX0) (N := 7) hx hb hts (by decide +kernel) hown hKK.1 hP 3 rfl rfl 0 (by decide) (hts (.fieldLink RX0 9 "WidowPennies$Book" "tables" "LWidowPennies$Tables;") (by decide +kernel)) (fun _ h9 => h9) rfl dX0_tell_70 ?_
    refine lv_iconst (v := 0) hx hb dX0_tell_73 (by decide) ?_
    refine rd_i (runV0 (As := [.int 0]) (rest := [.ref (Bk 0)]) ⟨hx, hb, hml, hown, hts⟩ (met_X1_rate l dC dI cI cW X d r 0 (by omega)) (cwV 1 hts gX0_tell_X1_rate rfl rfl rfl (by decide +kernel) ⟨Nat.le_of_ble_eq_true rfl, Nat.le_of_ble_eq_true rfl⟩) hKK (ws_left hP) 1 0 rfl rfl rfl hl.1 (Nat.le_of_ble_eq_true rfl) rfl dX0_tell_74 ⟨Nat.zero_le _, Nat.zero_le _⟩) (fun r_1 hr_1 => ?_)
    subst hr_1
    refine rd_i (runV0 (As := [.int (r 0)]) (rest := []) ⟨hx, hb, hml, hown, hts⟩ (met_X0_keptForAll l dC dI cI cW X Bk d r n ch pd pr yr Wd R hn hok (r 0) hi hi0) (cwV 1 hts gX0_tell_X0_keptForAll rfl rfl rfl (by decide +kernel) ⟨Nat.le_of_ble_eq_true rfl, Nat.le_of_ble_eq_true rfl⟩) hKK hP 0 3 rfl rfl rfl hl.1 (Nat.le_of_ble_eq_true rfl) rfl dX0_tell_77 ⟨Nat.zero_le _, Nat.zero_le _⟩) (fun r_2 hr_2 => ?_)
    subst hr_2
    have hz : sm (kptF d (r 0) Wd) n = countS d r n ch pd pr yr Wd 4 := rfl
    exact W.iret (v := (sm (kptF d (r 0) Wd) n)) hx hb hr (fun t ht hW => ⟨_, rfl, hz, ht⟩) (fun q hq => absurd hq List.not_mem_nil) dX0_tell_80
  · refine lv_iload_n hx hb dX0_tell_0 rfl (lv_at hl 1 rfl) ?_
    refine lv_tableIn (tgt := 81) (off := 80) hx hb dX0_tell_1 (by decide) (by decide) rfl (by decide) ?_
    refine lv_aload_n hx hb dX0_tell_81 rfl (lv_at hl 0 rfl) ?_
    refine va_get (D := (dC, dI)) (ci := 0) (v := .int ch) (C := RX0) (T := TX0) (N := 7) hx hb hts (by decide +kernel) hown hKK.1 hP 3 rfl rfl 3 (by decide) (hts (.fieldLink RX0 41 "WidowPennies$Book" "chest" "I") (by decide +kernel)) (fun _ h9 => h9) rfl dX0_tell_82 ?_
    refine lv_aload_n hx hb dX0_tell_85 rfl (lv_at hl 0 rfl) ?_
    refine lv_aload_n hx hb dX0_tell_86 rfl (lv_at hl 0 rfl) ?_
    refine va_get (D := (dC, dI)) (ci := 0) (v := .ref (X 1)) (C := RX0) (T := TX0) (N := 7) hx hb hts (by decide +kernel) hown hKK.1 hP 3 rfl rfl 0 (by decide) (hts (.fieldLink RX0 9 "WidowPennies$Book" "tables" "LWidowPennies$Tables;") (by decide +kernel)) (fun _ h9 => h9) rfl dX0_tell_87 ?_
    refine lv_iconst (v := 0) hx hb dX0_tell_90 (by decide) ?_
    refine rd_i (runV0 (As := [.int 0]) (rest := [.ref (Bk 0), .int ch]) ⟨hx, hb, hml, hown, hts⟩ (met_X1_rate l dC dI cI cW X d r 0 (by omega)) (cwV 1 hts gX0_tell_X1_rate rfl rfl rfl (by decide +kernel) ⟨Nat.le_of_ble_eq_true rfl, Nat.le_of_ble_eq_true rfl⟩) hKK (ws_left hP) 1 0 rfl rfl rfl hl.1 (Nat.le_of_ble_eq_true rfl) rfl dX0_tell_91 ⟨Nat.zero_le _, Nat.zero_le _⟩) (fun r_1 hr_1 => ?_)
    subst hr_1
    refine rd_i (runV0 (As := [.int (r 0)]) (rest := [.int ch]) ⟨hx, hb, hml, hown, hts⟩ (met_X0_keptForAll l dC dI cI cW X Bk d r n ch pd pr yr Wd R hn hok (r 0) hi hi0) (cwV 1 hts gX0_tell_X0_keptForAll rfl rfl rfl (by decide +kernel) ⟨Nat.le_of_ble_eq_true rfl, Nat.le_of_ble_eq_true rfl⟩) hKK hP 0 3 rfl rfl rfl hl.1 (Nat.le_of_ble_eq_true rfl) rfl dX0_tell_94 ⟨Nat.zero_le _, Nat.zero_le _⟩) (fun r_2 hr_2 => ?_)
    subst hr_2
    refine lv_isub hx hb dX0_tell_97 ?_
    have hz : ch - (sm (kptF d (r 0) Wd) n) = countS d r n ch pd pr yr Wd 5 := rfl
    exact W.iret (v := (ch - (sm (kptF d (r 0) Wd) n))) hx hb hr (fun t ht hW => ⟨_, rfl, hz, ht⟩) (fun q hq => absurd hq List.not_mem_nil) dX0_tell_98
  · refine lv_iload_n hx hb dX0_tell_0 rfl (lv_at hl 1 rfl) ?_
    refine lv_tableIn (tgt := 99) (off := 98) hx hb dX0_tell_1 (by decide) (by decide) rfl (by decide) ?_
    refine lv_aload_n hx hb dX0_tell_99 rfl (lv_at hl 0 rfl) ?_
    refine rd_i (runV0 (As := []) (rest := []) ⟨hx, hb, hml, hown, hts⟩ (met_X0_sumsDue l dC dI cI cW X Bk n ch pd pr yr Wd hn) (cwV 0 hts gX0_tell_X0_sumsDue rfl rfl rfl (by decide +kernel) ⟨Nat.le_of_ble_eq_true rfl, Nat.le_of_ble_eq_true rfl⟩) hKK (ws_left (ws_right hP)) 0 0 rfl rfl rfl hl.1 (Nat.le_of_ble_eq_true rfl) rfl dX0_tell_100 ⟨Nat.zero_le _, Nat.zero_le _⟩) (fun r_1 hr_1 => ?_)
    subst hr_1
    have hz : sm (dueF Wd) n = countS d r n ch pd pr yr Wd 6 := rfl
    exact W.iret (v := (sm (dueF Wd) n)) hx hb hr (fun t ht hW => ⟨_, rfl, hz, ht⟩) (fun q hq => absurd hq List.not_mem_nil) dX0_tell_103
  · refine lv_iload_n hx hb dX0_tell_0 rfl (lv_at hl 1 rfl) ?_
    refine lv_tableIn (tgt := 104) (off := 103) hx hb dX0_tell_1 (by decide) (by decide) rfl (by decide) ?_
    refine lv_aload_n hx hb dX0_tell_104 rfl (lv_at hl 0 rfl) ?_
    refine va_get (D := (dC, dI)) (ci := 0) (v := .int pd) (C := RX0) (T := TX0) (N := 7) hx hb hts (by decide +kernel) hown hKK.1 hP 3 rfl rfl 4 (by decide) (hts (.fieldLink RX0 45 "WidowPennies$Book" "paidOut" "I") (by decide +kernel)) (fun _ h9 => h9) rfl dX0_tell_105 ?_
    have hz : pd = countS d r n ch pd pr yr Wd 7 := rfl
    exact W.iret (v := pd) hx hb hr (fun t ht hW => ⟨_, rfl, hz, ht⟩) (fun q hq => absurd hq List.not_mem_nil) dX0_tell_108
  · refine lv_iload_n hx hb dX0_tell_0 rfl (lv_at hl 1 rfl) ?_
    refine lv_tableOut (tgt := 109) hx hb dX0_tell_1 (by decide) (by decide) ?_
    refine lv_aload_n hx hb dX0_tell_109 rfl (lv_at hl 0 rfl) ?_
    refine va_get (D := (dC, dI)) (ci := 0) (v := .int pr) (C := RX0) (T := TX0) (N := 7) hx hb hts (by decide +kernel) hown hKK.1 hP 3 rfl rfl 5 (by decide) (hts (.fieldLink RX0 34 "WidowPennies$Book" "prices" "I") (by decide +kernel)) (fun _ h9 => h9) rfl dX0_tell_110 ?_
    have hz : pr = countS d r n ch pd pr yr Wd 8 := rfl
    exact W.iret (v := pr) hx hb hr (fun t ht hW => ⟨_, rfl, hz, ht⟩) (fun q hq => absurd hq List.not_mem_nil) dX0_tell_113
