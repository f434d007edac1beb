set_option maxHeartbeats 4000000 in
set_option maxRecDepth 100000 in
theorem met_X3_checkAge (l : Launch) (dC : Nat → ClassId) (dI : Nat → Nat → Nat) (cI cW : ClassId) (a : Int32) (h9 : 50 ≤ a ∧ a ≤ 99) : Met l yX3_checkAge wsX3_checkAge ({ frames := 1, cells := 0, slots := 0, locals := 20 }) (Pre0 dC dI cI cW [.int a] ([])) (va_Sv (fun _ => True)) 0 0 (fun _ => False) := by
  refine Met.ofW (cc := cX3_checkAge) (maxL := 1) (ret := none) (by decide) rfl ?_
  intro p e s m args below meth c s₁ B hml hv
  obtain ⟨rfl, hP, hKK⟩ := hv
  have hx := B.exec
  have hb := B.bytes
  have hr := B.returns
  have hts := atoms_spec (ws := wsX3_checkAge) B.pre
  have hown : s.vm.findClass RX3 = some m.cls := findClass_of_methodNamed B.named
  have hlocks := B.notSynchronized
  have hl := lv_entry ([.int a]) (n := 1) (Nat.le_of_ble_eq_true rfl)
  rw [lg_entry_eq]
  generalize (lg_sl ([.int a]) ++ List.replicate (1 - (lg_sl ([.int a])).length) Slot.unset).toArray = ls at hl ⊢
  have hl : lv_has ls 1 [(0, .int a)] := hl
  refine lv_iload_n hx hb dX3_checkAge_0 rfl (lv_at hl 0 rfl) ?_
  refine rd_i (runS0 (As := [.int a]) (rest := []) ⟨hx, hb, hml, hown, hts⟩ (met_X3_isAge l dC dI cI cW a) (va_cwS 1 hts gX3_checkAge_X3_isAge rfl rfl rfl (by decide +kernel) ⟨Nat.le_of_ble_eq_true rfl, Nat.le_of_ble_eq_true rfl⟩) hKK nilP rfl hl.1 (Nat.le_of_ble_eq_true rfl) rfl dX3_checkAge_1 ⟨Nat.zero_le _, Nat.zero_le _⟩) (fun r_1 hr_1 => ?_)
  subst hr_1
  refine lv_if_ne (tgt := 17) hx hb dX3_checkAge_4 (by decide) (fun c_2 => ?_) (fun c_2 => ?_)
  · have bc_2 : 50 ≤ a ∧ a ≤ 99 := b1.mp c_2
    exact W.vret hx hb hr (fun t ht hW => ⟨rfl, trivial, ht⟩) (fun q hq => absurd hq List.not_mem_nil) dX3_checkAge_17
  · have bc_2 : ¬ (50 ≤ a ∧ a ≤ 99) := b0.mp c_2
    exfalso; simp_all [i_le, i_lt] <;> omega
set_option maxHeartbeats 4000000 in
set_option maxRecDepth 100000 in
theorem met_X3_checkSum (l : Launch) (dC : Nat → ClassId) (dI : Nat → Nat → Nat) (cI cW : ClassId) (a : Int32) (h9 : 1 ≤ a ∧ a ≤ 999) : Met l yX3_checkSum wsX3_checkSum ({ frames := 0, cells := 0, slots := 0, locals := 0 }) (Pre0 dC dI cI cW [.int a] ([])) (va_Sv (fun _ => True)) 0 0 (fun _ => False) := by
  refine Met.ofW (cc := cX3_checkSum) (maxL := 1) (ret := none) (by decide) rfl ?_
  intro p e s m args below meth c s₁ B hml hv
  obtain ⟨rfl, hP, hKK⟩ := hv
  have hx := B.exec
  have hb := B.bytes
  have hr := B.returns
  have hts := atoms_spec (ws := wsX3_checkSum) B.pre
  have hown : s.vm.findClass RX3 = some m.cls := findClass_of_methodNamed B.named
  have hlocks := B.notSynchronized
  have hl := lv_entry ([.int a]) (n := 1) (Nat.le_of_ble_eq_true rfl)
  rw [lg_entry_eq]
  generalize (lg_sl ([.int a]) ++ List.replicate (1 - (lg_sl ([.int a])).length) Slot.unset).toArray = ls at hl ⊢
  have hl : lv_has ls 1 [(0, .int a)] := hl
  refine lv_iload_n hx hb dX3_checkSum_0 rfl (lv_at hl 0 rfl) ?_
  refine lv_iconst (v := 1) hx hb dX3_checkSum_1 (by decide) ?_
  refine lv_icmp_lt (tgt := 12) hx hb dX3_checkSum_2 (by decide) (fun c_1 => ?_) (fun c_1 => ?_)
  · exfalso; simp_all [i_le, i_lt] <;> omega
  · refine lv_iload_n hx hb dX3_checkSum_5 rfl (lv_at hl 0 rfl) ?_
    refine lv_sipush (v := 999) hx hb dX3_checkSum_6 (by decide) ?_
    refine lv_icmp_le (tgt := 22) hx hb dX3_checkSum_9 (by decide) (fun c_2 => ?_) (fun c_2 => ?_)
    · exact W.vret hx hb hr (fun t ht hW => ⟨rfl, trivial, ht⟩) (fun q hq => absurd hq List.not_mem_nil) dX3_checkSum_22
    · exfalso; simp_all [i_le, i_lt] <;> omega
set_option maxHeartbeats 4000000 in
set_option maxRecDepth 100000 in
theorem met_X3_checkPutOff (l : Launch) (dC : Nat → ClassId) (dI : Nat → Nat → Nat) (cI cW : ClassId) (a : Int32) (h9 : 0 ≤ a ∧ a ≤ 30) : Met l yX3_checkPutOff wsX3_checkPutOff ({ frames := 0, cells := 0, slots := 0, locals := 0 }) (Pre0 dC dI cI cW [.int a] ([])) (va_Sv (fun _ => True)) 0 0 (fun _ => False) := by
  refine Met.ofW (cc := cX3_checkPutOff) (maxL := 1) (ret := none) (by decide) rfl ?_
  intro p e s m args below meth c s₁ B hml hv
  obtain ⟨rfl, hP, hKK⟩ := hv
  have hx := B.exec
  have hb := B.bytes
  have hr := B.returns
  have hts := atoms_spec (ws := wsX3_checkPutOff) B.pre
  have hown : s.vm.findClass RX3 = some m.cls := findClass_of_methodNamed B.named
  have hlocks := B.notSynchronized
  have hl := lv_entry ([.int a]) (n := 1) (Nat.le_of_ble_eq_true rfl)
  rw [lg_entry_eq]
  generalize (lg_sl ([.int a]) ++ List.replicate (1 - (lg_sl ([.int a])).length) Slot.unset).toArray = ls at hl ⊢
  have hl : lv_has ls 1 [(0, .int a)] := hl
  refine lv_iload_n hx hb dX3_checkPutOff_0 rfl (lv_at hl 0 rfl) ?_
  refine lv_if_lt (tgt := 10) hx hb dX3_checkPutOff_1 (by decide) (fun c_1 => ?_) (fun c_1 => ?_)
  · exfalso; simp_all [i_le, i_lt] <;> omega
  · refine lv_iload_n hx hb dX3_checkPutOff_4 rfl (lv_at hl 0 rfl) ?_
    refine lv_bipush (v := 30) hx hb dX3_checkPutOff_5 (by decide) ?_
    refine lv_icmp_le (tgt := 20) hx hb dX3_checkPutOff_7 (by decide) (fun c_2 => ?_) (fun c_2 => ?_)
    · exact W.vret hx hb hr (fun t ht hW => ⟨rfl, trivial, ht⟩) (fun q hq => absurd hq List.not_mem_nil) dX3_checkPutOff_20
    · exfalso; simp_all [i_le, i_lt] <;> omega
set_option maxHeartbeats 4000000 in
set_option maxRecDepth 100000 in
theorem met_X3_checkYearsPassing (l : Launch) (dC : Nat → ClassId) (dI : Nat → Nat → Nat) (cI cW : ClassId) (a : Int32) (h9 : 1 ≤ a ∧ a ≤ 50) : Met l yX3_checkYearsPassing wsX3_checkYearsPassing ({ frames := 0, cells := 0, slots := 0, locals := 0 }) (Pre0 dC dI cI cW [.int a] ([])) (va_Sv (fun _ => True)) 0 0 (fun _ => False) := by
  refine Met.ofW (cc := cX3_checkYearsPassing) (maxL := 1) (ret := none) (by decide) rfl ?_
  intro p e s m args below meth c s₁ B hml hv
  obtain ⟨rfl, hP, hKK⟩ := hv
  have hx := B.exec
  have hb := B.bytes
  have hr := B.returns
  have hts := atoms_spec (ws := wsX3_checkYearsPassing) B.pre
  have hown : s.vm.findClass RX3 = some m.cls := findClass_of_methodNamed B.named
  have hlocks := B.notSynchronized
  have hl := lv_entry ([.int a]) (n := 1) (Nat.le_of_ble_eq_true rfl)
  rw [lg_entry_eq]
  generalize (lg_sl ([.int a]) ++ List.replicate (1 - (lg_sl ([.int a])).length) Slot.unset).toArray = ls at hl ⊢
  have hl : lv_has ls 1 [(0, .int a)] := hl
  refine lv_iload_n hx hb dX3_checkYearsPassing_0 rfl (lv_at hl 0 rfl) ?_
  refine lv_iconst (v := 1) hx hb dX3_checkYearsPassing_1 (by decide) ?_
  refine lv_icmp_lt (tgt := 11) hx hb dX3_checkYearsPassing_2 (by decide) (fun c_1 => ?_) (fun c_1 => ?_)
  · exfalso; simp_all [i_le, i_lt] <;> omega
  · refine lv_iload_n hx hb dX3_checkYearsPassing_5 rfl (lv_at hl 0 rfl) ?_
    refine lv_bipush (v := 50) hx hb dX3_checkYearsPassing_6 (by decide) ?_
    refine lv_icmp_le (tgt := 21) hx hb dX3_checkYearsPassing_8 (by decide) (fun c_2 => ?_) (fun c_2 => ?_)
    · exact W.vret hx hb hr (fun t ht hW => ⟨rfl, trivial, ht⟩) (fun q hq => absurd hq List.not_mem_nil) dX3_checkYearsPassing_21
    · exfalso; simp_all [i_le, i_lt] <;> omega
set_option maxHeartbeats 4000000 in
set_option maxRecDepth 100000 in
theorem met_X3_checkWidow (l : Launch) (dC : Nat → ClassId) (dI : Nat → Nat → Nat) (cI cW : ClassId) (X Bk Br : Nat → Nat) (d r : Nat → Int32) (n : Nat) (ch pd pr yr : Int32) (Wd : Nat → Nat → Int32) (n2 : Nat) (ch2 pd2 pr2 yr2 : Int32) (W2 : Nat → Nat → Int32) (R : va_W) (a : Int32) (h9 : 0 ≤ a ∧ a < nI n) : Met l yX3_checkWidow wsX3_checkWidow ({ frames := 0, cells := 0, slots := 0, locals := 0 }) (Pre0 dC dI cI cW [.ref (X 0), .int a] (tab cI X d r ++ (bk cW X Bk n ch pd pr yr Wd ++ (bk cW X Br n2 ch2 pd2 pr2 yr2 W2 ++ (obj X Bk Br :: R))))) (va_Sv (fun _ => True)) 0 0 (fun _ => False) := by
  refine Met.ofW (cc := cX3_checkWidow) (maxL := 2) (ret := none) (by decide) rfl ?_
  intro p e s m args below meth c s₁ B hml hv
  obtain ⟨rfl, hP, hKK⟩ := hv
  have hx := B.exec
  have hb := B.bytes
  have hr := B.returns
  have hts := atoms_spec (ws := wsX3_checkWidow) B.pre
  have hown : s.vm.findClass RX3 = some m.cls := findClass_of_methodNamed B.named
  have hlocks := B.notSynchronized
  have hl := lv_entry ([.ref (X 0), .int a]) (n := 2) (Nat.le_of_ble_eq_true rfl)
  rw [lg_entry_eq]
  generalize (lg_sl ([.ref (X 0), .int a]) ++ List.replicate (2 - (lg_sl ([.ref (X 0), .int a])).length) Slot.unset).toArray = ls at hl ⊢
  have hl : lv_has ls 2 [(0, .ref (X 0)), (1, .int a)] := hl
  refine lv_iload_n hx hb dX3_checkWidow_0 rfl (lv_at hl 1 rfl) ?_
  refine lv_if_lt (tgt := 15) hx hb dX3_checkWidow_1 (by decide) (fun c_1 => ?_) (fun c_1 => ?_)
  · exfalso; simp_all [i_le, i_lt] <;> omega
  · refine lv_iload_n hx hb dX3_checkWidow_4 rfl (lv_at hl 1 rfl) ?_
    refine lv_aload_n hx hb dX3_checkWidow_5 rfl (lv_at hl 0 rfl) ?_
    refine va_get (D := (dC, dI)) (ci := 3) (v := .ref (Bk 0)) (C := RX3) (T := TX3) (N := 3) hx hb hts (by decide +kernel) hown hKK.1 hP 27 cw_obj rfl 1 (by decide) (hts (.fieldLink RX3 21 "WidowPennies" "book" "LWidowPennies$Book;") (by decide +kernel)) (fun _ h9 => h9) rfl dX3_checkWidow_6 ?_
    refine va_get (D := (dC, dI)) (ci := 0) (v := .int (nI n)) (C := RX0) (T := TX0) (N := 7) hx hb hts (by decide +kernel) hown hKK.1 hP 3 rfl rfl 2 (by decide) (hts (.fieldLink RX3 191 "WidowPennies$Book" "written" "I") (by decide +kernel)) (fun _ h9 => h9) rfl dX3_checkWidow_9 ?_
    refine lv_icmp_lt (tgt := 25) hx hb dX3_checkWidow_12 (by decide) (fun c_2 => ?_) (fun c_2 => ?_)
    · exact W.vret hx hb hr (fun t ht hW => ⟨rfl, trivial, ht⟩) (fun q hq => absurd hq List.not_mem_nil) dX3_checkWidow_25
    · exfalso; simp_all [i_le, i_lt] <;> omega
