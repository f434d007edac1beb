set_option maxHeartbeats 4000000 in
set_option maxRecDepth 100000 in
theorem met_X4_isIn (l : Launch) (dC : Nat → ClassId) (dI : Nat → Nat → Nat) (cI cW : ClassId) (v lo hi9 : Int32) : Met l yX4_isIn wsX4_isIn ({ frames := 0, cells := 0, slots := 0, locals := 0 }) (Pre0 dC dI cI cW [.int v, .int lo, .int hi9] ([])) (vp_Si (fun z => z = (if lo ≤ v ∧ v ≤ hi9 then (1 : Int32) else 0))) 0 0 (fun _ => False) := by
  refine Met.ofW (cc := cX4_isIn) (maxL := 3) (ret := (some .boolean)) (by decide) rfl ?_
  intro p e s m args below meth c s₁ B hml hv
  obtain ⟨rfl, hP, hKK⟩ := hv
  have hx := B.exec
  have hb := B.bytes
  have hr := B.returns
  have hts := atoms_spec (ws := wsX4_isIn) B.pre
  have hown : s.vm.findClass RX4 = some m.cls := findClass_of_methodNamed B.named
  have hlocks := B.notSynchronized
  have hl := lv_entry ([.int v, .int lo, .int hi9]) (n := 3) (Nat.le_of_ble_eq_true rfl)
  rw [lg_entry_eq]
  generalize (lg_sl ([.int v, .int lo, .int hi9]) ++ List.replicate (3 - (lg_sl ([.int v, .int lo, .int hi9])).length) Slot.unset).toArray = ls at hl ⊢
  have hl : lv_has ls 3 [(0, .int v), (1, .int lo), (2, .int hi9)] := hl
  refine lv_iload_n hx hb dX4_isIn_0 rfl (lv_at hl 0 rfl) ?_
  refine lv_iload_n hx hb dX4_isIn_1 rfl (lv_at hl 1 rfl) ?_
  refine lv_icmp_lt (tgt := 14) hx hb dX4_isIn_2 (by decide) (fun c_1 => ?_) (fun c_1 => ?_)
  · refine lv_iconst (v := 0) hx hb dX4_isIn_14 (by decide) ?_
    have hz : 0 = (if lo ≤ v ∧ v ≤ hi9 then (1 : Int32) else 0) := by simp_all [i_le, i_lt] <;> omega
    exact W.zret (v := 0) hx hb hr (by first | rfl | (split <;> rfl)) (fun t ht hW => ⟨_, rfl, hz, ht⟩) (fun q hq => absurd hq List.not_mem_nil) dX4_isIn_15
  · refine lv_iload_n hx hb dX4_isIn_5 rfl (lv_at hl 0 rfl) ?_
    refine lv_iload_n hx hb dX4_isIn_6 rfl (lv_at hl 2 rfl) ?_
    refine lv_icmp_gt (tgt := 14) hx hb dX4_isIn_7 (by decide) (fun c_2 => ?_) (fun c_2 => ?_)
    · refine lv_iconst (v := 0) hx hb dX4_isIn_14 (by decide) ?_
      have hz : 0 = (if lo ≤ v ∧ v ≤ hi9 then (1 : Int32) else 0) := by simp_all [i_le, i_lt] <;> omega
      exact W.zret (v := 0) hx hb hr (by first | rfl | (split <;> rfl)) (fun t ht hW => ⟨_, rfl, hz, ht⟩) (fun q hq => absurd hq List.not_mem_nil) dX4_isIn_15
    · refine lv_iconst (v := 1) hx hb dX4_isIn_10 (by decide) ?_
      refine lv_goto (tgt := 15) hx hb dX4_isIn_11 (by decide) ?_
      have hz : 1 = (if lo ≤ v ∧ v ≤ hi9 then (1 : Int32) else 0) := by simp_all [i_le, i_lt] <;> omega
      exact W.zret (v := 1) hx hb hr (by first | rfl | (split <;> rfl)) (fun t ht hW => ⟨_, rfl, hz, ht⟩) (fun q hq => absurd hq List.not_mem_nil) dX4_isIn_15
set_option maxHeartbeats 4000000 in
set_option maxRecDepth 100000 in
theorem met_X4_isAge (l : Launch) (dC : Nat → ClassId) (dI : Nat → Nat → Nat) (cI cW : ClassId) (v : Int32) : Met l yX4_isAge wsX4_isAge ({ frames := 1, cells := 0, slots := 0, locals := 22 }) (Pre0 dC dI cI cW [.int v] ([])) (vp_Si (fun z => z = (if 50 ≤ v ∧ v ≤ 99 then (1 : Int32) else 0))) 0 0 (fun _ => False) := by
  refine Met.ofW (cc := cX4_isAge) (maxL := 1) (ret := (some .boolean)) (by decide) rfl ?_
  intro p e s m args below meth c s₁ B hml hv
  obtain ⟨rfl, hP, hKK⟩ := hv
  have hx := B.exec
  have hb := B.bytes
  have hr := B.returns
  have hts := atoms_spec (ws := wsX4_isAge) B.pre
  have hown : s.vm.findClass RX4 = some m.cls := findClass_of_methodNamed B.named
  have hlocks := B.notSynchronized
  have hl := lv_entry ([.int v]) (n := 1) (Nat.le_of_ble_eq_true rfl)
  rw [lg_entry_eq]
  generalize (lg_sl ([.int v]) ++ List.replicate (1 - (lg_sl ([.int v])).length) Slot.unset).toArray = ls at hl ⊢
  have hl : lv_has ls 1 [(0, .int v)] := hl
  refine lv_iload_n hx hb dX4_isAge_0 rfl (lv_at hl 0 rfl) ?_
  refine lv_bipush (v := 50) hx hb dX4_isAge_1 (by decide) ?_
  refine lv_bipush (v := 99) hx hb dX4_isAge_3 (by decide) ?_
  refine rd_i (runS0 (As := [.int v, .int 50, .int 99]) (rest := []) ⟨hx, hb, hml, hown, hts⟩ (met_X4_isIn l dC dI cI cW v 50 99) (va_cwS 3 hts gX4_isAge_X4_isIn rfl rfl rfl (by decide +kernel) ⟨Nat.le_of_ble_eq_true rfl, Nat.le_of_ble_eq_true rfl⟩) hKK nilP rfl hl.1 (Nat.le_of_ble_eq_true rfl) rfl dX4_isAge_5 ⟨Nat.zero_le _, Nat.zero_le _⟩) (fun r_1 hr_1 => ?_)
  subst hr_1
  have hz : (if 50 ≤ v ∧ v ≤ 99 then (1 : Int32) else 0) = (if 50 ≤ v ∧ v ≤ 99 then (1 : Int32) else 0) := rfl
  exact W.zret (v := (if 50 ≤ v ∧ v ≤ 99 then (1 : Int32) else 0)) hx hb hr (by first | rfl | (split <;> rfl)) (fun t ht hW => ⟨_, rfl, hz, ht⟩) (fun q hq => absurd hq List.not_mem_nil) dX4_isAge_8
set_option maxHeartbeats 4000000 in
set_option maxRecDepth 100000 in
theorem met_X4_isLate (l : Launch) (dC : Nat → ClassId) (dI : Nat → Nat → Nat) (cI cW : ClassId) (v : Int32) : Met l yX4_isLate wsX4_isLate ({ frames := 1, cells := 0, slots := 0, locals := 22 }) (Pre0 dC dI cI cW [.int v] ([])) (vp_Si (fun z => z = (if 0 ≤ v ∧ v ≤ 30 then (1 : Int32) else 0))) 0 0 (fun _ => False) := by
  refine Met.ofW (cc := cX4_isLate) (maxL := 1) (ret := (some .boolean)) (by decide) rfl ?_
  intro p e s m args below meth c s₁ B hml hv
  obtain ⟨rfl, hP, hKK⟩ := hv
  have hx := B.exec
  have hb := B.bytes
  have hr := B.returns
  have hts := atoms_spec (ws := wsX4_isLate) B.pre
  have hown : s.vm.findClass RX4 = some m.cls := findClass_of_methodNamed B.named
  have hlocks := B.notSynchronized
  have hl := lv_entry ([.int v]) (n := 1) (Nat.le_of_ble_eq_true rfl)
  rw [lg_entry_eq]
  generalize (lg_sl ([.int v]) ++ List.replicate (1 - (lg_sl ([.int v])).length) Slot.unset).toArray = ls at hl ⊢
  have hl : lv_has ls 1 [(0, .int v)] := hl
  refine lv_iload_n hx hb dX4_isLate_0 rfl (lv_at hl 0 rfl) ?_
  refine lv_iconst (v := 0) hx hb dX4_isLate_1 (by decide) ?_
  refine lv_bipush (v := 30) hx hb dX4_isLate_2 (by decide) ?_
  refine rd_i (runS0 (As := [.int v, .int 0, .int 30]) (rest := []) ⟨hx, hb, hml, hown, hts⟩ (met_X4_isIn l dC dI cI cW v 0 30) (va_cwS 3 hts gX4_isLate_X4_isIn rfl rfl rfl (by decide +kernel) ⟨Nat.le_of_ble_eq_true rfl, Nat.le_of_ble_eq_true rfl⟩) hKK nilP rfl hl.1 (Nat.le_of_ble_eq_true rfl) rfl dX4_isLate_4 ⟨Nat.zero_le _, Nat.zero_le _⟩) (fun r_1 hr_1 => ?_)
  subst hr_1
  have hz : (if 0 ≤ v ∧ v ≤ 30 then (1 : Int32) else 0) = (if 0 ≤ v ∧ v ≤ 30 then (1 : Int32) else 0) := rfl
  exact W.zret (v := (if 0 ≤ v ∧ v ≤ 30 then (1 : Int32) else 0)) hx hb hr (by first | rfl | (split <;> rfl)) (fun t ht hW => ⟨_, rfl, hz, ht⟩) (fun q hq => absurd hq List.not_mem_nil) dX4_isLate_7
set_option maxHeartbeats 4000000 in
set_option maxRecDepth 100000 in
theorem met_X4_isSum (l : Launch) (dC : Nat → ClassId) (dI : Nat → Nat → Nat) (cI cW : ClassId) (v : Int32) : Met l yX4_isSum wsX4_isSum ({ frames := 1, cells := 0, slots := 0, locals := 22 }) (Pre0 dC dI cI cW [.int v] ([])) (vp_Si (fun z => z = (if 1 ≤ v ∧ v ≤ 999 then (1 : Int32) else 0))) 0 0 (fun _ => False) := by
  refine Met.ofW (cc := cX4_isSum) (maxL := 1) (ret := (some .boolean)) (by decide) rfl ?_
  intro p e s m args below meth c s₁ B hml hv
  obtain ⟨rfl, hP, hKK⟩ := hv
  have hx := B.exec
  have hb := B.bytes
  have hr := B.returns
  have hts := atoms_spec (ws := wsX4_isSum) B.pre
  have hown : s.vm.findClass RX4 = some m.cls := findClass_of_methodNamed B.named
  have hlocks := B.notSynchronized
  have hl := lv_entry ([.int v]) (n := 1) (Nat.le_of_ble_eq_true rfl)
  rw [lg_entry_eq]
  generalize (lg_sl ([.int v]) ++ List.replicate (1 - (lg_sl ([.int v])).length) Slot.unset).toArray = ls at hl ⊢
  have hl : lv_has ls 1 [(0, .int v)] := hl
  refine lv_iload_n hx hb dX4_isSum_0 rfl (lv_at hl 0 rfl) ?_
  refine lv_iconst (v := 1) hx hb dX4_isSum_1 (by decide) ?_
  refine lv_sipush (v := 999) hx hb dX4_isSum_2 (by decide) ?_
  refine rd_i (runS0 (As := [.int v, .int 1, .int 999]) (rest := []) ⟨hx, hb, hml, hown, hts⟩ (met_X4_isIn l dC dI cI cW v 1 999) (va_cwS 3 hts gX4_isSum_X4_isIn rfl rfl rfl (by decide +kernel) ⟨Nat.le_of_ble_eq_true rfl, Nat.le_of_ble_eq_true rfl⟩) hKK nilP rfl hl.1 (Nat.le_of_ble_eq_true rfl) rfl dX4_isSum_5 ⟨Nat.zero_le _, Nat.zero_le _⟩) (fun r_1 hr_1 => ?_)
  subst hr_1
  have hz : (if 1 ≤ v ∧ v ≤ 999 then (1 : Int32) else 0) = (if 1 ≤ v ∧ v ≤ 999 then (1 : Int32) else 0) := rfl
  exact W.zret (v := (if 1 ≤ v ∧ v ≤ 999 then (1 : Int32) else 0)) hx hb hr (by first | rfl | (split <;> rfl)) (fun t ht hW => ⟨_, rfl, hz, ht⟩) (fun q hq => absurd hq List.not_mem_nil) dX4_isSum_8
set_option maxHeartbeats 4000000 in
set_option maxRecDepth 100000 in
theorem met_X4_isBought (l : Launch) (dC : Nat → ClassId) (dI : Nat → Nat → Nat) (cI cW : ClassId) (a x p9 : Int32) : Met l yX4_isBought wsX4_isBought ({ frames := 2, cells := 0, slots := 0, locals := 42 }) (Pre0 dC dI cI cW [.int a, .int x, .int p9] ([])) (vp_Si (fun z => z = (if (50 ≤ a ∧ a ≤ 99) ∧ (1 ≤ x ∧ x ≤ 999) ∧ (0 ≤ p9 ∧ p9 ≤ 30) then (1 : Int32) else 0))) 0 0 (fun _ => False) := by
  refine Met.ofW (cc := cX4_isBought) (maxL := 3) (ret := (some .boolean)) (by decide) rfl ?_
  intro p e s m args below meth c s₁ B hml hv
  obtain ⟨rfl, hP, hKK⟩ := hv
  have hx := B.exec
  have hb := B.bytes
  have hr := B.returns
  have hts := atoms_spec (ws := wsX4_isBought) B.pre
  have hown : s.vm.findClass RX4 = some m.cls := findClass_of_methodNamed B.named
  have hlocks := B.notSynchronized
  have hl := lv_entry ([.int a, .int x, .int p9]) (n := 3) (Nat.le_of_ble_eq_true rfl)
  rw [lg_entry_eq]
  generalize (lg_sl ([.int a, .int x, .int p9]) ++ List.replicate (3 - (lg_sl ([.int a, .int x, .int p9])).length) Slot.unset).toArray = ls at hl ⊢
  have hl : lv_has ls 3 [(0, .int a), (1, .int x), (2, .int p9)] := hl
  refine lv_iload_n hx hb dX4_isBought_0 rfl (lv_at hl 0 rfl) ?_
  refine rd_i (runS0 (As := [.int a]) (rest := []) ⟨hx, hb, hml, hown, hts⟩ (met_X4_isAge l dC dI cI cW a) (va_cwS 1 hts gX4_isBought_X4_isAge rfl rfl rfl (by decide +kernel) ⟨Nat.le_of_ble_eq_true rfl, Nat.le_of_ble_eq_true rfl⟩) hKK nilP rfl hl.1 (Nat.le_of_ble_eq_true rfl) rfl dX4_isBought_1 ⟨Nat.zero_le _, Nat.zero_le _⟩) (fun r_1 hr_1 => ?_)
  subst hr_1
  refine lv_if_eq (tgt := 25) hx hb dX4_isBought_4 (by decide) (fun c_2 => ?_) (fun c_2 => ?_)
  · have bc_2 : ¬ (50 ≤ a ∧ a ≤ 99) := b0.mp c_2
    refine lv_iconst (v := 0) hx hb dX4_isBought_25 (by decide) ?_
    have hz : 0 = (if (50 ≤ a ∧ a ≤ 99) ∧ (1 ≤ x ∧ x ≤ 999) ∧ (0 ≤ p9 ∧ p9 ≤ 30) then (1 : Int32) else 0) := by simp_all [i_le, i_lt] <;> omega
    exact W.zret (v := 0) hx hb hr (by first | rfl | (split <;> rfl)) (fun t ht hW => ⟨_, rfl, hz, ht⟩) (fun q hq => absurd hq List.not_mem_nil) dX4_isBought_26
  · have bc_2 : 50 ≤ a ∧ a ≤ 99 := b1.mp c_2
    refine lv_iload_n hx hb dX4_isBought_7 rfl (lv_at hl 1 rfl) ?_
    refine rd_i (runS0 (As := [.int x]) (rest := []) ⟨hx, hb, hml, hown, hts⟩ (met_X4_isSum l dC dI cI cW x) (va_cwS 1 hts gX4_isBought_X4_isSum rfl rfl rfl (by decide +kernel) ⟨Nat.le_of_ble_eq_true rfl, Nat.le_of_ble_eq_true rfl⟩) hKK nilP rfl hl.1 (Nat.le_of_ble_eq_true rfl) rfl dX4_isBought_8 ⟨Nat.zero_le _, Nat.zero_le _⟩) (fun r_3 hr_3 => ?_)
    subst hr_3
    refine lv_if_eq (tgt := 25) hx hb dX4_isBought_11 (by decide) (fun c_4 => ?_) (fun c_4 => ?_)
    · have bc_4 : ¬ (1 ≤ x ∧ x ≤ 999) := b0.mp c_4
      refine lv_iconst (v := 0) hx hb dX4_isBought_25 (by decide) ?_
      have hz : 0 = (if (50 ≤ a ∧ a ≤ 99) ∧ (1 ≤ x ∧ x ≤ 999) ∧ (0 ≤ p9 ∧ p9 ≤ 30) then (1 : Int32) else 0) := by simp_all [i_le, i_lt] <;> omega
      exact W.zret (v := 0) hx hb hr (by first | rfl | (split <;> rfl)) (fun t ht hW => ⟨_, rfl, hz, ht⟩) (fun q hq => absurd hq List.not_mem_nil) dX4_isBought_26
    · have bc_4 : 1 ≤ x ∧ x ≤ 999 := b1.mp c_4
      refine lv_iload_n hx hb dX4_isBought_14 rfl (lv_at hl 2 rfl) ?_
      refine rd_i (runS0 (As := [.int p9]) (rest := []) ⟨hx, hb, hml, hown, hts⟩ (met_X4_isLate l dC dI cI cW p9) (va_cwS 1 hts gX4_isBought_X4_isLate rfl rfl rfl (by decide +kernel) ⟨Nat.le_of_ble_eq_true rfl, Nat.le_of_ble_eq_true rfl⟩) hKK nilP rfl hl.1 (Nat.le_of_ble_eq_true rfl) rfl dX4_isBought_15 ⟨Nat.zero_le _, Nat.zero_le _⟩) (fun r_5 hr_5 => ?_)
      subst hr_5
      refine lv_if_eq (tgt := 25) hx hb dX4_isBought_18 (by decide) (fun c_6 => ?_) (fun c_6 => ?_)
      · have bc_6 : ¬ (0 ≤ p9 ∧ p9 ≤ 30) := b0.mp c_6
        refine lv_iconst (v := 0) hx hb dX4_isBought_25 (by decide) ?_
        have hz : 0 = (if (50 ≤ a ∧ a ≤ 99) ∧ (1 ≤ x ∧ x ≤ 999) ∧ (0 ≤ p9 ∧ p9 ≤ 30) then (1 : Int32) else 0) := by simp_all [i_le, i_lt] <;> omega
        exact W.zret (v := 0) hx hb hr (by first | rfl | (split <;> rfl)) (fun t ht hW => ⟨_, rfl, hz, ht⟩) (fun q hq => absurd hq List.not_mem_nil) dX4_isBought_26
      · have bc_6 : 0 ≤ p9 ∧ p9 ≤ 30 := b1.mp c_6
        refine lv_iconst (v := 1) hx hb dX4_isBought_21 (by decide) ?_
        refine lv_goto (tgt := 26) hx hb dX4_isBought_22 (by decide) ?_
        have hz : 1 = (if (50 ≤ a ∧ a ≤ 99) ∧ (1 ≤ x ∧ x ≤ 999) ∧ (0 ≤ p9 ∧ p9 ≤ 30) then (1 : Int32) else 0) := by simp_all [i_le, i_lt] <;> omega
        exact W.zret (v := 1) hx hb hr (by first | rfl | (split <;> rfl)) (fun t ht hW => ⟨_, rfl, hz, ht⟩) (fun q hq => absurd hq List.not_mem_nil) dX4_isBought_26
set_option maxHeartbeats 4000000 in
set_option maxRecDepth 100000 in
theorem met_X4_thrown (l : Launch) (dC : Nat → ClassId) (dI : Nat → Nat → Nat) (cI cW : ClassId) (M : Nat → Nat) (th : Int32) (n : Nat) (d r : Nat → Int32) (Wd : Nat → Nat → Int32) (ch pd yr : Int32) (T : Nat → Int32) : Met l yX4_thrown wsX4_thrown ({ frames := 0, cells := 0, slots := 0, locals := 0 }) (Pre0 dC dI cI cW [.ref (M 0)] (mw cI M th n d r Wd ch pd yr T)) (vp_Si (fun z => z = th)) 0 0 (fun _ => False) := by
  refine Met.ofW (cc := cX4_thrown) (maxL := 1) (ret := (some .int)) (by decide) rfl ?_
  intro p e s m args below meth c s₁ B hml hv
  obtain ⟨rfl, hP, hKK⟩ := hv
  have hx := B.exec
  have hb := B.bytes
  have hr := B.returns
  have hts := atoms_spec (ws := wsX4_thrown) B.pre
  have hown : s.vm.findClass RX4 = some m.cls := findClass_of_methodNamed B.named
  have hlocks := B.notSynchronized
  have hl := lv_entry ([.ref (M 0)]) (n := 1) (Nat.le_of_ble_eq_true rfl)
  rw [lg_entry_eq]
  generalize (lg_sl ([.ref (M 0)]) ++ List.replicate (1 - (lg_sl ([.ref (M 0)])).length) Slot.unset).toArray = ls at hl ⊢
  have hl : lv_has ls 1 [(0, .ref (M 0))] := hl
  refine lv_aload_n hx hb dX4_thrown_0 rfl (lv_at hl 0 rfl) ?_
  refine va_get (D := (dC, dI)) (ci := 4) (v := .int th) (C := RX4) (T := TX4) (N := 7) hx hb hts (by decide +kernel) hown hKK.1 hP 0 rfl rfl 0 (by decide) (hts (.fieldLink RX4 28 "WidowPenniesModel" "thrown" "I") (by decide +kernel)) (fun _ h9 => h9) rfl dX4_thrown_1 ?_
  have hz : th = th := rfl
  exact W.iret (v := th) hx hb hr (fun t ht hW => ⟨_, rfl, hz, ht⟩) (fun q hq => absurd hq List.not_mem_nil) dX4_thrown_4
set_option maxHeartbeats 4000000 in
set_option maxRecDepth 100000 in
theorem met_X4_isWidow (l : Launch) (dC : Nat → ClassId) (dI : Nat → Nat → Nat) (cI cW : ClassId) (M : Nat → Nat) (th : Int32) (n : Nat) (d r : Nat → Int32) (Wd : Nat → Nat → Int32) (ch pd yr : Int32) (T : Nat → Int32) (v : Int32) : Met l yX4_isWidow wsX4_isWidow ({ frames := 1, cells := 0, slots := 0, locals := 22 }) (Pre0 dC dI cI cW [.ref (M 0), .int v] (mw cI M th n d r Wd ch pd yr T)) (vp_Si (fun z => z = (if 0 ≤ v ∧ v ≤ nI n - 1 then (1 : Int32) else 0))) 0 0 (fun _ => False) := by
  refine Met.ofW (cc := cX4_isWidow) (maxL := 2) (ret := (some .boolean)) (by decide) rfl ?_
  intro p e s m args below meth c s₁ B hml hv
  obtain ⟨rfl, hP, hKK⟩ := hv
  have hx := B.exec
  have hb := B.bytes
  have hr := B.returns
  have hts := atoms_spec (ws := wsX4_isWidow) B.pre
  have hown : s.vm.findClass RX4 = some m.cls := findClass_of_methodNamed B.named
  have hlocks := B.notSynchronized
  have hl := lv_entry ([.ref (M 0), .int v]) (n := 2) (Nat.le_of_ble_eq_true rfl)
  rw [lg_entry_eq]
  generalize (lg_sl ([.ref (M 0), .int v]) ++ List.replicate (2 - (lg_sl ([.ref (M 0), .int v])).length) Slot.unset).toArray = ls at hl ⊢
  have hl : lv_has ls 2 [(0, .ref (M 0)), (1, .int v)] := hl
  refine lv_iload_n hx hb dX4_isWidow_0 rfl (lv_at hl 1 rfl) ?_
  refine lv_iconst (v := 0) hx hb dX4_isWidow_1 (by decide) ?_
  refine lv_aload_n hx hb dX4_isWidow_2 rfl (lv_at hl 0 rfl) ?_
  refine va_get (D := (dC, dI)) (ci := 4) (v := .int (nI n)) (C := RX4) (T := TX4) (N := 7) hx hb hts (by decide +kernel) hown hKK.1 hP 0 rfl rfl 1 (by decide) (hts (.fieldLink RX4 36 "WidowPenniesModel" "widows" "I") (by decide +kernel)) (fun _ h9 => h9) rfl dX4_isWidow_3 ?_
  refine lv_iconst (v := 1) hx hb dX4_isWidow_6 (by decide) ?_
  refine lv_isub hx hb dX4_isWidow_7 ?_
  refine rd_i (runS0 (As := [.int v, .int 0, .int ((nI n) - 1)]) (rest := []) ⟨hx, hb, hml, hown, hts⟩ (met_X4_isIn l dC dI cI cW v 0 ((nI n) - 1)) (va_cwS 3 hts gX4_isWidow_X4_isIn rfl rfl rfl (by decide +kernel) ⟨Nat.le_of_ble_eq_true rfl, Nat.le_of_ble_eq_true rfl⟩) hKK nilP rfl hl.1 (Nat.le_of_ble_eq_true rfl) rfl dX4_isWidow_8 ⟨Nat.zero_le _, Nat.zero_le _⟩) (fun r_1 hr_1 => ?_)
  subst hr_1
  have hz : (if 0 ≤ v ∧ v ≤ ((nI n) - 1) then (1 : Int32) else 0) = (if 0 ≤ v ∧ v ≤ nI n - 1 then (1 : Int32) else 0) := rfl
  exact W.zret (v := (if 0 ≤ v ∧ v ≤ ((nI n) - 1) then (1 : Int32) else 0)) hx hb hr (by first | rfl | (split <;> rfl)) (fun t ht hW => ⟨_, rfl, hz, ht⟩) (fun q hq => absurd hq List.not_mem_nil) dX4_isWidow_11
set_option maxHeartbeats 4000000 in
set_option maxRecDepth 100000 in
theorem met_X4_wi (l : Launch) (dC : Nat → ClassId) (dI : Nat → Nat → Nat) (cI cW : ClassId) (M : Nat → Nat) (th : Int32) (n : Nat) (d r : Nat → Int32) (Wd : Nat → Nat → Int32) (ch pd yr : Int32) (T : Nat → Int32) (k : Nat) (hk : k < 10) (f : Nat) (hf : f < 7) : Met l yX4_wi wsX4_wi ({ frames := 0, cells := 0, slots := 0, locals := 0 }) (Pre0 dC dI cI cW [.ref (M 0), .int (nI k), .int (nI f)] (mw cI M th n d r Wd ch pd yr T)) (vp_Si (fun z => z = Wd k f)) 0 0 (fun _ => False) := by
  refine Met.ofW (cc := cX4_wi) (maxL := 3) (ret := (some .int)) (by decide) rfl ?_
  intro p e s m args below meth c s₁ B hml hv
  obtain ⟨rfl, hP, hKK⟩ := hv
  have hx := B.exec
  have hb := B.bytes
  have hr := B.returns
  have hts := atoms_spec (ws := wsX4_wi) B.pre
  have hown : s.vm.findClass RX4 = some m.cls := findClass_of_methodNamed B.named
  have hlocks := B.notSynchronized
  have hl := lv_entry ([.ref (M 0), .int (nI k), .int (nI f)]) (n := 3) (Nat.le_of_ble_eq_true rfl)
  rw [lg_entry_eq]
  generalize (lg_sl ([.ref (M 0), .int (nI k), .int (nI f)]) ++ List.replicate (3 - (lg_sl ([.ref (M 0), .int (nI k), .int (nI f)])).length) Slot.unset).toArray = ls at hl ⊢
  have hl : lv_has ls 3 [(0, .ref (M 0)), (1, .int (nI k)), (2, .int (nI f))] := hl
  refine lv_aload_n hx hb dX4_wi_0 rfl (lv_at hl 0 rfl) ?_
  refine va_get (D := (dC, dI)) (ci := 4) (v := .ref (M 3)) (C := RX4) (T := TX4) (N := 7) hx hb hts (by decide +kernel) hown hKK.1 hP 0 rfl rfl 4 (by decide) (hts (.fieldLink RX4 16 "WidowPenniesModel" "rows" "[I") (by decide +kernel)) (fun _ h9 => h9) rfl dX4_wi_1 ?_
  refine lv_bipush (v := 7) hx hb dX4_wi_4 (by decide) ?_
  refine lv_iload_n hx hb dX4_wi_6 rfl (lv_at hl 1 rfl) ?_
  refine lv_imul hx hb dX4_wi_7 ?_
  rw [show (7 * (nI k) : Int32) = nI (7 * k) from pk_mul 7 k]
  refine lv_iload_n hx hb dX4_wi_8 rfl (lv_at hl 2 rfl) ?_
  refine lv_iadd hx hb dX4_wi_9 ?_
  rw [show ((nI (7 * k)) + (nI f) : Int32) = nI (7 * k + f) from nI_add _ _]
  refine va_iald hx hb hKK.1 hP 3 0 rfl rfl (vp_in_nI (by omega) (by omega)) dX4_wi_10 ?_
  rw [show (rowsF Wd) (nI (7 * k + f)).toNatClampNeg = (rowsF Wd) (7 * k + f) from congrArg (rowsF Wd) (clamp_nI (by omega))]
  rw [show ((rowsF Wd) (7 * k + f) : Int32) = Wd k f from rowsF_at Wd hf]
  have hz : Wd k f = Wd k f := rfl
  exact W.iret (v := (Wd k f)) hx hb hr (fun t ht hW => ⟨_, rfl, hz, ht⟩) (fun q hq => absurd hq List.not_mem_nil) dX4_wi_11
set_option maxHeartbeats 4000000 in
set_option maxRecDepth 100000 in
theorem met_X4_isAlive (l : Launch) (dC : Nat → ClassId) (dI : Nat → Nat → Nat) (cI cW : ClassId) (M : Nat → Nat) (th : Int32) (n : Nat) (d r : Nat → Int32) (Wd : Nat → Nat → Int32) (ch pd yr : Int32) (T : Nat → Int32) (k : Nat) (hk : k < 10) : Met l yX4_isAlive wsX4_isAlive ({ frames := 1, cells := 0, slots := 0, locals := 22 }) (Pre0 dC dI cI cW [.ref (M 0), .int (nI k)] (mw cI M th n d r Wd ch pd yr T)) (vp_Si (fun z => z = (if Wd k 4 = 0 then (1 : Int32) else 0))) 0 0 (fun _ => False) := by
  refine Met.ofW (cc := cX4_isAlive) (maxL := 2) (ret := (some .boolean)) (by decide) rfl ?_
  intro p e s m args below meth c s₁ B hml hv
  obtain ⟨rfl, hP, hKK⟩ := hv
  have hx := B.exec
  have hb := B.bytes
  have hr := B.returns
  have hts := atoms_spec (ws := wsX4_isAlive) B.pre
  have hown : s.vm.findClass RX4 = some m.cls := findClass_of_methodNamed B.named
  have hlocks := B.notSynchronized
  have hl := lv_entry ([.ref (M 0), .int (nI k)]) (n := 2) (Nat.le_of_ble_eq_true rfl)
  rw [lg_entry_eq]
  generalize (lg_sl ([.ref (M 0), .int (nI k)]) ++ List.replicate (2 - (lg_sl ([.ref (M 0), .int (nI k)])).length) Slot.unset).toArray = ls at hl ⊢
  have hl : lv_has ls 2 [(0, .ref (M 0)), (1, .int (nI k))] := hl
  refine lv_aload_n hx hb dX4_isAlive_0 rfl (lv_at hl 0 rfl) ?_
  refine lv_iload_n hx hb dX4_isAlive_1 rfl (lv_at hl 1 rfl) ?_
  refine lv_iconst (v := 4) hx hb dX4_isAlive_2 (by decide) ?_
  refine rd_i (runV0 (As := [.int (nI k), .int 4]) (rest := []) ⟨hx, hb, hml, hown, hts⟩ (met_X4_wi l dC dI cI cW M th n d r Wd ch pd yr T k hk 4 (by omega)) (cwV 2 hts gX4_isAlive_X4_wi rfl rfl rfl (by decide +kernel) ⟨Nat.le_of_ble_eq_true rfl, Nat.le_of_ble_eq_true rfl⟩) hKK hP 4 0 rfl rfl rfl hl.1 (Nat.le_of_ble_eq_true rfl) rfl dX4_isAlive_3 ⟨Nat.zero_le _, Nat.zero_le _⟩) (fun r_1 hr_1 => ?_)
  subst hr_1
  refine lv_if_ne (tgt := 13) hx hb dX4_isAlive_6 (by decide) (fun c_2 => ?_) (fun c_2 => ?_)
  · refine lv_iconst (v := 0) hx hb dX4_isAlive_13 (by decide) ?_
    have hz : 0 = (if Wd k 4 = 0 then (1 : Int32) else 0) := by simp_all
    exact W.zret (v := 0) hx hb hr (by first | rfl | (split <;> rfl)) (fun t ht hW => ⟨_, rfl, hz, ht⟩) (fun q hq => absurd hq List.not_mem_nil) dX4_isAlive_14
  · refine lv_iconst (v := 1) hx hb dX4_isAlive_9 (by decide) ?_
    refine lv_goto (tgt := 14) hx hb dX4_isAlive_10 (by decide) ?_
    have hz : 1 = (if Wd k 4 = 0 then (1 : Int32) else 0) := by simp_all
    exact W.zret (v := 1) hx hb hr (by first | rfl | (split <;> rfl)) (fun t ht hW => ⟨_, rfl, hz, ht⟩) (fun q hq => absurd hq List.not_mem_nil) dX4_isAlive_14
set_option maxHeartbeats 4000000 in
set_option maxRecDepth 100000 in
theorem met_X4_worthOf (l : Launch) (dC : Nat → ClassId) (dI : Nat → Nat → Nat) (cI cW : ClassId) (M : Nat → Nat) (th : Int32) (n : Nat) (d r : Nat → Int32) (Wd : Nat → Nat → Int32) (ch pd yr : Int32) (ka kb : Nat) (h1 : 50 ≤ ka) (h2 : ka ≤ 99) (h3 : kb ≤ 30) : Met l yX4_worthOf wsX4_worthOf ({ frames := 0, cells := 0, slots := 0, locals := 0 }) (Pre0 dC dI cI cW [.ref (M 0), .int (nI ka), .int (nI kb)] (mw cI M th n d r Wd ch pd yr (WT d (r 0)))) (vp_Si (fun z => z = wN d (r 0) (100 - ka) kb)) 0 0 (fun _ => False) := by
  refine Met.ofW (cc := cX4_worthOf) (maxL := 3) (ret := (some .int)) (by decide) rfl ?_
  intro p e s m args below meth c s₁ B hml hv
  obtain ⟨rfl, hP, hKK⟩ := hv
  have hx := B.exec
  have hb := B.bytes
  have hr := B.returns
  have hts := atoms_spec (ws := wsX4_worthOf) B.pre
  have hown : s.vm.findClass RX4 = some m.cls := findClass_of_methodNamed B.named
  have hlocks := B.notSynchronized
  have hl := lv_entry ([.ref (M 0), .int (nI ka), .int (nI kb)]) (n := 3) (Nat.le_of_ble_eq_true rfl)
  rw [lg_entry_eq]
  generalize (lg_sl ([.ref (M 0), .int (nI ka), .int (nI kb)]) ++ List.replicate (3 - (lg_sl ([.ref (M 0), .int (nI ka), .int (nI kb)])).length) Slot.unset).toArray = ls at hl ⊢
  have hl : lv_has ls 3 [(0, .ref (M 0)), (1, .int (nI ka)), (2, .int (nI kb))] := hl
  refine lv_aload_n hx hb dX4_worthOf_0 rfl (lv_at hl 0 rfl) ?_
  refine va_get (D := (dC, dI)) (ci := 4) (v := .ref (M 5)) (C := RX4) (T := TX4) (N := 7) hx hb hts (by decide +kernel) hown hKK.1 hP 0 rfl rfl 6 (by decide) (hts (.fieldLink RX4 22 "WidowPenniesModel" "worths" "[I") (by decide +kernel)) (fun _ h9 => h9) rfl dX4_worthOf_1 ?_
  refine lv_bipush (v := 51) hx hb dX4_worthOf_4 (by decide) ?_
  refine lv_iload_n hx hb dX4_worthOf_6 rfl (lv_at hl 2 rfl) ?_
  refine lv_imul hx hb dX4_worthOf_7 ?_
  rw [show (51 * (nI kb) : Int32) = nI (51 * kb) from pk_mul 51 kb]
  refine lv_iload_n hx hb dX4_worthOf_8 rfl (lv_at hl 1 rfl) ?_
  refine lv_iadd hx hb dX4_worthOf_9 ?_
  rw [show ((nI (51 * kb)) + (nI ka) : Int32) = nI (51 * kb + ka) from nI_add _ _]
  refine lv_bipush (v := 50) hx hb dX4_worthOf_10 (by decide) ?_
  refine lv_isub hx hb dX4_worthOf_12 ?_
  rw [show ((nI (51 * kb + ka)) - 50 : Int32) = nI (51 * kb + ka - 50) from n_sub (b := 50) (by omega)]
  refine va_iald hx hb hKK.1 hP 5 0 rfl rfl (vp_in_nI (by omega) (by omega)) dX4_worthOf_13 ?_
  rw [show (WT d (r 0)) (nI (51 * kb + ka - 50)).toNatClampNeg = (WT d (r 0)) (51 * kb + ka - 50) from congrArg (WT d (r 0)) (clamp_nI (by omega))]
  rw [show ((WT d (r 0)) (51 * kb + ka - 50) : Int32) = wN d (r 0) (100 - ka) kb from WT_at d (r 0) h1 h2 h3]
  have hz : wN d (r 0) (100 - ka) kb = wN d (r 0) (100 - ka) kb := rfl
  exact W.iret (v := (wN d (r 0) (100 - ka) kb)) hx hb hr (fun t ht hW => ⟨_, rfl, hz, ht⟩) (fun q hq => absurd hq List.not_mem_nil) dX4_worthOf_14
set_option maxHeartbeats 4000000 in
set_option maxRecDepth 100000 in
theorem met_X4_priceOf (l : Launch) (dC : Nat → ClassId) (dI : Nat → Nat → Nat) (cI cW : ClassId) (M : Nat → Nat) (th : Int32) (n : Nat) (d r : Nat → Int32) (Wd : Nat → Nat → Int32) (ch pd yr : Int32) (ka : Nat) (x : Int32) (kb : Nat) (h1 : 50 ≤ ka) (h2 : ka ≤ 99) (h3 : kb ≤ 30) : Met l yX4_priceOf wsX4_priceOf ({ frames := 1, cells := 0, slots := 0, locals := 22 }) (Pre0 dC dI cI cW [.ref (M 0), .int (nI ka), .int x, .int (nI kb)] (mw cI M th n d r Wd ch pd yr (WT d (r 0)))) (vp_Si (fun z => z = priceS (r 1) x (wN d (r 0) (100 - ka) kb))) 0 0 (fun _ => False) := by
  refine Met.ofW (cc := cX4_priceOf) (maxL := 5) (ret := (some .int)) (by decide) rfl ?_
  intro p e s m args below meth c s₁ B hml hv
  obtain ⟨rfl, hP, hKK⟩ := hv
  have hx := B.exec
  have hb := B.bytes
  have hr := B.returns
  have hts := atoms_spec (ws := wsX4_priceOf) B.pre
  have hown : s.vm.findClass RX4 = some m.cls := findClass_of_methodNamed B.named
  have hlocks := B.notSynchronized
  have hl := lv_entry ([.ref (M 0), .int (nI ka), .int x, .int (nI kb)]) (n := 5) (Nat.le_of_ble_eq_true rfl)
  rw [lg_entry_eq]
  generalize (lg_sl ([.ref (M 0), .int (nI ka), .int x, .int (nI kb)]) ++ List.replicate (5 - (lg_sl ([.ref (M 0), .int (nI ka), .int x, .int (nI kb)])).length) Slot.unset).toArray = ls at hl ⊢
  have hl : lv_has ls 5 [(0, .ref (M 0)), (1, .int (nI ka)), (2, .int x), (3, .int (nI kb))] := hl
  refine lv_iload_n hx hb dX4_priceOf_0 rfl (lv_at hl 2 rfl) ?_
  refine lv_aload_n hx hb dX4_priceOf_1 rfl (lv_at hl 0 rfl) ?_
  refine lv_iload_n hx hb dX4_priceOf_2 rfl (lv_at hl 1 rfl) ?_
  refine lv_iload_n hx hb dX4_priceOf_3 rfl (lv_at hl 3 rfl) ?_
  refine rd_i (runV0 (As := [.int (nI ka), .int (nI kb)]) (rest := [.int x]) ⟨hx, hb, hml, hown, hts⟩ (met_X4_worthOf l dC dI cI cW M th n d r Wd ch pd yr ka kb h1 h2 h3) (cwV 2 hts gX4_priceOf_X4_worthOf rfl rfl rfl (by decide +kernel) ⟨Nat.le_of_ble_eq_true rfl, Nat.le_of_ble_eq_true rfl⟩) hKK hP 4 0 rfl rfl rfl hl.1 (Nat.le_of_ble_eq_true rfl) rfl dX4_priceOf_4 ⟨Nat.zero_le _, Nat.zero_le _⟩) (fun r_1 hr_1 => ?_)
  subst hr_1
  refine lv_imul hx hb dX4_priceOf_7 ?_
  refine lv_sipush (v := 1000) hx hb dX4_priceOf_8 (by decide) ?_
  refine lv_idiv hx hb dX4_priceOf_11 (by decide) ?_
  refine lv_istore (lv' := [(4, .int ((x * (wN d (r 0) (100 - ka) kb)) / 1000)), (0, .ref (M 0)), (1, .int (nI ka)), (2, .int x), (3, .int (nI kb))]) hx hb dX4_priceOf_12 hl (by decide) rfl (fun ls hl => ?_)
  refine lv_aload_n hx hb dX4_priceOf_14 rfl (lv_at hl 1 rfl) ?_
  refine lv_iload_n hx hb dX4_priceOf_15 rfl (lv_at hl 2 rfl) ?_
  refine lv_iload_n hx hb dX4_priceOf_16 rfl (lv_at hl 4 rfl) ?_
  refine rd_i (runV0 (As := [.int (nI ka), .int (nI kb)]) (rest := []) ⟨hx, hb, hml, hown, hts⟩ (met_X4_worthOf l dC dI cI cW M th n d r Wd ch pd yr ka kb h1 h2 h3) (cwV 2 hts gX4_priceOf_X4_worthOf rfl rfl rfl (by decide +kernel) ⟨Nat.le_of_ble_eq_true rfl, Nat.le_of_ble_eq_true rfl⟩) hKK hP 4 0 rfl rfl rfl hl.1 (Nat.le_of_ble_eq_true rfl) rfl dX4_priceOf_17 ⟨Nat.zero_le _, Nat.zero_le _⟩) (fun r_2 hr_2 => ?_)
  subst hr_2
  refine lv_if_ne (tgt := 27) hx hb dX4_priceOf_20 (by decide) (fun c_3 => ?_) (fun c_3 => ?_)
  · refine lv_iconst (v := 1) hx hb dX4_priceOf_27 (by decide) ?_
    refine lv_iload hx hb dX4_priceOf_28 (lv_at hl 0 rfl) ?_
    refine lv_iload hx hb dX4_priceOf_30 (lv_at hl 0 rfl) ?_
    refine lv_aload_n hx hb dX4_priceOf_32 rfl (lv_at hl 1 rfl) ?_
    refine va_get (D := (dC, dI)) (ci := 4) (v := .ref (M 1)) (C := RX4) (T := TX4) (N := 7) hx hb hts (by decide +kernel) hown hKK.1 hP 0 rfl rfl 2 (by decide) (hts (.fieldLink RX4 7 "WidowPenniesModel" "rates" "[I") (by decide +kernel)) (fun _ h9 => h9) rfl dX4_priceOf_33 ?_
    refine lv_iconst (v := 1) hx hb dX4_priceOf_36 (by decide) ?_
    refine va_iald hx hb hKK.1 hP 1 0 rfl rfl (vp_in_nI (n := 1) (by omega) (by omega)) dX4_priceOf_37 ?_
    rw [show r (1 : Int32).toNatClampNeg = r 1 from rfl]
    refine lv_imul hx hb dX4_priceOf_38 ?_
    refine lv_bipush (v := 100) hx hb dX4_priceOf_39 (by decide) ?_
    refine lv_idiv hx hb dX4_priceOf_41 (by decide) ?_
    refine lv_iadd hx hb dX4_priceOf_42 ?_
    refine va_mmax hx hb (hml.trans hl.1.symm) hown (hts (.methodLink RX4 46 Lib.Math.max.name) (by decide +kernel)) (hts (.static Lib.Math.max.name) (by decide +kernel)) (hts (.initialized "java/lang/Math") (by decide +kernel)) (hts (.code Lib.Math.max.name Lib.Math.max.code 2 (some .int)) (by decide +kernel)) (Nat.le_of_ble_eq_true rfl) (Nat.le_of_ble_eq_true rfl) (Nat.zero_le _) (Nat.zero_le _) dX4_priceOf_43 ?_
    have hz : (if 1 < (((x * (wN d (r 0) (100 - ka) kb)) / 1000) + ((((x * (wN d (r 0) (100 - ka) kb)) / 1000) * (r 1)) / 100)) then (((x * (wN d (r 0) (100 - ka) kb)) / 1000) + ((((x * (wN d (r 0) (100 - ka) kb)) / 1000) * (r 1)) / 100)) else 1) = priceS (r 1) x (wN d (r 0) (100 - ka) kb) := max_priceS (r 1) x _ c_3
    exact W.iret (v := (if 1 < (((x * (wN d (r 0) (100 - ka) kb)) / 1000) + ((((x * (wN d (r 0) (100 - ka) kb)) / 1000) * (r 1)) / 100)) then (((x * (wN d (r 0) (100 - ka) kb)) / 1000) + ((((x * (wN d (r 0) (100 - ka) kb)) / 1000) * (r 1)) / 100)) else 1)) hx hb hr (fun t ht hW => ⟨_, rfl, hz, ht⟩) (fun q hq => absurd hq List.not_mem_nil) dX4_priceOf_46
  · refine lv_iconst (v := 0) hx hb dX4_priceOf_23 (by decide) ?_
    refine lv_goto (tgt := 46) hx hb dX4_priceOf_24 (by decide) ?_
    have hz : (0) = priceS (r 1) x (wN d (r 0) (100 - ka) kb) := by rw [priceS, if_pos c_3]
    exact W.iret (v := 0) hx hb hr (fun t ht hW => ⟨_, rfl, hz, ht⟩) (fun q hq => absurd hq List.not_mem_nil) dX4_priceOf_46
set_option maxHeartbeats 4000000 in
set_option maxRecDepth 100000 in
theorem met_X4_kept (l : Launch) (dC : Nat → ClassId) (dI : Nat → Nat → Nat) (cI cW : ClassId) (M : Nat → Nat) (th : Int32) (n : Nat) (d r : Nat → Int32) (Wd : Nat → Nat → Int32) (ch pd yr : Int32) (k : Nat) (hk : k < 10) (hok : okW (Wd k)) : Met l yX4_kept wsX4_kept ({ frames := 2, cells := 0, slots := 0, locals := 43 }) (Pre0 dC dI cI cW [.ref (M 0), .int (nI k)] (mw cI M th n d r Wd ch pd yr (WT d (r 0)))) (vp_Si (fun z => z = keptS d (r 0) (Wd k))) 0 0 (fun _ => False) := by
  refine Met.ofW (cc := cX4_kept) (maxL := 2) (ret := (some .int)) (by decide) rfl ?_
  intro p e s m args below meth c s₁ B hml hv
  obtain ⟨rfl, hP, hKK⟩ := hv
  have hx := B.exec
  have hb := B.bytes
  have hr := B.returns
  have hts := atoms_spec (ws := wsX4_kept) B.pre
  have hown : s.vm.findClass RX4 = some m.cls := findClass_of_methodNamed B.named
  have hlocks := B.notSynchronized
  have hl := lv_entry ([.ref (M 0), .int (nI k)]) (n := 2) (Nat.le_of_ble_eq_true rfl)
  rw [lg_entry_eq]
  generalize (lg_sl ([.ref (M 0), .int (nI k)]) ++ List.replicate (2 - (lg_sl ([.ref (M 0), .int (nI k)])).length) Slot.unset).toArray = ls at hl ⊢
  have hl : lv_has ls 2 [(0, .ref (M 0)), (1, .int (nI k))] := hl
  refine lv_aload_n hx hb dX4_kept_0 rfl (lv_at hl 0 rfl) ?_
  refine lv_iload_n hx hb dX4_kept_1 rfl (lv_at hl 1 rfl) ?_
  refine rd_i (runV0 (As := [.int (nI k)]) (rest := []) ⟨hx, hb, hml, hown, hts⟩ (met_X4_isAlive l dC dI cI cW M th n d r Wd ch pd yr (WT d (r 0)) k hk) (cwV 1 hts gX4_kept_X4_isAlive rfl rfl rfl (by decide +kernel) ⟨Nat.le_of_ble_eq_true rfl, Nat.le_of_ble_eq_true rfl⟩) hKK hP 4 0 rfl rfl rfl hl.1 (Nat.le_of_ble_eq_true rfl) rfl dX4_kept_2 ⟨Nat.zero_le _, Nat.zero_le _⟩) (fun r_1 hr_1 => ?_)
  subst hr_1
  refine lv_if_eq (tgt := 38) hx hb dX4_kept_5 (by decide) (fun c_2 => ?_) (fun c_2 => ?_)
  · have bc_2 : ¬ (Wd k 4 = 0) := b0.mp c_2
    refine lv_iconst (v := 0) hx hb dX4_kept_38 (by decide) ?_
    have hz : 0 = keptS d (r 0) (Wd k) := by rw [keptS, if_neg bc_2]
    exact W.iret (v := 0) hx hb hr (fun t ht hW => ⟨_, rfl, hz, ht⟩) (fun q hq => absurd hq List.not_mem_nil) dX4_kept_39
  · have bc_2 : Wd k 4 = 0 := b1.mp c_2
    obtain ⟨⟨ka, hka, hka1, hka2⟩, ⟨kb, hkb, hkb1⟩, -⟩ := hok bc_2
    refine lv_aload_n hx hb dX4_kept_8 rfl (lv_at hl 0 rfl) ?_
    refine lv_iload_n hx hb dX4_kept_9 rfl (lv_at hl 1 rfl) ?_
    refine lv_iconst (v := 1) hx hb dX4_kept_10 (by decide) ?_
    refine rd_i (runV0 (As := [.int (nI k), .int 1]) (rest := []) ⟨hx, hb, hml, hown, hts⟩ (met_X4_wi l dC dI cI cW M th n d r Wd ch pd yr (WT d (r 0)) k hk 1 (by omega)) (cwV 2 hts gX4_kept_X4_wi rfl rfl rfl (by decide +kernel) ⟨Nat.le_of_ble_eq_true rfl, Nat.le_of_ble_eq_true rfl⟩) hKK hP 4 0 rfl rfl rfl hl.1 (Nat.le_of_ble_eq_true rfl) rfl dX4_kept_11 ⟨Nat.zero_le _, Nat.zero_le _⟩) (fun r_3 hr_3 => ?_)
    subst hr_3
    refine lv_aload_n hx hb dX4_kept_14 rfl (lv_at hl 0 rfl) ?_
    refine lv_aload_n hx hb dX4_kept_15 rfl (lv_at hl 0 rfl) ?_
    refine lv_iload_n hx hb dX4_kept_16 rfl (lv_at hl 1 rfl) ?_
    refine lv_iconst (v := 0) hx hb dX4_kept_17 (by decide) ?_
    refine rd_i (runV0 (As := [.int (nI k), .int 0]) (rest := [.ref (M 0), .int (Wd k 1)]) ⟨hx, hb, hml, hown, hts⟩ (met_X4_wi l dC dI cI cW M th n d r Wd ch pd yr (WT d (r 0)) k hk 0 (by omega)) (cwV 2 hts gX4_kept_X4_wi rfl rfl rfl (by decide +kernel) ⟨Nat.le_of_ble_eq_true rfl, Nat.le_of_ble_eq_true rfl⟩) hKK hP 4 0 rfl rfl rfl hl.1 (Nat.le_of_ble_eq_true rfl) rfl dX4_kept_18 ⟨Nat.zero_le _, Nat.zero_le _⟩) (fun r_4 hr_4 => ?_)
    subst hr_4
    rw [show (Wd k 0 : Int32) = nI ka from hka]
    refine lv_aload_n hx hb dX4_kept_21 rfl (lv_at hl 0 rfl) ?_
    refine lv_iload_n hx hb dX4_kept_22 rfl (lv_at hl 1 rfl) ?_
    refine lv_iconst (v := 2) hx hb dX4_kept_23 (by decide) ?_
    refine rd_i (runV0 (As := [.int (nI k), .int 2]) (rest := [.int (nI ka), .ref (M 0), .int (Wd k 1)]) ⟨hx, hb, hml, hown, hts⟩ (met_X4_wi l dC dI cI cW M th n d r Wd ch pd yr (WT d (r 0)) k hk 2 (by omega)) (cwV 2 hts gX4_kept_X4_wi rfl rfl rfl (by decide +kernel) ⟨Nat.le_of_ble_eq_true rfl, Nat.le_of_ble_eq_true rfl⟩) hKK hP 4 0 rfl rfl rfl hl.1 (Nat.le_of_ble_eq_true rfl) rfl dX4_kept_24 ⟨Nat.zero_le _, Nat.zero_le _⟩) (fun r_6 hr_6 => ?_)
    subst hr_6
    rw [show (Wd k 2 : Int32) = nI kb from hkb]
    refine rd_i (runV0 (As := [.int (nI ka), .int (nI kb)]) (rest := [.int (Wd k 1)]) ⟨hx, hb, hml, hown, hts⟩ (met_X4_worthOf l dC dI cI cW M th n d r Wd ch pd yr ka kb hka1 hka2 hkb1) (cwV 2 hts gX4_kept_X4_worthOf rfl rfl rfl (by decide +kernel) ⟨Nat.le_of_ble_eq_true rfl, Nat.le_of_ble_eq_true rfl⟩) hKK hP 4 0 rfl rfl rfl hl.1 (Nat.le_of_ble_eq_true rfl) rfl dX4_kept_27 ⟨Nat.zero_le _, Nat.zero_le _⟩) (fun r_8 hr_8 => ?_)
    subst hr_8
    refine lv_imul hx hb dX4_kept_30 ?_
    refine lv_sipush (v := 1000) hx hb dX4_kept_31 (by decide) ?_
    refine lv_idiv hx hb dX4_kept_34 (by decide) ?_
    refine lv_goto (tgt := 39) hx hb dX4_kept_35 (by decide) ?_
    have hz : ((Wd k 1) * (wN d (r 0) (100 - ka) kb)) / 1000 = keptS d (r 0) (Wd k) := by rw [keptS, if_pos bc_2, hka, hkb, clamp_nI (by omega), clamp_nI (by omega)]
    exact W.iret (v := (((Wd k 1) * (wN d (r 0) (100 - ka) kb)) / 1000)) hx hb hr (fun t ht hW => ⟨_, rfl, hz, ht⟩) (fun q hq => absurd hq List.not_mem_nil) dX4_kept_39
set_option maxHeartbeats 4000000 in
set_option maxRecDepth 100000 in
theorem met_X4_back (l : Launch) (dC : Nat → ClassId) (dI : Nat → Nat → Nat) (cI cW : ClassId) (M : Nat → Nat) (th : Int32) (n : Nat) (d r : Nat → Int32) (Wd : Nat → Nat → Int32) (ch pd yr : Int32) (k : Nat) (hk : k < 10) (hok : okW (Wd k)) : Met l yX4_back wsX4_back ({ frames := 3, cells := 0, slots := 0, locals := 64 }) (Pre0 dC dI cI cW [.ref (M 0), .int (nI k)] (mw cI M th n d r Wd ch pd yr (WT d (r 0)))) (vp_Si (fun z => z = backS d r (Wd k))) 0 0 (fun _ => False) := by
  refine Met.ofW (cc := cX4_back) (maxL := 2) (ret := (some .int)) (by decide) rfl ?_
  intro p e s m args below meth c s₁ B hml hv
  obtain ⟨rfl, hP, hKK⟩ := hv
  have hx := B.exec
  have hb := B.bytes
  have hr := B.returns
  have hts := atoms_spec (ws := wsX4_back) B.pre
  have hown : s.vm.findClass RX4 = some m.cls := findClass_of_methodNamed B.named
  have hlocks := B.notSynchronized
  have hl := lv_entry ([.ref (M 0), .int (nI k)]) (n := 2) (Nat.le_of_ble_eq_true rfl)
  rw [lg_entry_eq]
  generalize (lg_sl ([.ref (M 0), .int (nI k)]) ++ List.replicate (2 - (lg_sl ([.ref (M 0), .int (nI k)])).length) Slot.unset).toArray = ls at hl ⊢
  have hl : lv_has ls 2 [(0, .ref (M 0)), (1, .int (nI k))] := hl
  refine lv_aload_n hx hb dX4_back_0 rfl (lv_at hl 0 rfl) ?_
  refine lv_iload_n hx hb dX4_back_1 rfl (lv_at hl 1 rfl) ?_
  refine rd_i (runV0 (As := [.int (nI k)]) (rest := []) ⟨hx, hb, hml, hown, hts⟩ (met_X4_isAlive l dC dI cI cW M th n d r Wd ch pd yr (WT d (r 0)) k hk) (cwV 1 hts gX4_back_X4_isAlive rfl rfl rfl (by decide +kernel) ⟨Nat.le_of_ble_eq_true rfl, Nat.le_of_ble_eq_true rfl⟩) hKK hP 4 0 rfl rfl rfl hl.1 (Nat.le_of_ble_eq_true rfl) rfl dX4_back_2 ⟨Nat.zero_le _, Nat.zero_le _⟩) (fun r_1 hr_1 => ?_)
  subst hr_1
  refine lv_if_eq (tgt := 18) hx hb dX4_back_5 (by decide) (fun c_2 => ?_) (fun c_2 => ?_)
  · have bc_2 : ¬ (Wd k 4 = 0) := b0.mp c_2
    have hno : ¬ (Wd k 4 = 0 ∧ 2 ≤ Wd k 3) := fun q => bc_2 q.1
    refine lv_iconst (v := 0) hx hb dX4_back_18 (by decide) ?_
    refine lv_goto (tgt := 43) hx hb dX4_back_19 (by decide) ?_
    have hz : 0 = backS d r (Wd k) := by rw [backS, if_neg hno]
    exact W.iret (v := 0) hx hb hr (fun t ht hW => ⟨_, rfl, hz, ht⟩) (fun q hq => absurd hq List.not_mem_nil) dX4_back_43
  · have bc_2 : Wd k 4 = 0 := b1.mp c_2
    have hal := bc_2
    refine lv_aload_n hx hb dX4_back_8 rfl (lv_at hl 0 rfl) ?_
    refine lv_iload_n hx hb dX4_back_9 rfl (lv_at hl 1 rfl) ?_
    refine lv_iconst (v := 3) hx hb dX4_back_10 (by decide) ?_
    refine rd_i (runV0 (As := [.int (nI k), .int 3]) (rest := []) ⟨hx, hb, hml, hown, hts⟩ (met_X4_wi l dC dI cI cW M th n d r Wd ch pd yr (WT d (r 0)) k hk 3 (by omega)) (cwV 2 hts gX4_back_X4_wi rfl rfl rfl (by decide +kernel) ⟨Nat.le_of_ble_eq_true rfl, Nat.le_of_ble_eq_true rfl⟩) hKK hP 4 0 rfl rfl rfl hl.1 (Nat.le_of_ble_eq_true rfl) rfl dX4_back_11 ⟨Nat.zero_le _, Nat.zero_le _⟩) (fun r_3 hr_3 => ?_)
    subst hr_3
    refine lv_iconst (v := 2) hx hb dX4_back_14 (by decide) ?_
    refine lv_icmp_ge (tgt := 22) hx hb dX4_back_15 (by decide) (fun c_4 => ?_) (fun c_4 => ?_)
    · have hge := c_4
      refine lv_aload_n hx hb dX4_back_22 rfl (lv_at hl 0 rfl) ?_
      refine lv_iload_n hx hb dX4_back_23 rfl (lv_at hl 1 rfl) ?_
      refine rd_i (runV0 (As := [.int (nI k)]) (rest := []) ⟨hx, hb, hml, hown, hts⟩ (met_X4_kept l dC dI cI cW M th n d r Wd ch pd yr k hk hok) (cwV 1 hts gX4_back_X4_kept rfl rfl rfl (by decide +kernel) ⟨Nat.le_of_ble_eq_true rfl, Nat.le_of_ble_eq_true rfl⟩) hKK hP 4 0 rfl rfl rfl hl.1 (Nat.le_of_ble_eq_true rfl) rfl dX4_back_24 ⟨Nat.zero_le _, Nat.zero_le _⟩) (fun r_5 hr_5 => ?_)
      subst hr_5
      refine lv_aload_n hx hb dX4_back_27 rfl (lv_at hl 0 rfl) ?_
      refine lv_iload_n hx hb dX4_back_28 rfl (lv_at hl 1 rfl) ?_
      refine rd_i (runV0 (As := [.int (nI k)]) (rest := [.int (keptS d (r 0) (Wd k))]) ⟨hx, hb, hml, hown, hts⟩ (met_X4_kept l dC dI cI cW M th n d r Wd ch pd yr k hk hok) (cwV 1 hts gX4_back_X4_kept rfl rfl rfl (by decide +kernel) ⟨Nat.le_of_ble_eq_true rfl, Nat.le_of_ble_eq_true rfl⟩) hKK hP 4 0 rfl rfl rfl hl.1 (Nat.le_of_ble_eq_true rfl) rfl dX4_back_29 ⟨Nat.zero_le _, Nat.zero_le _⟩) (fun r_6 hr_6 => ?_)
      subst hr_6
      refine lv_aload_n hx hb dX4_back_32 rfl (lv_at hl 0 rfl) ?_
      refine va_get (D := (dC, dI)) (ci := 4) (v := .ref (M 1)) (C := RX4) (T := TX4) (N := 7) hx hb hts (by decide +kernel) hown hKK.1 hP 0 rfl rfl 2 (by decide) (hts (.fieldLink RX4 7 "WidowPenniesModel" "rates" "[I") (by decide +kernel)) (fun _ h9 => h9) rfl dX4_back_33 ?_
      refine lv_iconst (v := 2) hx hb dX4_back_36 (by decide) ?_
      refine va_iald hx hb hKK.1 hP 1 0 rfl rfl (vp_in_nI (n := 2) (by omega) (by omega)) dX4_back_37 ?_
      rw [show r (2 : Int32).toNatClampNeg = r 2 from rfl]
      refine lv_imul hx hb dX4_back_38 ?_
      refine lv_bipush (v := 100) hx hb dX4_back_39 (by decide) ?_
      refine lv_idiv hx hb dX4_back_41 (by decide) ?_
      refine lv_isub hx hb dX4_back_42 ?_
      have hz : (keptS d (r 0) (Wd k)) - (((keptS d (r 0) (Wd k)) * (r 2)) / 100) = backS d r (Wd k) := by rw [backS, if_pos ⟨hal, hge⟩]
      exact W.iret (v := ((keptS d (r 0) (Wd k)) - (((keptS d (r 0) (Wd k)) * (r 2)) / 100))) hx hb hr (fun t ht hW => ⟨_, rfl, hz, ht⟩) (fun q hq => absurd hq List.not_mem_nil) dX4_back_43
    · have hno : ¬ (Wd k 4 = 0 ∧ 2 ≤ Wd k 3) := fun q => c_4 q.2
      refine lv_iconst (v := 0) hx hb dX4_back_18 (by decide) ?_
      refine lv_goto (tgt := 43) hx hb dX4_back_19 (by decide) ?_
      have hz : 0 = backS d r (Wd k) := by rw [backS, if_neg hno]
      exact W.iret (v := 0) hx hb hr (fun t ht hW => ⟨_, rfl, hz, ht⟩) (fun q hq => absurd hq List.not_mem_nil) dX4_back_43
set_option maxHeartbeats 4000000 in
set_option maxRecDepth 100000 in
theorem met_X4_keptForAll (l : Launch) (dC : Nat → ClassId) (dI : Nat → Nat → Nat) (cI cW : ClassId) (M : Nat → Nat) (th : Int32) (n : Nat) (d r : Nat → Int32) (Wd : Nat → Nat → Int32) (ch pd yr : Int32) (hn : n ≤ 10) (hok : ∀ k, k < n → okW (Wd k)) : Met l yX4_keptForAll wsX4_keptForAll ({ frames := 3, cells := 0, slots := 0, locals := 64 }) (Pre0 dC dI cI cW [.ref (M 0)] (mw cI M th n d r Wd ch pd yr (WT d (r 0)))) (vp_Si (fun z => z = sm (kptF d (r 0) Wd) n)) 0 0 (fun _ => False) := by
  refine Met.ofW (cc := cX4_keptForAll) (maxL := 3) (ret := (some .int)) (by decide) rfl ?_
  intro p e s m args below meth c s₁ B hml hv
  obtain ⟨rfl, hP, hKK⟩ := hv
  have hx := B.exec
  have hb := B.bytes
  have hr := B.returns
  have hts := atoms_spec (ws := wsX4_keptForAll) B.pre
  have hown : s.vm.findClass RX4 = some m.cls := findClass_of_methodNamed B.named
  have hlocks := B.notSynchronized
  have hl := lv_entry ([.ref (M 0)]) (n := 3) (Nat.le_of_ble_eq_true rfl)
  rw [lg_entry_eq]
  generalize (lg_sl ([.ref (M 0)]) ++ List.replicate (3 - (lg_sl ([.ref (M 0)])).length) Slot.unset).toArray = ls at hl ⊢
  have hl : lv_has ls 3 [(0, .ref (M 0))] := hl
  have key : ∀ (m9 j : Nat), j + m9 = n → ∀ ls : Array Slot, lv_has ls 3 [(2, .int (nI j)), (1, .int (sm (kptF d (r 0) Wd) j)), (0, .ref (M 0))] → W p l e (headSpec wsX4_keptForAll ({ frames := 3, cells := 0, slots := 0, locals := 64 })).room s m (([.ref (M 0)] : List Value).toArray) below meth c s.heap [] 0 0 (MQ below (vp_Si (fun z => z = sm (kptF d (r 0) Wd) n)) ([.ref (M 0)] : List Value).toArray s 0 0 (fun _ => False)) (F0 m 4 ls []) := by
    intro m9
    induction m9 with
    | zero =>
      intro j hj ls hl
      refine lv_iload_n hx hb dX4_keptForAll_4 rfl (lv_at hl 0 rfl) ?_
      refine lv_aload_n hx hb dX4_keptForAll_5 rfl (lv_at hl 2 rfl) ?_
      refine va_get (D := (dC, dI)) (ci := 4) (v := .int (nI n)) (C := RX4) (T := TX4) (N := 7) hx hb hts (by decide +kernel) hown hKK.1 hP 0 rfl rfl 1 (by decide) (hts (.fieldLink RX4 36 "WidowPenniesModel" "widows" "I") (by decide +kernel)) (fun _ h9 => h9) rfl dX4_keptForAll_6 ?_
      refine lv_icmp_ge (tgt := 26) hx hb dX4_keptForAll_9 (by decide) (fun c_1 => ?_) (fun c_1 => ?_)
      · refine lv_iload_n hx hb dX4_keptForAll_26 rfl (lv_at hl 1 rfl) ?_
        have hz : sm (kptF d (r 0) Wd) j = sm (kptF d (r 0) Wd) n := by rw [show j = n by omega]
        exact W.iret (v := (sm (kptF d (r 0) Wd) j)) hx hb hr (fun t ht hW => ⟨_, rfl, hz, ht⟩) (fun q hq => absurd hq List.not_mem_nil) dX4_keptForAll_27
      · exact absurd ((le_nI (by omega)).mpr (by omega)) c_1
    | succ m9 ih =>
      intro j hj ls hl
      have hj10 : j < 10 := by omega
      refine lv_iload_n hx hb dX4_keptForAll_4 rfl (lv_at hl 0 rfl) ?_
      refine lv_aload_n hx hb dX4_keptForAll_5 rfl (lv_at hl 2 rfl) ?_
      refine va_get (D := (dC, dI)) (ci := 4) (v := .int (nI n)) (C := RX4) (T := TX4) (N := 7) hx hb hts (by decide +kernel) hown hKK.1 hP 0 rfl rfl 1 (by decide) (hts (.fieldLink RX4 36 "WidowPenniesModel" "widows" "I") (by decide +kernel)) (fun _ h9 => h9) rfl dX4_keptForAll_6 ?_
      refine lv_icmp_ge (tgt := 26) hx hb dX4_keptForAll_9 (by decide) (fun c_1 => ?_) (fun c_1 => ?_)
      · exact absurd c_1 (fun q => absurd ((le_nI (by omega)).mp q) (by omega))
      · refine lv_iload_n hx hb dX4_keptForAll_12 rfl (lv_at hl 1 rfl) ?_
        refine lv_aload_n hx hb dX4_keptForAll_13 rfl (lv_at hl 2 rfl) ?_
        refine lv_iload_n hx hb dX4_keptForAll_14 rfl (lv_at hl 0 rfl) ?_
        refine rd_i (runV0 (As := [.int (nI j)]) (rest := [.int (sm (kptF d (r 0) Wd) j)]) ⟨hx, hb, hml, hown, hts⟩ (met_X4_kept l dC dI cI cW M th n d r Wd ch pd yr j hj10 (hok j (by omega))) (cwV 1 hts gX4_keptForAll_X4_kept rfl rfl rfl (by decide +kernel) ⟨Nat.le_of_ble_eq_true rfl, Nat.le_of_ble_eq_true rfl⟩) hKK hP 4 0 rfl rfl rfl hl.1 (Nat.le_of_ble_eq_true rfl) rfl dX4_keptForAll_15 ⟨Nat.zero_le _, Nat.zero_le _⟩) (fun r_2 hr_2 => ?_)
        subst hr_2
        refine lv_iadd hx hb dX4_keptForAll_18 ?_
        rw [show ((sm (kptF d (r 0) Wd) j) + (keptS d (r 0) (Wd j)) : Int32) = sm (kptF d (r 0) Wd) (j + 1) from by simp [sm, kptF]]
        refine lv_istore_n (lv' := [(1, .int (sm (kptF d (r 0) Wd) (j + 1))), (2, .int (nI j)), (0, .ref (M 0))]) hx hb dX4_keptForAll_19 rfl hl (by decide) rfl (fun ls hl => ?_)
        refine lv_iinc (v := (nI (j + 1))) (lv' := [(2, .int (nI (j + 1))), (1, .int (sm (kptF d (r 0) Wd) (j + 1))), (0, .ref (M 0))]) hx hb dX4_keptForAll_20 hl (k := 1) rfl (nI_1 j) (by decide) rfl (fun ls hl => ?_)
        refine lv_goto (tgt := 4) hx hb dX4_keptForAll_23 (by decide) ?_
        exact ih (j + 1) (by omega) ls (lv_sub hl [0, 1, 2] rfl)
  refine lv_iconst (v := 0) hx hb dX4_keptForAll_0 (by decide) ?_
  refine lv_istore_n (lv' := [(1, .int 0), (0, .ref (M 0))]) hx hb dX4_keptForAll_1 rfl hl (by decide) rfl (fun ls hl => ?_)
  refine lv_iconst (v := 0) hx hb dX4_keptForAll_2 (by decide) ?_
  refine lv_istore_n (lv' := [(2, .int 0), (1, .int 0), (0, .ref (M 0))]) hx hb dX4_keptForAll_3 rfl hl (by decide) rfl (fun ls hl => ?_)
  exact key n 0 (by omega) ls (lv_sub hl [0, 1, 2] rfl)
