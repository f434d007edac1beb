set_option maxHeartbeats 4000000 in
set_option maxRecDepth 100000 in
/-- isAge -/
theorem met_X3_isAge (l : Launch) (dC : Nat → ClassId) (dI : Nat → Nat → Nat) (cI cW : ClassId) (a : Int32) : Met l yX3_isAge wsX3_isAge ({ frames := 0, cells := 0, slots := 0, locals := 0 }) (Pre0 dC dI cI cW [.int a] ([])) (vp_Si (fun z => z = (if 50 ≤ a ∧ a ≤ 99 then (1 : Int32) else 0))) 0 0 (fun _ => False) := by
  refine Met.ofW (cc := cX3_isAge) (maxL := 1) (ret := (some .boolean)) (by decide) rfl ?_
  intro p e s m args below meth c s₁ B hml hv
  obtain ⟨rfl, hP, hKK⟩ := hv
  have hx := B.exec
  have hb := B.bytes
  have hr := B.returns
  have hts := atoms_spec (ws := wsX3_isAge) B.pre
  have hown : s.vm.findClass RX3 = some m.cls := findClass_of_methodNamed B.named
  have hlocks := B.notSynchronized
  have hl := lv_entry ([.int a]) (n := 1) (Nat.le_of_ble_eq_true rfl)
  rw [lg_entry_eq]
  generalize (lg_sl ([.int a]) ++ List.replicate (1 - (lg_sl ([.int a])).length) Slot.unset).toArray = ls at hl ⊢
  have hl : lv_has ls 1 [(0, .int a)] := hl
  refine lv_iload_n hx hb dX3_isAge_0 rfl (lv_at hl 0 rfl) ?_
  refine lv_bipush (v := 50) hx hb dX3_isAge_1 (by decide) ?_
  refine lv_icmp_lt (tgt := 16) hx hb dX3_isAge_3 (by decide) (fun c_1 => ?_) (fun c_1 => ?_)
  · refine lv_iconst (v := 0) hx hb dX3_isAge_16 (by decide) ?_
    have hz : 0 = (if 50 ≤ a ∧ a ≤ 99 then (1 : Int32) else 0) := by simp_all [i_le, i_lt] <;> omega
    exact W.zret (v := 0) hx hb hr (by first | rfl | (split <;> rfl)) (fun t ht hW => ⟨_, rfl, hz, ht⟩) (fun q hq => absurd hq List.not_mem_nil) dX3_isAge_17
  · refine lv_iload_n hx hb dX3_isAge_6 rfl (lv_at hl 0 rfl) ?_
    refine lv_bipush (v := 99) hx hb dX3_isAge_7 (by decide) ?_
    refine lv_icmp_gt (tgt := 16) hx hb dX3_isAge_9 (by decide) (fun c_2 => ?_) (fun c_2 => ?_)
    · refine lv_iconst (v := 0) hx hb dX3_isAge_16 (by decide) ?_
      have hz : 0 = (if 50 ≤ a ∧ a ≤ 99 then (1 : Int32) else 0) := by simp_all [i_le, i_lt] <;> omega
      exact W.zret (v := 0) hx hb hr (by first | rfl | (split <;> rfl)) (fun t ht hW => ⟨_, rfl, hz, ht⟩) (fun q hq => absurd hq List.not_mem_nil) dX3_isAge_17
    · refine lv_iconst (v := 1) hx hb dX3_isAge_12 (by decide) ?_
      refine lv_goto (tgt := 17) hx hb dX3_isAge_13 (by decide) ?_
      have hz : 1 = (if 50 ≤ a ∧ a ≤ 99 then (1 : Int32) else 0) := by simp_all [i_le, i_lt] <;> omega
      exact W.zret (v := 1) hx hb hr (by first | rfl | (split <;> rfl)) (fun t ht hW => ⟨_, rfl, hz, ht⟩) (fun q hq => absurd hq List.not_mem_nil) dX3_isAge_17
set_option maxHeartbeats 4000000 in
set_option maxRecDepth 100000 in
theorem met_X1_deathsAt (l : Launch) (dC : Nat → ClassId) (dI : Nat → Nat → Nat) (cI cW : ClassId) (X : Nat → Nat) (d r : Nat → Int32) (a : Int32) : Met l yX1_deathsAt wsX1_deathsAt ({ frames := 1, cells := 0, slots := 0, locals := 20 }) (Pre0 dC dI cI cW [.ref (X 1), .int a] (tab cI X d r)) (vp_Si (fun z => z = dAt d a)) 0 0 (fun _ => False) := by
  refine Met.ofW (cc := cX1_deathsAt) (maxL := 2) (ret := (some .int)) (by decide) rfl ?_
  intro p e s m args below meth c s₁ B hml hv
  obtain ⟨rfl, hP, hKK⟩ := hv
  have hx := B.exec
  have hb := B.bytes
  have hr := B.returns
  have hts := atoms_spec (ws := wsX1_deathsAt) B.pre
  have hown : s.vm.findClass RX1 = some m.cls := findClass_of_methodNamed B.named
  have hlocks := B.notSynchronized
  have hl := lv_entry ([.ref (X 1), .int a]) (n := 2) (Nat.le_of_ble_eq_true rfl)
  rw [lg_entry_eq]
  generalize (lg_sl ([.ref (X 1), .int a]) ++ List.replicate (2 - (lg_sl ([.ref (X 1), .int a])).length) Slot.unset).toArray = ls at hl ⊢
  have hl : lv_has ls 2 [(0, .ref (X 1)), (1, .int a)] := hl
  refine lv_iload_n hx hb dX1_deathsAt_0 rfl (lv_at hl 1 rfl) ?_
  refine rd_i (runSN0 (As := [.int a]) (rest := []) (host := RX3) ⟨hx, hb, hml, hown, hts⟩ (met_X3_isAge l dC dI cI cW a) ⟨va_cnB 1 hts gX1_deathsAt_X3_isAge_n18 rfl rfl rfl hKK.2.1 (hts (.initialized RX3) (by decide +kernel)) (by decide +kernel) ⟨Nat.le_of_ble_eq_true rfl, Nat.le_of_ble_eq_true rfl⟩, hts (.static yX3_isAge) (by decide +kernel), trivial⟩ hKK nilP rfl hl.1 (Nat.le_of_ble_eq_true rfl) rfl dX1_deathsAt_1 ⟨Nat.zero_le _, Nat.zero_le _⟩) (fun r_1 hr_1 => ?_)
  subst hr_1
  refine lv_if_eq (tgt := 19) hx hb dX1_deathsAt_4 (by decide) (fun c_2 => ?_) (fun c_2 => ?_)
  · have bc_2 : ¬ (50 ≤ a ∧ a ≤ 99) := b0.mp c_2
    refine lv_sipush (v := 1000) hx hb dX1_deathsAt_19 (by decide) ?_
    have hz : 1000 = dAt d a := by unfold dAt; simp [bc_2]
    exact W.iret (v := 1000) hx hb hr (fun t ht hW => ⟨_, rfl, hz, ht⟩) (fun q hq => absurd hq List.not_mem_nil) dX1_deathsAt_22
  · have bc_2 : 50 ≤ a ∧ a ≤ 99 := b1.mp c_2
    have hin : vp_in (a - 50) 50 := in_age bc_2
    refine lv_aload_n hx hb dX1_deathsAt_7 rfl (lv_at hl 0 rfl) ?_
    refine va_get (D := (dC, dI)) (ci := 1) (v := .ref (X 2)) (C := RX1) (T := TX1) (N := 2) hx hb hts (by decide +kernel) hown hKK.1 hP 0 rfl rfl 0 (by decide) (hts (.fieldLink RX1 9 "WidowPennies$Tables" "deaths" "[I") (by decide +kernel)) (fun _ h9 => h9) rfl dX1_deathsAt_8 ?_
    refine lv_iload_n hx hb dX1_deathsAt_11 rfl (lv_at hl 1 rfl) ?_
    refine lv_bipush (v := 50) hx hb dX1_deathsAt_12 (by decide) ?_
    refine lv_isub hx hb dX1_deathsAt_14 ?_
    refine va_iald hx hb hKK.1 hP 1 0 rfl rfl hin dX1_deathsAt_15 ?_
    refine lv_goto (tgt := 22) hx hb dX1_deathsAt_16 (by decide) ?_
    have hz : d (a - 50).toNatClampNeg = dAt d a := by unfold dAt; simp [bc_2]
    exact W.iret (v := (d (a - 50).toNatClampNeg)) hx hb hr (fun t ht hW => ⟨_, rfl, hz, ht⟩) (fun q hq => absurd hq List.not_mem_nil) dX1_deathsAt_22
set_option maxHeartbeats 4000000 in
set_option maxRecDepth 100000 in
theorem met_X1_rate (l : Launch) (dC : Nat → ClassId) (dI : Nat → Nat → Nat) (cI cW : ClassId) (X : Nat → Nat) (d r : Nat → Int32) (k : Nat) (hk : k < 3) : Met l yX1_rate wsX1_rate ({ frames := 0, cells := 0, slots := 0, locals := 0 }) (Pre0 dC dI cI cW [.ref (X 1), .int (nI k)] (tab cI X d r)) (vp_Si (fun z => z = r k)) 0 0 (fun _ => False) := by
  refine Met.ofW (cc := cX1_rate) (maxL := 2) (ret := (some .int)) (by decide) rfl ?_
  intro p e s m args below meth c s₁ B hml hv
  obtain ⟨rfl, hP, hKK⟩ := hv
  have hx := B.exec
  have hb := B.bytes
  have hr := B.returns
  have hts := atoms_spec (ws := wsX1_rate) B.pre
  have hown : s.vm.findClass RX1 = some m.cls := findClass_of_methodNamed B.named
  have hlocks := B.notSynchronized
  have hl := lv_entry ([.ref (X 1), .int (nI k)]) (n := 2) (Nat.le_of_ble_eq_true rfl)
  rw [lg_entry_eq]
  generalize (lg_sl ([.ref (X 1), .int (nI k)]) ++ List.replicate (2 - (lg_sl ([.ref (X 1), .int (nI k)])).length) Slot.unset).toArray = ls at hl ⊢
  have hl : lv_has ls 2 [(0, .ref (X 1)), (1, .int (nI k))] := hl
  refine lv_iload_n hx hb dX1_rate_0 rfl (lv_at hl 1 rfl) ?_
  refine lv_if_lt (tgt := 18) hx hb dX1_rate_1 (by decide) (fun c_1 => ?_) (fun c_1 => ?_)
  · exact absurd c_1 (nI_pos (by omega))
  · refine lv_iload_n hx hb dX1_rate_4 rfl (lv_at hl 1 rfl) ?_
    refine lv_iconst (v := 3) hx hb dX1_rate_5 (by decide) ?_
    refine lv_icmp_ge (tgt := 18) hx hb dX1_rate_6 (by decide) (fun c_2 => ?_) (fun c_2 => ?_)
    · exact absurd c_2 (nI_ge (b := 3) hk (by omega))
    · refine lv_aload_n hx hb dX1_rate_9 rfl (lv_at hl 0 rfl) ?_
      refine va_get (D := (dC, dI)) (ci := 1) (v := .ref (X 3)) (C := RX1) (T := TX1) (N := 2) hx hb hts (by decide +kernel) hown hKK.1 hP 0 rfl rfl 1 (by decide) (hts (.fieldLink RX1 15 "WidowPennies$Tables" "rates" "[I") (by decide +kernel)) (fun _ h9 => h9) rfl dX1_rate_10 ?_
      refine lv_iload_n hx hb dX1_rate_13 rfl (lv_at hl 1 rfl) ?_
      refine va_iald hx hb hKK.1 hP 2 0 rfl rfl (vp_in_nI hk (by omega)) dX1_rate_14 ?_
      refine lv_goto (tgt := 19) hx hb dX1_rate_15 (by decide) ?_
      have hz : r (nI k).toNatClampNeg = r k := by rw [clamp_nI (by omega)]
      exact W.iret (v := (r (nI k).toNatClampNeg)) hx hb hr (fun t ht hW => ⟨_, rfl, hz, ht⟩) (fun q hq => absurd hq List.not_mem_nil) dX1_rate_19
set_option maxHeartbeats 4000000 in
set_option maxRecDepth 100000 in
/-- from the oldest age down -/
theorem met_X1_worthWith (l : Launch) (dC : Nat → ClassId) (dI : Nat → Nat → Nat) (cI cW : ClassId) (X : Nat → Nat) (d r : Nat → Int32) (ka kb : Nat) (i : Int32) (h1 : 50 ≤ ka) (h2 : ka ≤ 99) (h3 : kb ≤ 30) (hi : ¬ (1000 : Int32) + i = 0) (hi0 : ¬ i < 0) : Met l yX1_worthWith wsX1_worthWith ({ frames := 2, cells := 0, slots := 0, locals := 41 }) (Pre0 dC dI cI cW [.ref (X 1), .int (nI ka), .int (nI kb), .int i] (tab cI X d r)) (vp_Si (fun z => z = wN d i (100 - ka) kb)) 0 0 (fun _ => False) := by
  refine Met.ofW (cc := cX1_worthWith) (maxL := 8) (ret := (some .int)) (by decide) rfl ?_
  intro p e s m args below meth c s₁ B hml hv
  obtain ⟨rfl, hP, hKK⟩ := hv
  have hx := B.exec
  have hb := B.bytes
  have hr := B.returns
  have hts := atoms_spec (ws := wsX1_worthWith) B.pre
  have hown : s.vm.findClass RX1 = some m.cls := findClass_of_methodNamed B.named
  have hlocks := B.notSynchronized
  have hl := lv_entry ([.ref (X 1), .int (nI ka), .int (nI kb), .int i]) (n := 8) (Nat.le_of_ble_eq_true rfl)
  rw [lg_entry_eq]
  generalize (lg_sl ([.ref (X 1), .int (nI ka), .int (nI kb), .int i]) ++ List.replicate (8 - (lg_sl ([.ref (X 1), .int (nI ka), .int (nI kb), .int i])).length) Slot.unset).toArray = ls at hl ⊢
  have hl : lv_has ls 8 [(0, .ref (X 1)), (1, .int (nI ka)), (2, .int (nI kb)), (3, .int i)] := hl
  have key : ∀ (n j : Nat), j + n = 100 - ka → ∀ ls : Array Slot, lv_has ls 8 [(6, .int (nI (99 - j))), (5, .int (wN d i j (kb - (100 - ka - j)))), (4, .int (nI (ka + kb))), (0, .ref (X 1)), (1, .int (nI ka)), (2, .int (nI kb)), (3, .int i)] → W p l e (headSpec wsX1_worthWith ({ frames := 2, cells := 0, slots := 0, locals := 41 })).room s m (([.ref (X 1), .int (nI ka), .int (nI kb), .int i] : List Value).toArray) below meth c s.heap [] 0 0 (MQ below (vp_Si (fun z => z = wN d i (100 - ka) kb)) ([.ref (X 1), .int (nI ka), .int (nI kb), .int i] : List Value).toArray s 0 0 (fun _ => False)) (F0 m 25 ls []) := by
    intro n
    induction n with
    | zero =>
      intro j hj ls hl
      refine lv_iload hx hb dX1_worthWith_25 (lv_at hl 0 rfl) ?_
      refine lv_iload_n hx hb dX1_worthWith_27 rfl (lv_at hl 4 rfl) ?_
      refine lv_icmp_lt (tgt := 77) hx hb dX1_worthWith_28 (by decide) (fun c_1 => ?_) (fun c_1 => ?_)
      · refine lv_iload hx hb dX1_worthWith_77 (lv_at hl 1 rfl) ?_
        have hz : wN d i j (kb - (100 - ka - j)) = wN d i (100 - ka) kb := by rw [show j = 100 - ka by omega, show kb - (100 - ka - (100 - ka)) = kb by omega]
        exact W.iret (v := (wN d i j (kb - (100 - ka - j)))) hx hb hr (fun t ht hW => ⟨_, rfl, hz, ht⟩) (fun q hq => absurd hq List.not_mem_nil) dX1_worthWith_79
      · exact absurd ((lt_nI (by omega)).mpr (by omega)) c_1
    | succ n ih =>
      intro j hj ls hl
      have hj1 : j < 100 - ka := by omega
      refine lv_iload hx hb dX1_worthWith_25 (lv_at hl 0 rfl) ?_
      refine lv_iload_n hx hb dX1_worthWith_27 rfl (lv_at hl 4 rfl) ?_
      refine lv_icmp_lt (tgt := 77) hx hb dX1_worthWith_28 (by decide) (fun c_1 => ?_) (fun c_1 => ?_)
      · exact absurd c_1 (fun q => absurd ((lt_nI (by omega)).mp q) (by omega))
      · refine lv_iload hx hb dX1_worthWith_31 (lv_at hl 0 rfl) ?_
        refine lv_iload hx hb dX1_worthWith_33 (lv_at hl 2 rfl) ?_
        refine lv_icmp_lt (tgt := 44) hx hb dX1_worthWith_35 (by decide) (fun c_2 => ?_) (fun c_2 => ?_)
        · have hfree : 99 - j < ka + kb := (lt_nI (by omega)).mp c_2
          refine lv_iconst (v := 0) hx hb dX1_worthWith_44 (by decide) ?_
          refine lv_istore (lv' := [(7, .int 0), (6, .int (nI (99 - j))), (5, .int (wN d i j (kb - (100 - ka - j)))), (4, .int (nI (ka + kb))), (0, .ref (X 1)), (1, .int (nI ka)), (2, .int (nI kb)), (3, .int i)]) hx hb dX1_worthWith_45 hl (by decide) rfl (fun ls hl => ?_)
          refine lv_sipush (v := 1000) hx hb dX1_worthWith_47 (by decide) ?_
          refine lv_aload_n hx hb dX1_worthWith_50 rfl (lv_at hl 4 rfl) ?_
          refine lv_iload hx hb dX1_worthWith_51 (lv_at hl 1 rfl) ?_
          refine rd_i (runV0 (As := [.int (nI (99 - j))]) (rest := [.int 1000]) ⟨hx, hb, hml, hown, hts⟩ (met_X1_deathsAt l dC dI cI cW X d r (nI (99 - j))) (cwV 1 hts gX1_worthWith_X1_deathsAt rfl rfl rfl (by decide +kernel) ⟨Nat.le_of_ble_eq_true rfl, Nat.le_of_ble_eq_true rfl⟩) hKK hP 1 0 rfl rfl rfl hl.1 (Nat.le_of_ble_eq_true rfl) rfl dX1_worthWith_53 ⟨Nat.zero_le _, Nat.zero_le _⟩) (fun r_3 hr_3 => ?_)
          subst hr_3
          refine lv_isub hx hb dX1_worthWith_56 ?_
          refine lv_iload hx hb dX1_worthWith_57 (lv_at hl 0 rfl) ?_
          refine lv_iload hx hb dX1_worthWith_59 (lv_at hl 2 rfl) ?_
          refine lv_iadd hx hb dX1_worthWith_61 ?_
          refine lv_imul hx hb dX1_worthWith_62 ?_
          refine lv_sipush (v := 1000) hx hb dX1_worthWith_63 (by decide) ?_
          refine lv_iload_n hx hb dX1_worthWith_66 rfl (lv_at hl 7 rfl) ?_
          refine lv_iadd hx hb dX1_worthWith_67 ?_
          refine lv_idiv hx hb dX1_worthWith_68 hi ?_
          rw [show (((1000 - (dAt d (nI (99 - j)))) * (0 + (wN d i j (kb - (100 - ka - j))))) / (1000 + i) : Int32) = wN d i (j + 1) (kb - (100 - ka - (j + 1))) from wN_free d i h1 hj1 hfree]
          refine lv_istore (lv' := [(5, .int (wN d i (j + 1) (kb - (100 - ka - (j + 1))))), (7, .int 0), (6, .int (nI (99 - j))), (4, .int (nI (ka + kb))), (0, .ref (X 1)), (1, .int (nI ka)), (2, .int (nI kb)), (3, .int i)]) hx hb dX1_worthWith_69 hl (by decide) rfl (fun ls hl => ?_)
          refine lv_iinc (v := (nI (99 - (j + 1)))) (lv' := [(6, .int (nI (99 - (j + 1)))), (5, .int (wN d i (j + 1) (kb - (100 - ka - (j + 1))))), (7, .int 0), (4, .int (nI (ka + kb))), (0, .ref (X 1)), (1, .int (nI ka)), (2, .int (nI kb)), (3, .int i)]) hx hb dX1_worthWith_71 hl (k := 2) rfl (dec_nI (by omega)) (by decide) rfl (fun ls hl => ?_)
          refine lv_goto (tgt := 25) hx hb dX1_worthWith_74 (by decide) ?_
          exact ih (j + 1) (by omega) ls (lv_sub hl [0, 1, 3, 4, 5, 6, 7] rfl)
        · have hpaid : ka + kb ≤ 99 - j := Nat.not_lt.mp (fun q => c_2 ((lt_nI (by omega)).mpr q))
          refine lv_sipush (v := 1000) hx hb dX1_worthWith_38 (by decide) ?_
          refine lv_goto (tgt := 45) hx hb dX1_worthWith_41 (by decide) ?_
          refine lv_istore (lv' := [(7, .int 1000), (6, .int (nI (99 - j))), (5, .int (wN d i j (kb - (100 - ka - j)))), (4, .int (nI (ka + kb))), (0, .ref (X 1)), (1, .int (nI ka)), (2, .int (nI kb)), (3, .int i)]) hx hb dX1_worthWith_45 hl (by decide) rfl (fun ls hl => ?_)
          refine lv_sipush (v := 1000) hx hb dX1_worthWith_47 (by decide) ?_
          refine lv_aload_n hx hb dX1_worthWith_50 rfl (lv_at hl 4 rfl) ?_
          refine lv_iload hx hb dX1_worthWith_51 (lv_at hl 1 rfl) ?_
          refine rd_i (runV0 (As := [.int (nI (99 - j))]) (rest := [.int 1000]) ⟨hx, hb, hml, hown, hts⟩ (met_X1_deathsAt l dC dI cI cW X d r (nI (99 - j))) (cwV 1 hts gX1_worthWith_X1_deathsAt rfl rfl rfl (by decide +kernel) ⟨Nat.le_of_ble_eq_true rfl, Nat.le_of_ble_eq_true rfl⟩) hKK hP 1 0 rfl rfl rfl hl.1 (Nat.le_of_ble_eq_true rfl) rfl dX1_worthWith_53 ⟨Nat.zero_le _, Nat.zero_le _⟩) (fun r_5 hr_5 => ?_)
          subst hr_5
          refine lv_isub hx hb dX1_worthWith_56 ?_
          refine lv_iload hx hb dX1_worthWith_57 (lv_at hl 0 rfl) ?_
          refine lv_iload hx hb dX1_worthWith_59 (lv_at hl 2 rfl) ?_
          refine lv_iadd hx hb dX1_worthWith_61 ?_
          refine lv_imul hx hb dX1_worthWith_62 ?_
          refine lv_sipush (v := 1000) hx hb dX1_worthWith_63 (by decide) ?_
          refine lv_iload_n hx hb dX1_worthWith_66 rfl (lv_at hl 7 rfl) ?_
          refine lv_iadd hx hb dX1_worthWith_67 ?_
          refine lv_idiv hx hb dX1_worthWith_68 hi ?_
          rw [show (((1000 - (dAt d (nI (99 - j)))) * (1000 + (wN d i j (kb - (100 - ka - j))))) / (1000 + i) : Int32) = wN d i (j + 1) (kb - (100 - ka - (j + 1))) from wN_paid d i h1 hj1 hpaid]
          refine lv_istore (lv' := [(5, .int (wN d i (j + 1) (kb - (100 - ka - (j + 1))))), (7, .int 1000), (6, .int (nI (99 - j))), (4, .int (nI (ka + kb))), (0, .ref (X 1)), (1, .int (nI ka)), (2, .int (nI kb)), (3, .int i)]) hx hb dX1_worthWith_69 hl (by decide) rfl (fun ls hl => ?_)
          refine lv_iinc (v := (nI (99 - (j + 1)))) (lv' := [(6, .int (nI (99 - (j + 1)))), (5, .int (wN d i (j + 1) (kb - (100 - ka - (j + 1))))), (7, .int 1000), (4, .int (nI (ka + kb))), (0, .ref (X 1)), (1, .int (nI ka)), (2, .int (nI kb)), (3, .int i)]) hx hb dX1_worthWith_71 hl (k := 2) rfl (dec_nI (by omega)) (by decide) rfl (fun ls hl => ?_)
          refine lv_goto (tgt := 25) hx hb dX1_worthWith_74 (by decide) ?_
          exact ih (j + 1) (by omega) ls (lv_sub hl [0, 1, 3, 4, 5, 6, 7] rfl)
  refine lv_iload_n hx hb dX1_worthWith_0 rfl (lv_at hl 1 rfl) ?_
  refine lv_iload_n hx hb dX1_worthWith_1 rfl (lv_at hl 2 rfl) ?_
  refine lv_iadd hx hb dX1_worthWith_2 ?_
  rw [show ((nI ka) + (nI kb) : Int32) = nI (ka + kb) from nI_add _ _]
  refine lv_istore (lv' := [(4, .int (nI (ka + kb))), (0, .ref (X 1)), (1, .int (nI ka)), (2, .int (nI kb)), (3, .int i)]) hx hb dX1_worthWith_3 hl (by decide) rfl (fun ls hl => ?_)
  refine lv_iload hx hb dX1_worthWith_5 (lv_at hl 0 rfl) ?_
  refine lv_bipush (v := 99) hx hb dX1_worthWith_7 (by decide) ?_
  refine lv_icmp_gt (tgt := 16) hx hb dX1_worthWith_9 (by decide) (fun c_2 => ?_) (fun c_2 => ?_)
  · refine lv_iconst (v := 0) hx hb dX1_worthWith_16 (by decide) ?_
    have hz : 0 = wN d i (100 - ka) kb := (wN_late d i _ _ (by have := (lt_nI (a := 99) (by omega)).mp c_2; omega)).symm
    exact W.iret (v := 0) hx hb hr (fun t ht hW => ⟨_, rfl, hz, ht⟩) (fun q hq => absurd hq List.not_mem_nil) dX1_worthWith_17
  · refine lv_iload_n hx hb dX1_worthWith_12 rfl (lv_at hl 4 rfl) ?_
    refine lv_if_ge (tgt := 18) hx hb dX1_worthWith_13 (by decide) (fun c_3 => ?_) (fun c_3 => ?_)
    · refine lv_iconst (v := 0) hx hb dX1_worthWith_18 (by decide) ?_
      refine lv_istore (lv' := [(5, .int 0), (4, .int (nI (ka + kb))), (0, .ref (X 1)), (1, .int (nI ka)), (2, .int (nI kb)), (3, .int i)]) hx hb dX1_worthWith_19 hl (by decide) rfl (fun ls hl => ?_)
      refine lv_bipush (v := 99) hx hb dX1_worthWith_21 (by decide) ?_
      refine lv_istore (lv' := [(6, .int 99), (5, .int 0), (4, .int (nI (ka + kb))), (0, .ref (X 1)), (1, .int (nI ka)), (2, .int (nI kb)), (3, .int i)]) hx hb dX1_worthWith_23 hl (by decide) rfl (fun ls hl => ?_)
      exact key (100 - ka) 0 (by omega) ls (lv_sub hl [0, 1, 2, 3, 4, 5, 6] rfl)
    · exact absurd (Int32.not_lt.mp hi0) c_3
set_option maxHeartbeats 4000000 in
set_option maxRecDepth 100000 in
theorem met_X2_lives (l : Launch) (dC : Nat → ClassId) (dI : Nat → Nat → Nat) (cI cW : ClassId) (q : Nat) (f : Nat → Int32) : Met l yX2_lives wsX2_lives ({ frames := 0, cells := 0, slots := 0, locals := 0 }) (Pre0 dC dI cI cW [.ref q] ([(q, .inr (2, row f))])) (vp_Si (fun z => z = (if f 4 = 0 then (1 : Int32) else 0))) 0 0 (fun _ => False) := by
  refine Met.ofW (cc := cX2_lives) (maxL := 1) (ret := (some .boolean)) (by decide) rfl ?_
  intro p e s m args below meth c s₁ B hml hv
  obtain ⟨rfl, hP, hKK⟩ := hv
  have hx := B.exec
  have hb := B.bytes
  have hr := B.returns
  have hts := atoms_spec (ws := wsX2_lives) B.pre
  have hown : s.vm.findClass RX2 = some m.cls := findClass_of_methodNamed B.named
  have hlocks := B.notSynchronized
  have hl := lv_entry ([.ref q]) (n := 1) (Nat.le_of_ble_eq_true rfl)
  rw [lg_entry_eq]
  generalize (lg_sl ([.ref q]) ++ List.replicate (1 - (lg_sl ([.ref q])).length) Slot.unset).toArray = ls at hl ⊢
  have hl : lv_has ls 1 [(0, .ref q)] := hl
  refine lv_aload_n hx hb dX2_lives_0 rfl (lv_at hl 0 rfl) ?_
  refine va_get (D := (dC, dI)) (ci := 2) (v := .int (f 4)) (C := RX2) (T := TX2) (N := 7) hx hb hts (by decide +kernel) hown hKK.1 hP 0 rfl rfl 4 (by decide) (hts (.fieldLink RX2 9 "WidowPennies$Widow" "state" "I") (by decide +kernel)) (fun _ h9 => h9) rfl dX2_lives_1 ?_
  refine lv_if_ne (tgt := 11) hx hb dX2_lives_4 (by decide) (fun c_1 => ?_) (fun c_1 => ?_)
  · refine lv_iconst (v := 0) hx hb dX2_lives_11 (by decide) ?_
    have hz : 0 = (if f 4 = 0 then (1 : Int32) else 0) := by simp_all
    exact W.zret (v := 0) hx hb hr (by first | rfl | (split <;> rfl)) (fun t ht hW => ⟨_, rfl, hz, ht⟩) (fun q hq => absurd hq List.not_mem_nil) dX2_lives_12
  · refine lv_iconst (v := 1) hx hb dX2_lives_7 (by decide) ?_
    refine lv_goto (tgt := 12) hx hb dX2_lives_8 (by decide) ?_
    have hz : 1 = (if f 4 = 0 then (1 : Int32) else 0) := by simp_all
    exact W.zret (v := 1) hx hb hr (by first | rfl | (split <;> rfl)) (fun t ht hW => ⟨_, rfl, hz, ht⟩) (fun q hq => absurd hq List.not_mem_nil) dX2_lives_12
set_option maxHeartbeats 4000000 in
set_option maxRecDepth 100000 in
theorem met_X2_canGiveUp (l : Launch) (dC : Nat → ClassId) (dI : Nat → Nat → Nat) (cI cW : ClassId) (q : Nat) (f : Nat → Int32) : Met l yX2_canGiveUp wsX2_canGiveUp ({ frames := 1, cells := 0, slots := 0, locals := 20 }) (Pre0 dC dI cI cW [.ref q] ([(q, .inr (2, row f))])) (vp_Si (fun z => z = (if f 4 = 0 ∧ 2 ≤ f 3 then (1 : Int32) else 0))) 0 0 (fun _ => False) := by
  refine Met.ofW (cc := cX2_canGiveUp) (maxL := 1) (ret := (some .boolean)) (by decide) rfl ?_
  intro p e s m args below meth c s₁ B hml hv
  obtain ⟨rfl, hP, hKK⟩ := hv
  have hx := B.exec
  have hb := B.bytes
  have hr := B.returns
  have hts := atoms_spec (ws := wsX2_canGiveUp) B.pre
  have hown : s.vm.findClass RX2 = some m.cls := findClass_of_methodNamed B.named
  have hlocks := B.notSynchronized
  have hl := lv_entry ([.ref q]) (n := 1) (Nat.le_of_ble_eq_true rfl)
  rw [lg_entry_eq]
  generalize (lg_sl ([.ref q]) ++ List.replicate (1 - (lg_sl ([.ref q])).length) Slot.unset).toArray = ls at hl ⊢
  have hl : lv_has ls 1 [(0, .ref q)] := hl
  refine lv_aload_n hx hb dX2_canGiveUp_0 rfl (lv_at hl 0 rfl) ?_
  refine rd_i (runV0 (As := []) (rest := []) ⟨hx, hb, hml, hown, hts⟩ (met_X2_lives l dC dI cI cW q f) (cwV 0 hts gX2_canGiveUp_X2_lives rfl rfl rfl (by decide +kernel) ⟨Nat.le_of_ble_eq_true rfl, Nat.le_of_ble_eq_true rfl⟩) hKK hP 2 0 rfl rfl rfl hl.1 (Nat.le_of_ble_eq_true rfl) rfl dX2_canGiveUp_1 ⟨Nat.zero_le _, Nat.zero_le _⟩) (fun r_1 hr_1 => ?_)
  subst hr_1
  refine lv_if_eq (tgt := 19) hx hb dX2_canGiveUp_4 (by decide) (fun c_2 => ?_) (fun c_2 => ?_)
  · have bc_2 : ¬ (f 4 = 0) := b0.mp c_2
    refine lv_iconst (v := 0) hx hb dX2_canGiveUp_19 (by decide) ?_
    have hz : 0 = (if f 4 = 0 ∧ 2 ≤ f 3 then (1 : Int32) else 0) := by simp_all [i_le, i_lt] <;> omega
    exact W.zret (v := 0) hx hb hr (by first | rfl | (split <;> rfl)) (fun t ht hW => ⟨_, rfl, hz, ht⟩) (fun q hq => absurd hq List.not_mem_nil) dX2_canGiveUp_20
  · have bc_2 : f 4 = 0 := b1.mp c_2
    refine lv_aload_n hx hb dX2_canGiveUp_7 rfl (lv_at hl 0 rfl) ?_
    refine va_get (D := (dC, dI)) (ci := 2) (v := .int (f 3)) (C := RX2) (T := TX2) (N := 7) hx hb hts (by decide +kernel) hown hKK.1 hP 0 rfl rfl 3 (by decide) (hts (.fieldLink RX2 19 "WidowPennies$Widow" "held" "I") (by decide +kernel)) (fun _ h9 => h9) rfl dX2_canGiveUp_8 ?_
    refine lv_iconst (v := 2) hx hb dX2_canGiveUp_11 (by decide) ?_
    refine lv_icmp_lt (tgt := 19) hx hb dX2_canGiveUp_12 (by decide) (fun c_3 => ?_) (fun c_3 => ?_)
    · refine lv_iconst (v := 0) hx hb dX2_canGiveUp_19 (by decide) ?_
      have hz : 0 = (if f 4 = 0 ∧ 2 ≤ f 3 then (1 : Int32) else 0) := by simp_all [i_le, i_lt] <;> omega
      exact W.zret (v := 0) hx hb hr (by first | rfl | (split <;> rfl)) (fun t ht hW => ⟨_, rfl, hz, ht⟩) (fun q hq => absurd hq List.not_mem_nil) dX2_canGiveUp_20
    · refine lv_iconst (v := 1) hx hb dX2_canGiveUp_15 (by decide) ?_
      refine lv_goto (tgt := 20) hx hb dX2_canGiveUp_16 (by decide) ?_
      have hz : 1 = (if f 4 = 0 ∧ 2 ≤ f 3 then (1 : Int32) else 0) := by simp_all [i_le, i_lt] <;> omega
      exact W.zret (v := 1) hx hb hr (by first | rfl | (split <;> rfl)) (fun t ht hW => ⟨_, rfl, hz, ht⟩) (fun q hq => absurd hq List.not_mem_nil) dX2_canGiveUp_20
set_option maxHeartbeats 4000000 in
set_option maxRecDepth 100000 in
theorem met_X1_worthNow (l : Launch) (dC : Nat → ClassId) (dI : Nat → Nat → Nat) (cI cW : ClassId) (X : Nat → Nat) (d r : Nat → Int32) (ka kb : Nat) (h1 : 50 ≤ ka) (h2 : ka ≤ 99) (h3 : kb ≤ 30) (hi : ¬ (1000 : Int32) + r 0 = 0) (hi0 : ¬ r 0 < 0) : Met l yX1_worthNow wsX1_worthNow ({ frames := 3, cells := 0, slots := 0, locals := 68 }) (Pre0 dC dI cI cW [.ref (X 1), .int (nI ka), .int (nI kb)] (tab cI X d r)) (vp_Si (fun z => z = wN d (r 0) (100 - ka) kb)) 0 0 (fun _ => False) := by
  refine Met.ofW (cc := cX1_worthNow) (maxL := 3) (ret := (some .int)) (by decide) rfl ?_
  intro p e s m args below meth c s₁ B hml hv
  obtain ⟨rfl, hP, hKK⟩ := hv
  have hx := B.exec
  have hb := B.bytes
  have hr := B.returns
  have hts := atoms_spec (ws := wsX1_worthNow) B.pre
  have hown : s.vm.findClass RX1 = some m.cls := findClass_of_methodNamed B.named
  have hlocks := B.notSynchronized
  have hl := lv_entry ([.ref (X 1), .int (nI ka), .int (nI kb)]) (n := 3) (Nat.le_of_ble_eq_true rfl)
  rw [lg_entry_eq]
  generalize (lg_sl ([.ref (X 1), .int (nI ka), .int (nI kb)]) ++ List.replicate (3 - (lg_sl ([.ref (X 1), .int (nI ka), .int (nI kb)])).length) Slot.unset).toArray = ls at hl ⊢
  have hl : lv_has ls 3 [(0, .ref (X 1)), (1, .int (nI ka)), (2, .int (nI kb))] := hl
  refine lv_aload_n hx hb dX1_worthNow_0 rfl (lv_at hl 0 rfl) ?_
  refine lv_iload_n hx hb dX1_worthNow_1 rfl (lv_at hl 1 rfl) ?_
  refine lv_iload_n hx hb dX1_worthNow_2 rfl (lv_at hl 2 rfl) ?_
  refine lv_aload_n hx hb dX1_worthNow_3 rfl (lv_at hl 0 rfl) ?_
  refine va_get (D := (dC, dI)) (ci := 1) (v := .ref (X 3)) (C := RX1) (T := TX1) (N := 2) hx hb hts (by decide +kernel) hown hKK.1 hP 0 rfl rfl 1 (by decide) (hts (.fieldLink RX1 15 "WidowPennies$Tables" "rates" "[I") (by decide +kernel)) (fun _ h9 => h9) rfl dX1_worthNow_4 ?_
  refine lv_iconst (v := 0) hx hb dX1_worthNow_7 (by decide) ?_
  refine va_iald hx hb hKK.1 hP 2 0 rfl rfl (vp_in_nI (n := 0) (by omega) (by omega)) dX1_worthNow_8 ?_
  rw [show r (0 : Int32).toNatClampNeg = r 0 from rfl]
  refine rd_i (runV0 (As := [.int (nI ka), .int (nI kb), .int (r 0)]) (rest := []) ⟨hx, hb, hml, hown, hts⟩ (met_X1_worthWith l dC dI cI cW X d r ka kb (r 0) h1 h2 h3 hi hi0) (cwV 3 hts gX1_worthNow_X1_worthWith rfl rfl rfl (by decide +kernel) ⟨Nat.le_of_ble_eq_true rfl, Nat.le_of_ble_eq_true rfl⟩) hKK hP 1 0 rfl rfl rfl hl.1 (Nat.le_of_ble_eq_true rfl) rfl dX1_worthNow_9 ⟨Nat.zero_le _, Nat.zero_le _⟩) (fun r_1 hr_1 => ?_)
  subst hr_1
  have hz : wN d (r 0) (100 - ka) kb = wN d (r 0) (100 - ka) kb := rfl
  exact W.iret (v := (wN d (r 0) (100 - ka) kb)) hx hb hr (fun t ht hW => ⟨_, rfl, hz, ht⟩) (fun q hq => absurd hq List.not_mem_nil) dX1_worthNow_12
set_option maxHeartbeats 4000000 in
set_option maxRecDepth 100000 in
theorem met_X1_priceOf (l : Launch) (dC : Nat → ClassId) (dI : Nat → Nat → Nat) (cI cW : ClassId) (X : Nat → Nat) (d r : Nat → Int32) (x w : Int32) : Met l yX1_priceOf wsX1_priceOf ({ frames := 0, cells := 0, slots := 0, locals := 0 }) (Pre0 dC dI cI cW [.ref (X 1), .int x, .int w] (tab cI X d r)) (vp_Si (fun z => z = priceS (r 1) x w)) 0 0 (fun _ => False) := by
  refine Met.ofW (cc := cX1_priceOf) (maxL := 5) (ret := (some .int)) (by decide) rfl ?_
  intro p e s m args below meth c s₁ B hml hv
  obtain ⟨rfl, hP, hKK⟩ := hv
  have hx := B.exec
  have hb := B.bytes
  have hr := B.returns
  have hts := atoms_spec (ws := wsX1_priceOf) B.pre
  have hown : s.vm.findClass RX1 = some m.cls := findClass_of_methodNamed B.named
  have hlocks := B.notSynchronized
  have hl := lv_entry ([.ref (X 1), .int x, .int w]) (n := 5) (Nat.le_of_ble_eq_true rfl)
  rw [lg_entry_eq]
  generalize (lg_sl ([.ref (X 1), .int x, .int w]) ++ List.replicate (5 - (lg_sl ([.ref (X 1), .int x, .int w])).length) Slot.unset).toArray = ls at hl ⊢
  have hl : lv_has ls 5 [(0, .ref (X 1)), (1, .int x), (2, .int w)] := hl
  refine lv_iload_n hx hb dX1_priceOf_0 rfl (lv_at hl 2 rfl) ?_
  refine lv_if_ne (tgt := 6) hx hb dX1_priceOf_1 (by decide) (fun c_1 => ?_) (fun c_1 => ?_)
  · refine lv_iload_n hx hb dX1_priceOf_6 rfl (lv_at hl 1 rfl) ?_
    refine lv_iload_n hx hb dX1_priceOf_7 rfl (lv_at hl 2 rfl) ?_
    refine lv_imul hx hb dX1_priceOf_8 ?_
    refine lv_sipush (v := 1000) hx hb dX1_priceOf_9 (by decide) ?_
    refine lv_idiv hx hb dX1_priceOf_12 (by decide) ?_
    refine lv_istore_n (lv' := [(3, .int ((x * w) / 1000)), (0, .ref (X 1)), (1, .int x), (2, .int w)]) hx hb dX1_priceOf_13 rfl hl (by decide) rfl (fun ls hl => ?_)
    refine lv_iload_n hx hb dX1_priceOf_14 rfl (lv_at hl 0 rfl) ?_
    refine lv_iload_n hx hb dX1_priceOf_15 rfl (lv_at hl 0 rfl) ?_
    refine lv_aload_n hx hb dX1_priceOf_16 rfl (lv_at hl 1 rfl) ?_
    refine va_get (D := (dC, dI)) (ci := 1) (v := .ref (X 3)) (C := RX1) (T := TX1) (N := 2) hx hb hts (by decide +kernel) hown hKK.1 hP 0 rfl rfl 1 (by decide) (hts (.fieldLink RX1 15 "WidowPennies$Tables" "rates" "[I") (by decide +kernel)) (fun _ h9 => h9) rfl dX1_priceOf_17 ?_
    refine lv_iconst (v := 1) hx hb dX1_priceOf_20 (by decide) ?_
    refine va_iald hx hb hKK.1 hP 2 0 rfl rfl (vp_in_nI (n := 1) (by omega) (by omega)) dX1_priceOf_21 ?_
    rw [show r (1 : Int32).toNatClampNeg = r 1 from rfl]
    refine lv_imul hx hb dX1_priceOf_22 ?_
    refine lv_bipush (v := 100) hx hb dX1_priceOf_23 (by decide) ?_
    refine lv_idiv hx hb dX1_priceOf_25 (by decide) ?_
    refine lv_iadd hx hb dX1_priceOf_26 ?_
    refine lv_istore (lv' := [(4, .int (((x * w) / 1000) + ((((x * w) / 1000) * (r 1)) / 100))), (3, .int ((x * w) / 1000)), (0, .ref (X 1)), (1, .int x), (2, .int w)]) hx hb dX1_priceOf_27 hl (by decide) rfl (fun ls hl => ?_)
    refine lv_iload hx hb dX1_priceOf_29 (lv_at hl 0 rfl) ?_
    refine lv_iconst (v := 1) hx hb dX1_priceOf_31 (by decide) ?_
    refine lv_icmp_ge (tgt := 39) hx hb dX1_priceOf_32 (by decide) (fun c_2 => ?_) (fun c_2 => ?_)
    · refine lv_iload hx hb dX1_priceOf_39 (lv_at hl 0 rfl) ?_
      have hz : ((x * w) / 1000) + ((((x * w) / 1000) * (r 1)) / 100) = priceS (r 1) x w := by unfold priceS; rw [if_neg c_1, if_neg (Int32.not_lt.mpr c_2)]
      exact W.iret (v := (((x * w) / 1000) + ((((x * w) / 1000) * (r 1)) / 100))) hx hb hr (fun t ht hW => ⟨_, rfl, hz, ht⟩) (fun q hq => absurd hq List.not_mem_nil) dX1_priceOf_41
    · refine lv_iconst (v := 1) hx hb dX1_priceOf_35 (by decide) ?_
      refine lv_goto (tgt := 41) hx hb dX1_priceOf_36 (by decide) ?_
      have hz : 1 = priceS (r 1) x w := by unfold priceS; rw [if_neg c_1, if_pos (Int32.not_le.mp c_2)]
      exact W.iret (v := 1) hx hb hr (fun t ht hW => ⟨_, rfl, hz, ht⟩) (fun q hq => absurd hq List.not_mem_nil) dX1_priceOf_41
  · refine lv_iconst (v := 0) hx hb dX1_priceOf_4 (by decide) ?_
    have hz : 0 = priceS (r 1) x w := by unfold priceS; rw [if_pos c_1]
    exact W.iret (v := 0) hx hb hr (fun t ht hW => ⟨_, rfl, hz, ht⟩) (fun q hq => absurd hq List.not_mem_nil) dX1_priceOf_5
set_option maxHeartbeats 4000000 in
set_option maxRecDepth 100000 in
theorem met_X1_keptWith (l : Launch) (dC : Nat → ClassId) (dI : Nat → Nat → Nat) (cI cW : ClassId) (X : Nat → Nat) (d r : Nat → Int32) (q : Nat) (f : Nat → Int32) (hok : okW f) (i : Int32) (hi : ¬ (1000 : Int32) + i = 0) (hi0 : ¬ i < 0) : Met l yX1_keptWith wsX1_keptWith ({ frames := 3, cells := 0, slots := 0, locals := 68 }) (Pre0 dC dI cI cW [.ref (X 1), .ref q, .int i] (tab cI X d r ++ [(q, .inr (2, row f))])) (vp_Si (fun z => z = keptS d i f)) 0 0 (fun _ => False) := by
  refine Met.ofW (cc := cX1_keptWith) (maxL := 3) (ret := (some .int)) (by decide) rfl ?_
  intro p e s m args below meth c s₁ B hml hv
  obtain ⟨rfl, hP, hKK⟩ := hv
  have hx := B.exec
  have hb := B.bytes
  have hr := B.returns
  have hts := atoms_spec (ws := wsX1_keptWith) B.pre
  have hown : s.vm.findClass RX1 = some m.cls := findClass_of_methodNamed B.named
  have hlocks := B.notSynchronized
  have hl := lv_entry ([.ref (X 1), .ref q, .int i]) (n := 3) (Nat.le_of_ble_eq_true rfl)
  rw [lg_entry_eq]
  generalize (lg_sl ([.ref (X 1), .ref q, .int i]) ++ List.replicate (3 - (lg_sl ([.ref (X 1), .ref q, .int i])).length) Slot.unset).toArray = ls at hl ⊢
  have hl : lv_has ls 3 [(0, .ref (X 1)), (1, .ref q), (2, .int i)] := hl
  refine lv_aload_n hx hb dX1_keptWith_0 rfl (lv_at hl 1 rfl) ?_
  refine rd_i (runV0 (As := []) (rest := []) ⟨hx, hb, hml, hown, hts⟩ (met_X2_lives l dC dI cI cW q f) (cwV 0 hts gX1_keptWith_X2_lives rfl rfl rfl (by decide +kernel) ⟨Nat.le_of_ble_eq_true rfl, Nat.le_of_ble_eq_true rfl⟩) hKK (ws_right hP) 2 0 rfl rfl rfl hl.1 (Nat.le_of_ble_eq_true rfl) rfl dX1_keptWith_1 ⟨Nat.zero_le _, Nat.zero_le _⟩) (fun r_1 hr_1 => ?_)
  subst hr_1
  refine lv_if_eq (tgt := 32) hx hb dX1_keptWith_4 (by decide) (fun c_2 => ?_) (fun c_2 => ?_)
  · have bc_2 : ¬ (f 4 = 0) := b0.mp c_2
    refine lv_iconst (v := 0) hx hb dX1_keptWith_32 (by decide) ?_
    have hz : 0 = keptS d i f := by rw [keptS, if_neg bc_2]
    exact W.iret (v := 0) hx hb hr (fun t ht hW => ⟨_, rfl, hz, ht⟩) (fun q hq => absurd hq List.not_mem_nil) dX1_keptWith_33
  · have bc_2 : f 4 = 0 := b1.mp c_2
    obtain ⟨⟨ka, hka, hka1, hka2⟩, ⟨kb, hkb, hkb1⟩, -⟩ := hok bc_2
    refine lv_aload_n hx hb dX1_keptWith_7 rfl (lv_at hl 1 rfl) ?_
    refine va_get (D := (dC, dI)) (ci := 2) (v := .int (f 1)) (C := RX2) (T := TX2) (N := 7) hx hb hts (by decide +kernel) hown hKK.1 hP 3 rfl rfl 1 (by decide) (hts (.fieldLink RX1 44 "WidowPennies$Widow" "sum" "I") (by decide +kernel)) (fun _ h9 => h9) rfl dX1_keptWith_8 ?_
    refine lv_aload_n hx hb dX1_keptWith_11 rfl (lv_at hl 0 rfl) ?_
    refine lv_aload_n hx hb dX1_keptWith_12 rfl (lv_at hl 1 rfl) ?_
    refine va_get (D := (dC, dI)) (ci := 2) (v := .int (f 0)) (C := RX2) (T := TX2) (N := 7) hx hb hts (by decide +kernel) hown hKK.1 hP 3 rfl rfl 0 (by decide) (hts (.fieldLink RX1 48 "WidowPennies$Widow" "age" "I") (by decide +kernel)) (fun _ h9 => h9) rfl dX1_keptWith_13 ?_
    rw [show (f 0 : Int32) = nI ka from hka]
    refine lv_aload_n hx hb dX1_keptWith_16 rfl (lv_at hl 1 rfl) ?_
    refine va_get (D := (dC, dI)) (ci := 2) (v := .int (f 2)) (C := RX2) (T := TX2) (N := 7) hx hb hts (by decide +kernel) hown hKK.1 hP 3 rfl rfl 2 (by decide) (hts (.fieldLink RX1 51 "WidowPennies$Widow" "wait" "I") (by decide +kernel)) (fun _ h9 => h9) rfl dX1_keptWith_17 ?_
    rw [show (f 2 : Int32) = nI kb from hkb]
    refine lv_iload_n hx hb dX1_keptWith_20 rfl (lv_at hl 2 rfl) ?_
    refine rd_i (runV0 (As := [.int (nI ka), .int (nI kb), .int i]) (rest := [.int (f 1)]) ⟨hx, hb, hml, hown, hts⟩ (met_X1_worthWith l dC dI cI cW X d r ka kb i hka1 hka2 hkb1 hi hi0) (cwV 3 hts gX1_keptWith_X1_worthWith rfl rfl rfl (by decide +kernel) ⟨Nat.le_of_ble_eq_true rfl, Nat.le_of_ble_eq_true rfl⟩) hKK (ws_left hP) 1 0 rfl rfl rfl hl.1 (Nat.le_of_ble_eq_true rfl) rfl dX1_keptWith_21 ⟨Nat.zero_le _, Nat.zero_le _⟩) (fun r_5 hr_5 => ?_)
    subst hr_5
    refine lv_imul hx hb dX1_keptWith_24 ?_
    refine lv_sipush (v := 1000) hx hb dX1_keptWith_25 (by decide) ?_
    refine lv_idiv hx hb dX1_keptWith_28 (by decide) ?_
    refine lv_goto (tgt := 33) hx hb dX1_keptWith_29 (by decide) ?_
    have hz : ((f 1) * (wN d i (100 - ka) kb)) / 1000 = keptS d i f := by rw [keptS, if_pos bc_2, hka, hkb, clamp_nI (by omega), clamp_nI (by omega)]
    exact W.iret (v := (((f 1) * (wN d i (100 - ka) kb)) / 1000)) hx hb hr (fun t ht hW => ⟨_, rfl, hz, ht⟩) (fun q hq => absurd hq List.not_mem_nil) dX1_keptWith_33
set_option maxHeartbeats 4000000 in
set_option maxRecDepth 100000 in
theorem met_X1_keptNow (l : Launch) (dC : Nat → ClassId) (dI : Nat → Nat → Nat) (cI cW : ClassId) (X : Nat → Nat) (d r : Nat → Int32) (q : Nat) (f : Nat → Int32) (hok : okW f) (hi : ¬ (1000 : Int32) + r 0 = 0) (hi0 : ¬ r 0 < 0) : Met l yX1_keptNow wsX1_keptNow ({ frames := 4, cells := 0, slots := 0, locals := 90 }) (Pre0 dC dI cI cW [.ref (X 1), .ref q] (tab cI X d r ++ [(q, .inr (2, row f))])) (vp_Si (fun z => z = keptS d (r 0) f)) 0 0 (fun _ => False) := by
  refine Met.ofW (cc := cX1_keptNow) (maxL := 2) (ret := (some .int)) (by decide) rfl ?_
  intro p e s m args below meth c s₁ B hml hv
  obtain ⟨rfl, hP, hKK⟩ := hv
  have hx := B.exec
  have hb := B.bytes
  have hr := B.returns
  have hts := atoms_spec (ws := wsX1_keptNow) B.pre
  have hown : s.vm.findClass RX1 = some m.cls := findClass_of_methodNamed B.named
  have hlocks := B.notSynchronized
  have hl := lv_entry ([.ref (X 1), .ref q]) (n := 2) (Nat.le_of_ble_eq_true rfl)
  rw [lg_entry_eq]
  generalize (lg_sl ([.ref (X 1), .ref q]) ++ List.replicate (2 - (lg_sl ([.ref (X 1), .ref q])).length) Slot.unset).toArray = ls at hl ⊢
  have hl : lv_has ls 2 [(0, .ref (X 1)), (1, .ref q)] := hl
  refine lv_aload_n hx hb dX1_keptNow_0 rfl (lv_at hl 0 rfl) ?_
  refine lv_aload_n hx hb dX1_keptNow_1 rfl (lv_at hl 1 rfl) ?_
  refine lv_aload_n hx hb dX1_keptNow_2 rfl (lv_at hl 0 rfl) ?_
  refine va_get (D := (dC, dI)) (ci := 1) (v := .ref (X 3)) (C := RX1) (T := TX1) (N := 2) hx hb hts (by decide +kernel) hown hKK.1 hP 0 rfl rfl 1 (by decide) (hts (.fieldLink RX1 15 "WidowPennies$Tables" "rates" "[I") (by decide +kernel)) (fun _ h9 => h9) rfl dX1_keptNow_3 ?_
  refine lv_iconst (v := 0) hx hb dX1_keptNow_6 (by decide) ?_
  refine va_iald hx hb hKK.1 hP 2 0 rfl rfl (vp_in_nI (n := 0) (by omega) (by omega)) dX1_keptNow_7 ?_
  rw [show r (0 : Int32).toNatClampNeg = r 0 from rfl]
  refine rd_i (runV0 (As := [.ref q, .int (r 0)]) (rest := []) ⟨hx, hb, hml, hown, hts⟩ (met_X1_keptWith l dC dI cI cW X d r q f hok (r 0) hi hi0) (cwV 2 hts gX1_keptNow_X1_keptWith rfl rfl rfl (by decide +kernel) ⟨Nat.le_of_ble_eq_true rfl, Nat.le_of_ble_eq_true rfl⟩) hKK hP 1 0 rfl rfl rfl hl.1 (Nat.le_of_ble_eq_true rfl) rfl dX1_keptNow_8 ⟨Nat.zero_le _, Nat.zero_le _⟩) (fun r_1 hr_1 => ?_)
  subst hr_1
  have hz : keptS d (r 0) f = keptS d (r 0) f := rfl
  exact W.iret (v := (keptS d (r 0) f)) hx hb hr (fun t ht hW => ⟨_, rfl, hz, ht⟩) (fun q hq => absurd hq List.not_mem_nil) dX1_keptNow_11
set_option maxHeartbeats 4000000 in
set_option maxRecDepth 100000 in
theorem met_X1_givenBack (l : Launch) (dC : Nat → ClassId) (dI : Nat → Nat → Nat) (cI cW : ClassId) (X : Nat → Nat) (d r : Nat → Int32) (q : Nat) (f : Nat → Int32) (hok : okW f) (hi : ¬ (1000 : Int32) + r 0 = 0) (hi0 : ¬ r 0 < 0) : Met l yX1_givenBack wsX1_givenBack ({ frames := 5, cells := 0, slots := 0, locals := 111 }) (Pre0 dC dI cI cW [.ref (X 1), .ref q] (tab cI X d r ++ [(q, .inr (2, row f))])) (vp_Si (fun z => z = backS d r f)) 0 0 (fun _ => False) := by
  refine Met.ofW (cc := cX1_givenBack) (maxL := 3) (ret := (some .int)) (by decide) rfl ?_
  intro p e s m args below meth c s₁ B hml hv
  obtain ⟨rfl, hP, hKK⟩ := hv
  have hx := B.exec
  have hb := B.bytes
  have hr := B.returns
  have hts := atoms_spec (ws := wsX1_givenBack) B.pre
  have hown : s.vm.findClass RX1 = some m.cls := findClass_of_methodNamed B.named
  have hlocks := B.notSynchronized
  have hl := lv_entry ([.ref (X 1), .ref q]) (n := 3) (Nat.le_of_ble_eq_true rfl)
  rw [lg_entry_eq]
  generalize (lg_sl ([.ref (X 1), .ref q]) ++ List.replicate (3 - (lg_sl ([.ref (X 1), .ref q])).length) Slot.unset).toArray = ls at hl ⊢
  have hl : lv_has ls 3 [(0, .ref (X 1)), (1, .ref q)] := hl
  refine lv_aload_n hx hb dX1_givenBack_0 rfl (lv_at hl 1 rfl) ?_
  refine rd_i (runV0 (As := []) (rest := []) ⟨hx, hb, hml, hown, hts⟩ (met_X2_canGiveUp l dC dI cI cW q f) (cwV 0 hts gX1_givenBack_X2_canGiveUp rfl rfl rfl (by decide +kernel) ⟨Nat.le_of_ble_eq_true rfl, Nat.le_of_ble_eq_true rfl⟩) hKK (ws_right hP) 2 0 rfl rfl rfl hl.1 (Nat.le_of_ble_eq_true rfl) rfl dX1_givenBack_1 ⟨Nat.zero_le _, Nat.zero_le _⟩) (fun r_1 hr_1 => ?_)
  subst hr_1
  refine lv_if_ne (tgt := 9) hx hb dX1_givenBack_4 (by decide) (fun c_2 => ?_) (fun c_2 => ?_)
  · have bc_2 : f 4 = 0 ∧ 2 ≤ f 3 := b1.mp c_2
    refine lv_aload_n hx hb dX1_givenBack_9 rfl (lv_at hl 0 rfl) ?_
    refine lv_aload_n hx hb dX1_givenBack_10 rfl (lv_at hl 1 rfl) ?_
    refine rd_i (runV0 (As := [.ref q]) (rest := []) ⟨hx, hb, hml, hown, hts⟩ (met_X1_keptNow l dC dI cI cW X d r q f hok hi hi0) (cwV 1 hts gX1_givenBack_X1_keptNow rfl rfl rfl (by decide +kernel) ⟨Nat.le_of_ble_eq_true rfl, Nat.le_of_ble_eq_true rfl⟩) hKK hP 1 0 rfl rfl rfl hl.1 (Nat.le_of_ble_eq_true rfl) rfl dX1_givenBack_11 ⟨Nat.zero_le _, Nat.zero_le _⟩) (fun r_3 hr_3 => ?_)
    subst hr_3
    refine lv_istore_n (lv' := [(2, .int (keptS d (r 0) f)), (0, .ref (X 1)), (1, .ref q)]) hx hb dX1_givenBack_14 rfl hl (by decide) rfl (fun ls hl => ?_)
    refine lv_iload_n hx hb dX1_givenBack_15 rfl (lv_at hl 0 rfl) ?_
    refine lv_iload_n hx hb dX1_givenBack_16 rfl (lv_at hl 0 rfl) ?_
    refine lv_aload_n hx hb dX1_givenBack_17 rfl (lv_at hl 1 rfl) ?_
    refine va_get (D := (dC, dI)) (ci := 1) (v := .ref (X 3)) (C := RX1) (T := TX1) (N := 2) hx hb hts (by decide +kernel) hown hKK.1 hP 0 rfl rfl 1 (by decide) (hts (.fieldLink RX1 15 "WidowPennies$Tables" "rates" "[I") (by decide +kernel)) (fun _ h9 => h9) rfl dX1_givenBack_18 ?_
    refine lv_iconst (v := 2) hx hb dX1_givenBack_21 (by decide) ?_
    refine va_iald hx hb hKK.1 hP 2 0 rfl rfl (vp_in_nI (n := 2) (by omega) (by omega)) dX1_givenBack_22 ?_
    rw [show r (2 : Int32).toNatClampNeg = r 2 from rfl]
    refine lv_imul hx hb dX1_givenBack_23 ?_
    refine lv_bipush (v := 100) hx hb dX1_givenBack_24 (by decide) ?_
    refine lv_idiv hx hb dX1_givenBack_26 (by decide) ?_
    refine lv_isub hx hb dX1_givenBack_27 ?_
    have hz : (keptS d (r 0) f) - (((keptS d (r 0) f) * (r 2)) / 100) = backS d r f := by rw [backS, if_pos bc_2]
    exact W.iret (v := ((keptS d (r 0) f) - (((keptS d (r 0) f) * (r 2)) / 100))) hx hb hr (fun t ht hW => ⟨_, rfl, hz, ht⟩) (fun q hq => absurd hq List.not_mem_nil) dX1_givenBack_28
  · have bc_2 : ¬ (f 4 = 0 ∧ 2 ≤ f 3) := b0.mp c_2
    refine lv_iconst (v := 0) hx hb dX1_givenBack_7 (by decide) ?_
    have hz : 0 = backS d r f := by rw [backS, if_neg bc_2]
    exact W.iret (v := 0) hx hb hr (fun t ht hW => ⟨_, rfl, hz, ht⟩) (fun q hq => absurd hq List.not_mem_nil) dX1_givenBack_8
set_option maxHeartbeats 4000000 in
set_option maxRecDepth 100000 in
theorem met_X1_tellOf (l : Launch) (dC : Nat → ClassId) (dI : Nat → Nat → Nat) (cI cW : ClassId) (X : Nat → Nat) (d r : Nat → Int32) (q : Nat) (f : Nat → Int32) (hok : okW f) (hi : ¬ (1000 : Int32) + r 0 = 0) (hi0 : ¬ r 0 < 0) (k : Nat) (hk : k < 9) : Met l yX1_tellOf wsX1_tellOf ({ frames := 6, cells := 0, slots := 0, locals := 133 }) (Pre0 dC dI cI cW [.ref (X 1), .ref q, .int (nI k)] (tab cI X d r ++ [(q, .inr (2, row f))])) (vp_Si (fun z => z = tellS d r f k)) 0 0 (fun _ => False) := by
  refine Met.ofW (cc := cX1_tellOf) (maxL := 3) (ret := (some .int)) (by decide) rfl ?_
  intro p e s m args below meth c s₁ B hml hv
  obtain ⟨rfl, hP, hKK⟩ := hv
  have hx := B.exec
  have hb := B.bytes
  have hr := B.returns
  have hts := atoms_spec (ws := wsX1_tellOf) B.pre
  have hown : s.vm.findClass RX1 = some m.cls := findClass_of_methodNamed B.named
  have hlocks := B.notSynchronized
  have hl := lv_entry ([.ref (X 1), .ref q, .int (nI k)]) (n := 3) (Nat.le_of_ble_eq_true rfl)
  rw [lg_entry_eq]
  generalize (lg_sl ([.ref (X 1), .ref q, .int (nI k)]) ++ List.replicate (3 - (lg_sl ([.ref (X 1), .ref q, .int (nI k)])).length) Slot.unset).toArray = ls at hl ⊢
  have hl : lv_has ls 3 [(0, .ref (X 1)), (1, .ref q), (2, .int (nI k))] := hl
  rcases (show k = 0 ∨ k = 1 ∨ k = 2 ∨ k = 3 ∨ k = 4 ∨ k = 5 ∨ k = 6 ∨ k = 7 ∨ k = 8 by omega) with rfl | rfl | rfl | rfl | rfl | rfl | rfl | rfl | rfl
  · refine lv_iload_n hx hb dX1_tellOf_0 rfl (lv_at hl 2 rfl) ?_
    refine lv_tableIn (tgt := 48) (off := 47) hx hb dX1_tellOf_1 (by decide) (by decide) rfl (by decide) ?_
    refine lv_aload_n hx hb dX1_tellOf_48 rfl (lv_at hl 1 rfl) ?_
    refine va_get (D := (dC, dI)) (ci := 2) (v := .int (f 0)) (C := RX2) (T := TX2) (N := 7) hx hb hts (by decide +kernel) hown hKK.1 hP 3 rfl rfl 0 (by decide) (hts (.fieldLink RX1 48 "WidowPennies$Widow" "age" "I") (by decide +kernel)) (fun _ h9 => h9) rfl dX1_tellOf_49 ?_
    have hz : f 0 = tellS d r f 0 := rfl
    exact W.iret (v := (f 0)) hx hb hr (fun t ht hW => ⟨_, rfl, hz, ht⟩) (fun q hq => absurd hq List.not_mem_nil) dX1_tellOf_52
  · refine lv_iload_n hx hb dX1_tellOf_0 rfl (lv_at hl 2 rfl) ?_
    refine lv_tableIn (tgt := 53) (off := 52) hx hb dX1_tellOf_1 (by decide) (by decide) rfl (by decide) ?_
    refine lv_aload_n hx hb dX1_tellOf_53 rfl (lv_at hl 1 rfl) ?_
    refine va_get (D := (dC, dI)) (ci := 2) (v := .int (f 1)) (C := RX2) (T := TX2) (N := 7) hx hb hts (by decide +kernel) hown hKK.1 hP 3 rfl rfl 1 (by decide) (hts (.fieldLink RX1 44 "WidowPennies$Widow" "sum" "I") (by decide +kernel)) (fun _ h9 => h9) rfl dX1_tellOf_54 ?_
    have hz : f 1 = tellS d r f 1 := rfl
    exact W.iret (v := (f 1)) hx hb hr (fun t ht hW => ⟨_, rfl, hz, ht⟩) (fun q hq => absurd hq List.not_mem_nil) dX1_tellOf_57
  · refine lv_iload_n hx hb dX1_tellOf_0 rfl (lv_at hl 2 rfl) ?_
    refine lv_tableIn (tgt := 58) (off := 57) hx hb dX1_tellOf_1 (by decide) (by decide) rfl (by decide) ?_
    refine lv_aload_n hx hb dX1_tellOf_58 rfl (lv_at hl 1 rfl) ?_
    refine va_get (D := (dC, dI)) (ci := 2) (v := .int (f 2)) (C := RX2) (T := TX2) (N := 7) hx hb hts (by decide +kernel) hown hKK.1 hP 3 rfl rfl 2 (by decide) (hts (.fieldLink RX1 51 "WidowPennies$Widow" "wait" "I") (by decide +kernel)) (fun _ h9 => h9) rfl dX1_tellOf_59 ?_
    have hz : f 2 = tellS d r f 2 := rfl
    exact W.iret (v := (f 2)) hx hb hr (fun t ht hW => ⟨_, rfl, hz, ht⟩) (fun q hq => absurd hq List.not_mem_nil) dX1_tellOf_62
  · refine lv_iload_n hx hb dX1_tellOf_0 rfl (lv_at hl 2 rfl) ?_
    refine lv_tableIn (tgt := 63) (off := 62) hx hb dX1_tellOf_1 (by decide) (by decide) rfl (by decide) ?_
    refine lv_aload_n hx hb dX1_tellOf_63 rfl (lv_at hl 1 rfl) ?_
    refine va_get (D := (dC, dI)) (ci := 2) (v := .int (f 3)) (C := RX2) (T := TX2) (N := 7) hx hb hts (by decide +kernel) hown hKK.1 hP 3 rfl rfl 3 (by decide) (hts (.fieldLink RX1 61 "WidowPennies$Widow" "held" "I") (by decide +kernel)) (fun _ h9 => h9) rfl dX1_tellOf_64 ?_
    have hz : f 3 = tellS d r f 3 := rfl
    exact W.iret (v := (f 3)) hx hb hr (fun t ht hW => ⟨_, rfl, hz, ht⟩) (fun q hq => absurd hq List.not_mem_nil) dX1_tellOf_67
  · refine lv_iload_n hx hb dX1_tellOf_0 rfl (lv_at hl 2 rfl) ?_
    refine lv_tableIn (tgt := 68) (off := 67) hx hb dX1_tellOf_1 (by decide) (by decide) rfl (by decide) ?_
    refine lv_aload_n hx hb dX1_tellOf_68 rfl (lv_at hl 1 rfl) ?_
    refine va_get (D := (dC, dI)) (ci := 2) (v := .int (f 4)) (C := RX2) (T := TX2) (N := 7) hx hb hts (by decide +kernel) hown hKK.1 hP 3 rfl rfl 4 (by decide) (hts (.fieldLink RX1 64 "WidowPennies$Widow" "state" "I") (by decide +kernel)) (fun _ h9 => h9) rfl dX1_tellOf_69 ?_
    have hz : f 4 = tellS d r f 4 := rfl
    exact W.iret (v := (f 4)) hx hb hr (fun t ht hW => ⟨_, rfl, hz, ht⟩) (fun q hq => absurd hq List.not_mem_nil) dX1_tellOf_72
  · refine lv_iload_n hx hb dX1_tellOf_0 rfl (lv_at hl 2 rfl) ?_
    refine lv_tableIn (tgt := 73) (off := 72) hx hb dX1_tellOf_1 (by decide) (by decide) rfl (by decide) ?_
    refine lv_aload_n hx hb dX1_tellOf_73 rfl (lv_at hl 0 rfl) ?_
    refine lv_aload_n hx hb dX1_tellOf_74 rfl (lv_at hl 1 rfl) ?_
    refine rd_i (runV0 (As := [.ref q]) (rest := []) ⟨hx, hb, hml, hown, hts⟩ (met_X1_keptNow l dC dI cI cW X d r q f hok hi hi0) (cwV 1 hts gX1_tellOf_X1_keptNow rfl rfl rfl (by decide +kernel) ⟨Nat.le_of_ble_eq_true rfl, Nat.le_of_ble_eq_true rfl⟩) hKK hP 1 0 rfl rfl rfl hl.1 (Nat.le_of_ble_eq_true rfl) rfl dX1_tellOf_75 ⟨Nat.zero_le _, Nat.zero_le _⟩) (fun r_1 hr_1 => ?_)
    subst hr_1
    have hz : keptS d (r 0) f = tellS d r f 5 := rfl
    exact W.iret (v := (keptS d (r 0) f)) hx hb hr (fun t ht hW => ⟨_, rfl, hz, ht⟩) (fun q hq => absurd hq List.not_mem_nil) dX1_tellOf_78
  · refine lv_iload_n hx hb dX1_tellOf_0 rfl (lv_at hl 2 rfl) ?_
    refine lv_tableIn (tgt := 79) (off := 78) hx hb dX1_tellOf_1 (by decide) (by decide) rfl (by decide) ?_
    refine lv_aload_n hx hb dX1_tellOf_79 rfl (lv_at hl 1 rfl) ?_
    refine va_get (D := (dC, dI)) (ci := 2) (v := .int (f 5)) (C := RX2) (T := TX2) (N := 7) hx hb hts (by decide +kernel) hown hKK.1 hP 3 rfl rfl 5 (by decide) (hts (.fieldLink RX1 67 "WidowPennies$Widow" "got" "I") (by decide +kernel)) (fun _ h9 => h9) rfl dX1_tellOf_80 ?_
    have hz : f 5 = tellS d r f 6 := rfl
    exact W.iret (v := (f 5)) hx hb hr (fun t ht hW => ⟨_, rfl, hz, ht⟩) (fun q hq => absurd hq List.not_mem_nil) dX1_tellOf_83
  · refine lv_iload_n hx hb dX1_tellOf_0 rfl (lv_at hl 2 rfl) ?_
    refine lv_tableIn (tgt := 84) (off := 83) hx hb dX1_tellOf_1 (by decide) (by decide) rfl (by decide) ?_
    refine lv_aload_n hx hb dX1_tellOf_84 rfl (lv_at hl 1 rfl) ?_
    refine va_get (D := (dC, dI)) (ci := 2) (v := .int (f 6)) (C := RX2) (T := TX2) (N := 7) hx hb hts (by decide +kernel) hown hKK.1 hP 3 rfl rfl 6 (by decide) (hts (.fieldLink RX1 70 "WidowPennies$Widow" "cost" "I") (by decide +kernel)) (fun _ h9 => h9) rfl dX1_tellOf_85 ?_
    have hz : f 6 = tellS d r f 7 := rfl
    exact W.iret (v := (f 6)) hx hb hr (fun t ht hW => ⟨_, rfl, hz, ht⟩) (fun q hq => absurd hq List.not_mem_nil) dX1_tellOf_88
  · refine lv_iload_n hx hb dX1_tellOf_0 rfl (lv_at hl 2 rfl) ?_
    refine lv_tableOut (tgt := 89) hx hb dX1_tellOf_1 (by decide) (by decide) ?_
    refine lv_aload_n hx hb dX1_tellOf_89 rfl (lv_at hl 0 rfl) ?_
    refine lv_aload_n hx hb dX1_tellOf_90 rfl (lv_at hl 1 rfl) ?_
    refine rd_i (runV0 (As := [.ref q]) (rest := []) ⟨hx, hb, hml, hown, hts⟩ (met_X1_givenBack l dC dI cI cW X d r q f hok hi hi0) (cwV 1 hts gX1_tellOf_X1_givenBack rfl rfl rfl (by decide +kernel) ⟨Nat.le_of_ble_eq_true rfl, Nat.le_of_ble_eq_true rfl⟩) hKK hP 1 0 rfl rfl rfl hl.1 (Nat.le_of_ble_eq_true rfl) rfl dX1_tellOf_91 ⟨Nat.zero_le _, Nat.zero_le _⟩) (fun r_1 hr_1 => ?_)
    subst hr_1
    have hz : backS d r f = tellS d r f 8 := rfl
    exact W.iret (v := (backS d r f)) hx hb hr (fun t ht hW => ⟨_, rfl, hz, ht⟩) (fun q hq => absurd hq List.not_mem_nil) dX1_tellOf_94
set_option maxHeartbeats 4000000 in
set_option maxRecDepth 100000 in
theorem met_X1_changeDeaths (l : Launch) (dC : Nat → ClassId) (dI : Nat → Nat → Nat) (cI cW : ClassId) (X : Nat → Nat) (d r : Nat → Int32) (R : va_W) (ka : Nat) (h1 : 50 ≤ ka) (h2 : ka ≤ 99) (x : Int32) (sz : Nat) : Met l yX1_changeDeaths wsX1_changeDeaths ({ frames := 1, cells := 0, slots := 0, locals := 20 }) (Pre1 dC dI cI cW [.ref (X 1), .int (nI ka), .int x] (tab cI X d r ++ R) sz) (Qv1 dC dI (tab cI X d r ++ R) (tab cI X (upd d (ka - 50) x) r ++ R) sz) 0 0 (va_A (tab cI X d r ++ R) sz) := by
  refine Met.ofW (cc := cX1_changeDeaths) (maxL := 3) (ret := none) (by decide) rfl ?_
  intro p e s m args below meth c s₁ B hml hv
  obtain ⟨rfl, hsz, hP, hD0, hKK⟩ := hv
  subst hsz
  have hx := B.exec
  have hb := B.bytes
  have hr := B.returns
  have hts := atoms_spec (ws := wsX1_changeDeaths) B.pre
  have hown : s.vm.findClass RX1 = some m.cls := findClass_of_methodNamed B.named
  have hlocks := B.notSynchronized
  have hD := hD0.self (sz := s.heap.size)
  generalize hAe : va_A (tab cI X d r ++ R) s.heap.size = A at hD ⊢
  have hA : ∀ q : Nat, s.heap.size ≤ q → A q := fun q h => by rw [← hAe]; exact Or.inr h
  have hS : va_S A s.heap s.heap [] := va_S.rf
  have hl := lv_entry ([.ref (X 1), .int (nI ka), .int x]) (n := 3) (Nat.le_of_ble_eq_true rfl)
  rw [lg_entry_eq]
  generalize (lg_sl ([.ref (X 1), .int (nI ka), .int x]) ++ List.replicate (3 - (lg_sl ([.ref (X 1), .int (nI ka), .int x])).length) Slot.unset).toArray = ls at hl ⊢
  have hl : lv_has ls 3 [(0, .ref (X 1)), (1, .int (nI ka)), (2, .int x)] := hl
  refine lv_iload_n hx hb dX1_changeDeaths_0 rfl (lv_at hl 1 rfl) ?_
  refine rd_i (runSN0 (As := [.int (nI ka)]) (rest := []) (host := RX3) ⟨hx, hb, hml, hown, hts⟩ (met_X3_isAge l dC dI cI cW (nI ka)) ⟨va_cnB 1 hts gX1_changeDeaths_X3_isAge_n18 rfl rfl rfl hKK.2.1 (hts (.initialized RX3) (by decide +kernel)) (by decide +kernel) ⟨Nat.le_of_ble_eq_true rfl, Nat.le_of_ble_eq_true rfl⟩, hts (.static yX3_isAge) (by decide +kernel), trivial⟩ hKK nilP rfl hl.1 (Nat.le_of_ble_eq_true rfl) rfl dX1_changeDeaths_1 ⟨Nat.zero_le _, Nat.zero_le _⟩) (fun r_1 hr_1 => ?_)
  subst hr_1
  refine lv_if_eq (tgt := 17) hx hb dX1_changeDeaths_4 (by decide) (fun c_2 => ?_) (fun c_2 => ?_)
  · have bc_2 : ¬ (50 ≤ (nI ka) ∧ (nI ka) ≤ 99) := b0.mp c_2
    exact absurd ⟨(le_nI (a := 50) (by omega)).mpr h1, (le_nI (b := 99) (by omega)).mpr h2⟩ bc_2
  · have bc_2 : 50 ≤ (nI ka) ∧ (nI ka) ≤ 99 := b1.mp c_2
    have hin : vp_in (nI ka - 50) 50 := in_age bc_2
    refine lv_aload_n hx hb dX1_changeDeaths_7 rfl (lv_at hl 0 rfl) ?_
    refine va_get (D := (dC, dI)) (ci := 1) (v := .ref (X 2)) (C := RX1) (T := TX1) (N := 2) hx hb hts (by decide +kernel) hown hKK.1 hP 0 rfl rfl 0 (by decide) (hts (.fieldLink RX1 9 "WidowPennies$Tables" "deaths" "[I") (by decide +kernel)) (fun _ h9 => h9) rfl dX1_changeDeaths_8 ?_
    refine lv_iload_n hx hb dX1_changeDeaths_11 rfl (lv_at hl 1 rfl) ?_
    refine lv_bipush (v := 50) hx hb dX1_changeDeaths_12 (by decide) ?_
    refine lv_isub hx hb dX1_changeDeaths_14 ?_
    refine lv_iload_n hx hb dX1_changeDeaths_15 rfl (lv_at hl 2 rfl) ?_
    refine va_iast hx hb hKK.1 hP hD hS 1 0 rfl rfl hin dX1_changeDeaths_16 (fun H locs hP hD hS => ?_)
    rw [show (nI ka - 50).toNatClampNeg = ka - 50 from by rw [show (50 : Int32) = nI 50 from rfl, n_sub h1, clamp_nI (by omega)]] at hP hD
    have hP9 : va_P (dC, dI) vwCl (tab cI X (upd d (ka - 50) x) r ++ R) _ := hP
    have hD9 : va_D A (tab cI X (upd d (ka - 50) x) r ++ R) := hD
    exact W.vret hx hb hr (fun t ht hW => ⟨⟨(), rfl, trivial, by rw [ht]; exact hP9, by rw [hAe]; exact hD9⟩, by rw [hAe]; exact hS.F ht⟩) hS.2.2 dX1_changeDeaths_17
set_option maxHeartbeats 4000000 in
set_option maxRecDepth 100000 in
theorem met_X1_changeRate (l : Launch) (dC : Nat → ClassId) (dI : Nat → Nat → Nat) (cI cW : ClassId) (X : Nat → Nat) (d r : Nat → Int32) (R : va_W) (k : Nat) (hk : k < 3) (x : Int32) (sz : Nat) : Met l yX1_changeRate wsX1_changeRate ({ frames := 0, cells := 0, slots := 0, locals := 0 }) (Pre1 dC dI cI cW [.ref (X 1), .int (nI k), .int x] (tab cI X d r ++ R) sz) (Qv1 dC dI (tab cI X d r ++ R) (tab cI X d (upd r k x) ++ R) sz) 0 0 (va_A (tab cI X d r ++ R) sz) := by
  refine Met.ofW (cc := cX1_changeRate) (maxL := 3) (ret := none) (by decide) rfl ?_
  intro p e s m args below meth c s₁ B hml hv
  obtain ⟨rfl, hsz, hP, hD0, hKK⟩ := hv
  subst hsz
  have hx := B.exec
  have hb := B.bytes
  have hr := B.returns
  have hts := atoms_spec (ws := wsX1_changeRate) B.pre
  have hown : s.vm.findClass RX1 = some m.cls := findClass_of_methodNamed B.named
  have hlocks := B.notSynchronized
  have hD := hD0.self (sz := s.heap.size)
  generalize hAe : va_A (tab cI X d r ++ R) s.heap.size = A at hD ⊢
  have hA : ∀ q : Nat, s.heap.size ≤ q → A q := fun q h => by rw [← hAe]; exact Or.inr h
  have hS : va_S A s.heap s.heap [] := va_S.rf
  have hl := lv_entry ([.ref (X 1), .int (nI k), .int x]) (n := 3) (Nat.le_of_ble_eq_true rfl)
  rw [lg_entry_eq]
  generalize (lg_sl ([.ref (X 1), .int (nI k), .int x]) ++ List.replicate (3 - (lg_sl ([.ref (X 1), .int (nI k), .int x])).length) Slot.unset).toArray = ls at hl ⊢
  have hl : lv_has ls 3 [(0, .ref (X 1)), (1, .int (nI k)), (2, .int x)] := hl
  refine lv_iload_n hx hb dX1_changeRate_0 rfl (lv_at hl 1 rfl) ?_
  refine lv_if_lt (tgt := 16) hx hb dX1_changeRate_1 (by decide) (fun c_1 => ?_) (fun c_1 => ?_)
  · exact absurd c_1 (nI_pos (by omega))
  · refine lv_iload_n hx hb dX1_changeRate_4 rfl (lv_at hl 1 rfl) ?_
    refine lv_iconst (v := 3) hx hb dX1_changeRate_5 (by decide) ?_
    refine lv_icmp_ge (tgt := 16) hx hb dX1_changeRate_6 (by decide) (fun c_2 => ?_) (fun c_2 => ?_)
    · exact absurd c_2 (nI_ge (b := 3) hk (by omega))
    · refine lv_aload_n hx hb dX1_changeRate_9 rfl (lv_at hl 0 rfl) ?_
      refine va_get (D := (dC, dI)) (ci := 1) (v := .ref (X 3)) (C := RX1) (T := TX1) (N := 2) hx hb hts (by decide +kernel) hown hKK.1 hP 0 rfl rfl 1 (by decide) (hts (.fieldLink RX1 15 "WidowPennies$Tables" "rates" "[I") (by decide +kernel)) (fun _ h9 => h9) rfl dX1_changeRate_10 ?_
      refine lv_iload_n hx hb dX1_changeRate_13 rfl (lv_at hl 1 rfl) ?_
      refine lv_iload_n hx hb dX1_changeRate_14 rfl (lv_at hl 2 rfl) ?_
      refine va_iast hx hb hKK.1 hP hD hS 2 0 rfl rfl (vp_in_nI hk (by omega)) dX1_changeRate_15 (fun H locs hP hD hS => ?_)
      rw [clamp_nI (show k < 2147483648 by omega)] at hP hD
      have hP9 : va_P (dC, dI) vwCl (tab cI X d (upd r k x) ++ R) _ := hP
      have hD9 : va_D A (tab cI X d (upd r k x) ++ R) := hD
      exact W.vret hx hb hr (fun t ht hW => ⟨⟨(), rfl, trivial, by rw [ht]; exact hP9, by rw [hAe]; exact hD9⟩, by rw [hAe]; exact hS.F ht⟩) hS.2.2 dX1_changeRate_16
