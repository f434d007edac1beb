set_option maxHeartbeats 4000000 in
set_option maxRecDepth 100000 in
theorem met_X4_come (l : Launch) (dC : Nat → ClassId) (dI : Nat → Nat → Nat) (cI cW cV : ClassId) (Y : Nat → Nat) (Ya : Nat) (V : Nat → Nat) (n : Nat) (d r : Nat → Int32) (ch pd yr : Int32) (Wd : Nat → Nat → Int32) (R : va_W) (x : Int64) (sz : Nat) : Met l yX4_come wsX4_come ({ frames := 0, cells := 0, slots := 0, locals := 0 }) (Pre1S dC dI cI cW cV [.ref (Y 0), .long x] (si cI cV Y Ya V n d r ch pd yr Wd ++ R) sz) (Qv1 dC dI (si cI cV Y Ya V n d r ch pd yr Wd ++ R) (si cI cV Y Ya V n d r (comeS ch x) pd yr Wd ++ R) sz) 0 0 (va_A (si cI cV Y Ya V n d r ch pd yr Wd ++ R) sz) := by
  refine Met.ofW (cc := cX4_come) (maxL := 3) (ret := none) (by decide) rfl ?_
  intro p e s m args below meth c s₁ B hml hv
  obtain ⟨rfl, hsz, hP, hD0, hKS⟩ := hv
  have hKK := hKS.1
  have hKV := hKS.2.1
  subst hsz
  have hx := B.exec
  have hb := B.bytes
  have hr := B.returns
  have hts := atoms_spec (ws := wsX4_come) B.pre
  have hown : s.vm.findClass RX4 = some m.cls := findClass_of_methodNamed B.named
  have hlocks := B.notSynchronized
  have hD := hD0.self (sz := s.heap.size)
  generalize hAe : va_A (si cI cV Y Ya V n d r ch pd yr Wd ++ R) s.heap.size = A at hD ⊢
  have hA : ∀ q : Nat, s.heap.size ≤ q → A q := fun q h => by rw [← hAe]; exact Or.inr h
  have hS : va_S A s.heap s.heap [] := va_S.rf
  have hl := lv_entry ([.ref (Y 0), .long x]) (n := 3) (Nat.le_of_ble_eq_true rfl)
  rw [lg_entry_eq]
  generalize (lg_sl ([.ref (Y 0), .long x]) ++ List.replicate (3 - (lg_sl ([.ref (Y 0), .long x])).length) Slot.unset).toArray = ls at hl ⊢
  have hl : lv_has ls 3 [(0, .ref (Y 0)), (1, .long x)] := hl
  refine lv_aload_n hx hb dX4_come_0 rfl (lv_at hl 0 rfl) ?_
  refine lv_aload_n hx hb dX4_come_1 rfl (lv_at hl 0 rfl) ?_
  refine va_get (D := (dC, dI)) (ci := 4) (v := .int ch) (C := RX4) (T := TX4) (N := 6) hx hb hts (by decide +kernel) hown hKK.1 hP 0 rfl rfl 1 (by decide) (hts (.fieldLink RX4 27 "WidowPenniesLaw$Sim" "chest" "I") (by decide +kernel)) (fun _ h9 => h9) rfl dX4_come_2 ?_
  refine lv_i2l hx hb dX4_come_5 rfl ?_
  refine lv_lload_n hx hb dX4_come_6 rfl (lv_at hl 1 rfl) ?_
  refine lv_ladd hx hb dX4_come_7 ?_
  refine lv_ldc2 (v := 99999999) hx hb hown (hts (.constantLong RX4 65 99999999) (by decide +kernel)) dX4_come_8 ?_
  refine W.lcmp hx hb dX4_come_11 ?_
  refine lv_if_le (tgt := 20) hx hb dX4_come_12 (by decide) (fun c_1 => ?_) (fun c_1 => ?_)
  · refine lv_aload_n hx hb dX4_come_20 rfl (lv_at hl 0 rfl) ?_
    refine va_get (D := (dC, dI)) (ci := 4) (v := .int ch) (C := RX4) (T := TX4) (N := 6) hx hb hts (by decide +kernel) hown hKK.1 hP 0 rfl rfl 1 (by decide) (hts (.fieldLink RX4 27 "WidowPenniesLaw$Sim" "chest" "I") (by decide +kernel)) (fun _ h9 => h9) rfl dX4_come_21 ?_
    refine lv_i2l hx hb dX4_come_24 rfl ?_
    refine lv_lload_n hx hb dX4_come_25 rfl (lv_at hl 1 rfl) ?_
    refine lv_ladd hx hb dX4_come_26 ?_
    refine lv_l2i hx hb dX4_come_27 rfl ?_
    refine va_put (D := (dC, dI)) (ci := 4) (v := .int ((ch.toInt64 + x).toInt32)) (ty := .int) (C := RX4) (T := TX4) (N := 6) hx hb hts (by decide +kernel) tyX4 tyX4_ok nmX4 hown hKK.1 hP hD hS 0 rfl rfl 1 (by decide) (hts (.fieldLink RX4 27 "WidowPenniesLaw$Sim" "chest" "I") (by decide +kernel)) (fun _ h9 => h9) rfl (by decide +kernel) rfl rfl (Nat.le_of_ble_eq_true rfl) dX4_come_28 (fun H locs hP hD hS => ?_)
    have hP : va_P (dC, dI) vwCl (si cI cV Y Ya V n d r ((ch.toInt64 + x).toInt32) pd yr Wd ++ R) H := hP
    have hD : va_D A (si cI cV Y Ya V n d r ((ch.toInt64 + x).toInt32) pd yr Wd ++ R) := hD
    have hP9 : va_P (dC, dI) vwCl (si cI cV Y Ya V n d r ((ch.toInt64 + x).toInt32) pd yr Wd ++ R) _ := hP
    have hD9 : va_D A (si cI cV Y Ya V n d r ((ch.toInt64 + x).toInt32) pd yr Wd ++ R) := hD
    rw [show (ch.toInt64 + x).toInt32 = comeS ch x from (lcmp_le c_1)] at hP9 hD9
    exact W.vret hx hb hr (fun t ht hW => ⟨⟨(), rfl, trivial, by rw [ht]; exact hP9, by rw [hAe]; exact hD9⟩, by rw [hAe]; exact hS.F ht⟩) hS.2.2 dX4_come_31
  · refine lv_ldc (v := 99999999) hx hb hown (hts (.constant RX4 67 99999999) (by decide +kernel)) dX4_come_15 ?_
    refine lv_goto (tgt := 28) hx hb dX4_come_17 (by decide) ?_
    refine va_put (D := (dC, dI)) (ci := 4) (v := .int 99999999) (ty := .int) (C := RX4) (T := TX4) (N := 6) hx hb hts (by decide +kernel) tyX4 tyX4_ok nmX4 hown hKK.1 hP hD hS 0 rfl rfl 1 (by decide) (hts (.fieldLink RX4 27 "WidowPenniesLaw$Sim" "chest" "I") (by decide +kernel)) (fun _ h9 => h9) rfl (by decide +kernel) rfl rfl (Nat.le_of_ble_eq_true rfl) dX4_come_28 (fun H locs hP hD hS => ?_)
    have hP : va_P (dC, dI) vwCl (si cI cV Y Ya V n d r 99999999 pd yr Wd ++ R) H := hP
    have hD : va_D A (si cI cV Y Ya V n d r 99999999 pd yr Wd ++ R) := hD
    have hP9 : va_P (dC, dI) vwCl (si cI cV Y Ya V n d r 99999999 pd yr Wd ++ R) _ := hP
    have hD9 : va_D A (si cI cV Y Ya V n d r 99999999 pd yr Wd ++ R) := hD
    rw [show (99999999 : Int32) = comeS ch x from (lcmp_gt c_1)] at hP9 hD9
    exact W.vret hx hb hr (fun t ht hW => ⟨⟨(), rfl, trivial, by rw [ht]; exact hP9, by rw [hAe]; exact hD9⟩, by rw [hAe]; exact hS.F ht⟩) hS.2.2 dX4_come_31
set_option maxHeartbeats 4000000 in
set_option maxRecDepth 100000 in
theorem met_X4_pass (l : Launch) (dC : Nat → ClassId) (dI : Nat → Nat → Nat) (cI cW cV : ClassId) (Y : Nat → Nat) (Ya : Nat) (V : Nat → Nat) (n : Nat) (d r : Nat → Int32) (ch pd yr : Int32) (Wd : Nat → Nat → Int32) (R : va_W) (hn : n ≤ 10) (hok : ∀ k, k < n → okW (Wd k)) (hint : intS (r 0) ch = (if 0 < ch then comeS ch (ch.toInt64 * (r 0).toInt64 / 1000) else ch)) (sz : Nat) : Met l yX4_pass wsX4_pass ({ frames := 1, cells := 0, slots := 0, locals := 22 }) (Pre1S dC dI cI cW cV [.ref (Y 0)] (si cI cV Y Ya V n d r ch pd yr Wd ++ R) sz) (Qi1 dC dI (fun z => z = sm (dueF Wd) n) (si cI cV Y Ya V n d r ch pd yr Wd ++ R) (si cI cV Y Ya V n d r (intS (r 0) ch - sm (dueF Wd) n) (pd + sm (dueF Wd) n) (yr + 1) (yW n Wd) ++ R) sz) 0 0 (va_A (si cI cV Y Ya V n d r ch pd yr Wd ++ R) sz) := by
  refine Met.ofW (cc := cX4_pass) (maxL := 6) (ret := (some .int)) (by decide) rfl ?_
  intro p e s m args below meth c s₁ B hml hv
  obtain ⟨rfl, hsz, hP, hD0, hKS⟩ := hv
  have hKK := hKS.1
  have hKV := hKS.2.1
  subst hsz
  have hx := B.exec
  have hb := B.bytes
  have hr := B.returns
  have hts := atoms_spec (ws := wsX4_pass) B.pre
  have hown : s.vm.findClass RX4 = some m.cls := findClass_of_methodNamed B.named
  have hlocks := B.notSynchronized
  have hD := hD0.self (sz := s.heap.size)
  generalize hAe : va_A (si cI cV Y Ya V n d r ch pd yr Wd ++ R) s.heap.size = A at hD ⊢
  have hA : ∀ q : Nat, s.heap.size ≤ q → A q := fun q h => by rw [← hAe]; exact Or.inr h
  have hS : va_S A s.heap s.heap [] := va_S.rf
  have hl := lv_entry ([.ref (Y 0)]) (n := 6) (Nat.le_of_ble_eq_true rfl)
  rw [lg_entry_eq]
  generalize (lg_sl ([.ref (Y 0)]) ++ List.replicate (6 - (lg_sl ([.ref (Y 0)])).length) Slot.unset).toArray = ls at hl ⊢
  have hl : lv_has ls 6 [(0, .ref (Y 0))] := hl
  have key : ∀ (m9 j : Nat), j + m9 = n → ∀ (H : Heap) (locs : List Loc), va_P (dC, dI) vwCl (si cI cV Y Ya V n d r (intS (r 0) ch) pd yr (yW j Wd) ++ R) H → va_D A (si cI cV Y Ya V n d r (intS (r 0) ch) pd yr (yW j Wd) ++ R) → va_S A s.heap H locs → ∀ ls : Array Slot, lv_has ls 6 [(4, .int (nI j)), (1, .int (sm (dueF Wd) j)), (3, .int (nI n)), (2, .ref Ya), (0, .ref (Y 0))] → W p l e (headSpec wsX4_pass ({ frames := 1, cells := 0, slots := 0, locals := 22 })).room s m (([.ref (Y 0)] : List Value).toArray) below meth c H locs 0 0 (MQ below (Qi1 dC dI (fun z => z = sm (dueF Wd) n) (si cI cV Y Ya V n d r ch pd yr Wd ++ R) (si cI cV Y Ya V n d r (intS (r 0) ch - sm (dueF Wd) n) (pd + sm (dueF Wd) n) (yr + 1) (yW n Wd) ++ R) s.heap.size) ([.ref (Y 0)] : List Value).toArray s 0 0 A) (F0 m 41 ls []) := by
    intro m9
    induction m9 with
    | zero =>
      intro j hj H locs hP hD hS ls hl
      have hjn : j = n := by omega
      subst hjn
      refine lv_iload hx hb dX4_pass_41 (lv_at hl 0 rfl) ?_
      refine lv_iload_n hx hb dX4_pass_43 rfl (lv_at hl 2 rfl) ?_
      refine lv_icmp_ge (tgt := 153) hx hb dX4_pass_44 (by decide) (fun c_1 => ?_) (fun c_1 => ?_)
      · refine lv_aload_n hx hb dX4_pass_153 rfl (lv_at hl 4 rfl) ?_
        refine lv_dup hx hb dX4_pass_154 rfl ?_
        refine va_get (D := (dC, dI)) (ci := 4) (v := .int (intS (r 0) ch)) (C := RX4) (T := TX4) (N := 6) hx hb hts (by decide +kernel) hown hKK.1 hP 0 rfl rfl 1 (by decide) (hts (.fieldLink RX4 27 "WidowPenniesLaw$Sim" "chest" "I") (by decide +kernel)) (fun _ h9 => h9) rfl dX4_pass_155 ?_
        refine lv_iload_n hx hb dX4_pass_158 rfl (lv_at hl 1 rfl) ?_
        refine lv_isub hx hb dX4_pass_159 ?_
        refine va_put (D := (dC, dI)) (ci := 4) (v := .int ((intS (r 0) ch) - (sm (dueF Wd) j))) (ty := .int) (C := RX4) (T := TX4) (N := 6) hx hb hts (by decide +kernel) tyX4 tyX4_ok nmX4 hown hKK.1 hP hD hS 0 rfl rfl 1 (by decide) (hts (.fieldLink RX4 27 "WidowPenniesLaw$Sim" "chest" "I") (by decide +kernel)) (fun _ h9 => h9) rfl (by decide +kernel) rfl rfl (Nat.le_of_ble_eq_true rfl) dX4_pass_160 (fun H locs hP hD hS => ?_)
        have hP : va_P (dC, dI) vwCl (si cI cV Y Ya V j d r ((intS (r 0) ch) - (sm (dueF Wd) j)) pd yr (yW j Wd) ++ R) H := hP
        have hD : va_D A (si cI cV Y Ya V j d r ((intS (r 0) ch) - (sm (dueF Wd) j)) pd yr (yW j Wd) ++ R) := hD
        refine lv_aload_n hx hb dX4_pass_163 rfl (lv_at hl 4 rfl) ?_
        refine lv_dup hx hb dX4_pass_164 rfl ?_
        refine va_get (D := (dC, dI)) (ci := 4) (v := .int pd) (C := RX4) (T := TX4) (N := 6) hx hb hts (by decide +kernel) hown hKK.1 hP 0 rfl rfl 2 (by decide) (hts (.fieldLink RX4 30 "WidowPenniesLaw$Sim" "out" "I") (by decide +kernel)) (fun _ h9 => h9) rfl dX4_pass_165 ?_
        refine lv_iload_n hx hb dX4_pass_168 rfl (lv_at hl 1 rfl) ?_
        refine lv_iadd hx hb dX4_pass_169 ?_
        refine va_put (D := (dC, dI)) (ci := 4) (v := .int (pd + (sm (dueF Wd) j))) (ty := .int) (C := RX4) (T := TX4) (N := 6) hx hb hts (by decide +kernel) tyX4 tyX4_ok nmX4 hown hKK.1 hP hD hS 0 rfl rfl 2 (by decide) (hts (.fieldLink RX4 30 "WidowPenniesLaw$Sim" "out" "I") (by decide +kernel)) (fun _ h9 => h9) rfl (by decide +kernel) rfl rfl (Nat.le_of_ble_eq_true rfl) dX4_pass_170 (fun H locs hP hD hS => ?_)
        have hP : va_P (dC, dI) vwCl (si cI cV Y Ya V j d r ((intS (r 0) ch) - (sm (dueF Wd) j)) (pd + (sm (dueF Wd) j)) yr (yW j Wd) ++ R) H := hP
        have hD : va_D A (si cI cV Y Ya V j d r ((intS (r 0) ch) - (sm (dueF Wd) j)) (pd + (sm (dueF Wd) j)) yr (yW j Wd) ++ R) := hD
        refine lv_aload_n hx hb dX4_pass_173 rfl (lv_at hl 4 rfl) ?_
        refine lv_dup hx hb dX4_pass_174 rfl ?_
        refine va_get (D := (dC, dI)) (ci := 4) (v := .int yr) (C := RX4) (T := TX4) (N := 6) hx hb hts (by decide +kernel) hown hKK.1 hP 0 rfl rfl 0 (by decide) (hts (.fieldLink RX4 23 "WidowPenniesLaw$Sim" "year" "I") (by decide +kernel)) (fun _ h9 => h9) rfl dX4_pass_175 ?_
        refine lv_iconst (v := 1) hx hb dX4_pass_178 (by decide) ?_
        refine lv_iadd hx hb dX4_pass_179 ?_
        refine va_put (D := (dC, dI)) (ci := 4) (v := .int (yr + 1)) (ty := .int) (C := RX4) (T := TX4) (N := 6) hx hb hts (by decide +kernel) tyX4 tyX4_ok nmX4 hown hKK.1 hP hD hS 0 rfl rfl 0 (by decide) (hts (.fieldLink RX4 23 "WidowPenniesLaw$Sim" "year" "I") (by decide +kernel)) (fun _ h9 => h9) rfl (by decide +kernel) rfl rfl (Nat.le_of_ble_eq_true rfl) dX4_pass_180 (fun H locs hP hD hS => ?_)
        have hP : va_P (dC, dI) vwCl (si cI cV Y Ya V j d r ((intS (r 0) ch) - (sm (dueF Wd) j)) (pd + (sm (dueF Wd) j)) (yr + 1) (yW j Wd) ++ R) H := hP
        have hD : va_D A (si cI cV Y Ya V j d r ((intS (r 0) ch) - (sm (dueF Wd) j)) (pd + (sm (dueF Wd) j)) (yr + 1) (yW j Wd) ++ R) := hD
        refine lv_iload_n hx hb dX4_pass_183 rfl (lv_at hl 1 rfl) ?_
        have hP9 : va_P (dC, dI) vwCl (si cI cV Y Ya V j d r ((intS (r 0) ch) - (sm (dueF Wd) j)) (pd + (sm (dueF Wd) j)) (yr + 1) (yW j Wd) ++ R) _ := hP
        have hD9 : va_D A (si cI cV Y Ya V j d r ((intS (r 0) ch) - (sm (dueF Wd) j)) (pd + (sm (dueF Wd) j)) (yr + 1) (yW j Wd) ++ R) := hD
        have hz : sm (dueF Wd) j = sm (dueF Wd) j := rfl
        exact W.iret (v := (sm (dueF Wd) j)) hx hb hr (fun t ht hW => ⟨⟨_, (), rfl, hz, by rw [ht]; exact hP9, by rw [hAe]; exact hD9⟩, by rw [hAe]; exact hS.F ht⟩) hS.2.2 dX4_pass_184
      · exact absurd (Int32.le_refl _) c_1
    | succ m9 ih =>
      intro j hj H locs hP hD hS ls hl
      have hjn : j < n := by omega
      have hyj : upW (yW j Wd) j (Wd j) = yW j Wd := by
        have e9 : yW j Wd j = Wd j := by simp [yW]
        rw [← e9]; exact upW_self _ _
      rw [← hyj] at hP hD
      refine lv_iload hx hb dX4_pass_41 (lv_at hl 0 rfl) ?_
      refine lv_iload_n hx hb dX4_pass_43 rfl (lv_at hl 2 rfl) ?_
      refine lv_icmp_ge (tgt := 153) hx hb dX4_pass_44 (by decide) (fun c_1 => ?_) (fun c_1 => ?_)
      · exact absurd c_1 (fun q => absurd ((le_nI (by omega)).mp q) (by omega))
      · refine lv_aload_n hx hb dX4_pass_47 rfl (lv_at hl 3 rfl) ?_
        refine lv_iload hx hb dX4_pass_48 (lv_at hl 0 rfl) ?_
        refine va_aldq hx hb hKV hP 3 0 rfl rfl (vp_in_nI hjn (by omega)) dX4_pass_50 ?_
        rw [show va_rf ((fun k => some (V k)) (nI j).toNatClampNeg) = .ref (V j) from by rw [clamp_nI (show j < 2147483648 by omega)]; rfl]
        refine lv_astore (lv' := [(5, .ref (V j)), (4, .int (nI j)), (1, .int (sm (dueF Wd) j)), (3, .int (nI n)), (2, .ref Ya), (0, .ref (Y 0))]) hx hb dX4_pass_51 hl (by decide) rfl (fun ls hl => ?_)
        refine lv_aload hx hb dX4_pass_53 (lv_at hl 0 rfl) ?_
        refine va_get (D := (dC, dI)) (ci := 5) (v := .int (Wd j 4)) (C := RX5) (T := TX5) (N := 7) hx hb hts (by decide +kernel) hown hKK.1 hP (j + 4) (si_atU hjn) rfl 4 (by decide) (hts (.fieldLink RX4 46 "WidowPenniesLaw$Widow" "state" "I") (by decide +kernel)) (fun _ h9 => h9) rfl dX4_pass_55 ?_
        refine lv_if_eq (tgt := 64) hx hb dX4_pass_58 (by decide) (fun c_2 => ?_) (fun c_2 => ?_)
        · have hal : Wd j 4 = 0 := c_2
          obtain ⟨⟨ka, hka, hka1, hka2⟩, ⟨kb, hkb, hkb1⟩, -⟩ := hok j hjn hal
          refine lv_aload hx hb dX4_pass_64 (lv_at hl 0 rfl) ?_
          refine va_get (D := (dC, dI)) (ci := 5) (v := .int (Wd j 2)) (C := RX5) (T := TX5) (N := 7) hx hb hts (by decide +kernel) hown hKK.1 hP (j + 4) (si_atU hjn) rfl 2 (by decide) (hts (.fieldLink RX4 55 "WidowPenniesLaw$Widow" "waits" "I") (by decide +kernel)) (fun _ h9 => h9) rfl dX4_pass_66 ?_
          refine lv_if_ne (tgt := 98) hx hb dX4_pass_69 (by decide) (fun c_3 => ?_) (fun c_3 => ?_)
          · have hw : ¬ Wd j 2 = 0 := c_3
            refine lv_aload hx hb dX4_pass_98 (lv_at hl 0 rfl) ?_
            refine lv_dup hx hb dX4_pass_100 rfl ?_
            refine va_get (D := (dC, dI)) (ci := 5) (v := .int (Wd j 2)) (C := RX5) (T := TX5) (N := 7) hx hb hts (by decide +kernel) hown hKK.1 hP (j + 4) (si_atU hjn) rfl 2 (by decide) (hts (.fieldLink RX4 55 "WidowPenniesLaw$Widow" "waits" "I") (by decide +kernel)) (fun _ h9 => h9) rfl dX4_pass_101 ?_
            refine lv_iconst (v := 1) hx hb dX4_pass_104 (by decide) ?_
            refine lv_isub hx hb dX4_pass_105 ?_
            refine va_put (D := (dC, dI)) (ci := 5) (v := .int ((Wd j 2) - 1)) (ty := .int) (C := RX5) (T := TX5) (N := 7) hx hb hts (by decide +kernel) tyX5 tyX5_ok nmX5 hown hKK.1 hP hD hS (j + 4) (si_atU hjn) rfl 2 (by decide) (hts (.fieldLink RX4 55 "WidowPenniesLaw$Widow" "waits" "I") (by decide +kernel)) (fun _ h9 => h9) rfl (by decide +kernel) rfl rfl (Nat.le_of_ble_eq_true rfl) dX4_pass_106 (fun H locs hP hD hS => ?_)
            have hP : va_P (dC, dI) vwCl (si cI cV Y Ya V n d r (intS (r 0) ch) pd yr (upW (yW j Wd) j (upd (Wd j) 2 ((Wd j 2) - 1))) ++ R) H := by rw [← si_setU (g := Wd j) hjn]; exact hP
            have hD : va_D A (si cI cV Y Ya V n d r (intS (r 0) ch) pd yr (upW (yW j Wd) j (upd (Wd j) 2 ((Wd j 2) - 1))) ++ R) := by rw [← si_setU (g := Wd j) hjn]; exact hD
            refine lv_aload hx hb dX4_pass_109 (lv_at hl 0 rfl) ?_
            refine lv_dup hx hb dX4_pass_111 rfl ?_
            refine va_get (D := (dC, dI)) (ci := 5) (v := .int (Wd j 0)) (C := RX5) (T := TX5) (N := 7) hx hb hts (by decide +kernel) hown hKK.1 hP (j + 4) (si_atU hjn) rfl 0 (by decide) (hts (.fieldLink RX4 52 "WidowPenniesLaw$Widow" "age" "I") (by decide +kernel)) (fun _ h9 => h9) rfl dX4_pass_112 ?_
            refine lv_iconst (v := 1) hx hb dX4_pass_115 (by decide) ?_
            refine lv_iadd hx hb dX4_pass_116 ?_
            refine va_put (D := (dC, dI)) (ci := 5) (v := .int ((Wd j 0) + 1)) (ty := .int) (C := RX5) (T := TX5) (N := 7) hx hb hts (by decide +kernel) tyX5 tyX5_ok nmX5 hown hKK.1 hP hD hS (j + 4) (si_atU hjn) rfl 0 (by decide) (hts (.fieldLink RX4 52 "WidowPenniesLaw$Widow" "age" "I") (by decide +kernel)) (fun _ h9 => h9) rfl (by decide +kernel) rfl rfl (Nat.le_of_ble_eq_true rfl) dX4_pass_117 (fun H locs hP hD hS => ?_)
            have hP : va_P (dC, dI) vwCl (si cI cV Y Ya V n d r (intS (r 0) ch) pd yr (upW (yW j Wd) j (upd (upd (Wd j) 2 ((Wd j 2) - 1)) 0 ((Wd j 0) + 1))) ++ R) H := by rw [← si_setU (g := upd (Wd j) 2 ((Wd j 2) - 1)) hjn]; exact hP
            have hD : va_D A (si cI cV Y Ya V n d r (intS (r 0) ch) pd yr (upW (yW j Wd) j (upd (upd (Wd j) 2 ((Wd j 2) - 1)) 0 ((Wd j 0) + 1))) ++ R) := by rw [← si_setU (g := upd (Wd j) 2 ((Wd j 2) - 1)) hjn]; exact hD
            refine lv_aload hx hb dX4_pass_120 (lv_at hl 0 rfl) ?_
            refine lv_dup hx hb dX4_pass_122 rfl ?_
            refine va_get (D := (dC, dI)) (ci := 5) (v := .int (Wd j 3)) (C := RX5) (T := TX5) (N := 7) hx hb hts (by decide +kernel) hown hKK.1 hP (j + 4) (si_atU hjn) rfl 3 (by decide) (hts (.fieldLink RX4 62 "WidowPenniesLaw$Widow" "since" "I") (by decide +kernel)) (fun _ h9 => h9) rfl dX4_pass_123 ?_
            refine lv_iconst (v := 1) hx hb dX4_pass_126 (by decide) ?_
            refine lv_iadd hx hb dX4_pass_127 ?_
            refine va_put (D := (dC, dI)) (ci := 5) (v := .int ((Wd j 3) + 1)) (ty := .int) (C := RX5) (T := TX5) (N := 7) hx hb hts (by decide +kernel) tyX5 tyX5_ok nmX5 hown hKK.1 hP hD hS (j + 4) (si_atU hjn) rfl 3 (by decide) (hts (.fieldLink RX4 62 "WidowPenniesLaw$Widow" "since" "I") (by decide +kernel)) (fun _ h9 => h9) rfl (by decide +kernel) rfl rfl (Nat.le_of_ble_eq_true rfl) dX4_pass_128 (fun H locs hP hD hS => ?_)
            have hP : va_P (dC, dI) vwCl (si cI cV Y Ya V n d r (intS (r 0) ch) pd yr (upW (yW j Wd) j (upd (upd (upd (Wd j) 2 ((Wd j 2) - 1)) 0 ((Wd j 0) + 1)) 3 ((Wd j 3) + 1))) ++ R) H := by rw [← si_setU (g := upd (upd (Wd j) 2 ((Wd j 2) - 1)) 0 ((Wd j 0) + 1)) hjn]; exact hP
            have hD : va_D A (si cI cV Y Ya V n d r (intS (r 0) ch) pd yr (upW (yW j Wd) j (upd (upd (upd (Wd j) 2 ((Wd j 2) - 1)) 0 ((Wd j 0) + 1)) 3 ((Wd j 3) + 1))) ++ R) := by rw [← si_setU (g := upd (upd (Wd j) 2 ((Wd j 2) - 1)) 0 ((Wd j 0) + 1)) hjn]; exact hD
            refine lv_aload hx hb dX4_pass_131 (lv_at hl 0 rfl) ?_
            refine va_get (D := (dC, dI)) (ci := 5) (v := .int ((Wd j 0) + 1)) (C := RX5) (T := TX5) (N := 7) hx hb hts (by decide +kernel) hown hKK.1 hP (j + 4) (si_atU hjn) rfl 0 (by decide) (hts (.fieldLink RX4 52 "WidowPenniesLaw$Widow" "age" "I") (by decide +kernel)) (fun _ h9 => h9) rfl dX4_pass_133 ?_
            refine lv_bipush (v := 99) hx hb dX4_pass_136 (by decide) ?_
            refine lv_icmp_le (tgt := 147) hx hb dX4_pass_138 (by decide) (fun c_4 => ?_) (fun c_4 => ?_)
            · have h99 : ¬ Wd j 0 = 99 := ne_99 c_4
              refine lv_iinc (v := (nI (j + 1))) (lv' := [(4, .int (nI (j + 1))), (5, .ref (V j)), (1, .int (sm (dueF Wd) j)), (3, .int (nI n)), (2, .ref Ya), (0, .ref (Y 0))]) hx hb dX4_pass_147 hl (k := 1) rfl (nI_1 j) (by decide) rfl (fun ls hl => ?_)
              refine lv_goto (tgt := 41) hx hb dX4_pass_150 (by decide) ?_
              have eR : row (upd (upd (upd (Wd j) 2 ((Wd j 2) - 1)) 0 ((Wd j 0) + 1)) 3 ((Wd j 3) + 1)) = row (yearW (Wd j)) := by simp [row, yearW, upd, hw, h99]
              have eW : sw n V (upW (yW j Wd) j (upd (upd (upd (Wd j) 2 ((Wd j 2) - 1)) 0 ((Wd j 0) + 1)) 3 ((Wd j 3) + 1))) = sw n V (yW (j + 1) Wd) := by
                rw [yW_yes hal, ← sw_set, ← sw_set, eR]
              have eS : si cI cV Y Ya V n d r (intS (r 0) ch) pd yr (upW (yW j Wd) j (upd (upd (upd (Wd j) 2 ((Wd j 2) - 1)) 0 ((Wd j 0) + 1)) 3 ((Wd j 3) + 1))) ++ R = si cI cV Y Ya V n d r (intS (r 0) ch) pd yr (yW (j + 1) Wd) ++ R := by
                show _ :: _ :: _ :: _ :: (sw n V (upW (yW j Wd) j (upd (upd (upd (Wd j) 2 ((Wd j 2) - 1)) 0 ((Wd j 0) + 1)) 3 ((Wd j 3) + 1))) ++ R) = _
                rw [eW]; rfl
              rw [eS] at hP hD
              exact ih (j + 1) (by omega) H locs hP hD hS ls (hl_to (a := [(4, .int (nI (j + 1))), (1, .int (sm (dueF Wd) j)), (3, .int (nI n)), (2, .ref Ya), (0, .ref (Y 0))]) (by rw [due_yes hal]; simp [hw]) (lv_sub hl [0, 2, 3, 4, 5] rfl))
            · have h99 : Wd j 0 = 99 := is_99 hka hka2 c_4
              refine lv_aload hx hb dX4_pass_141 (lv_at hl 0 rfl) ?_
              refine lv_iconst (v := 1) hx hb dX4_pass_143 (by decide) ?_
              refine va_put (D := (dC, dI)) (ci := 5) (v := .int 1) (ty := .int) (C := RX5) (T := TX5) (N := 7) hx hb hts (by decide +kernel) tyX5 tyX5_ok nmX5 hown hKK.1 hP hD hS (j + 4) (si_atU hjn) rfl 4 (by decide) (hts (.fieldLink RX4 46 "WidowPenniesLaw$Widow" "state" "I") (by decide +kernel)) (fun _ h9 => h9) rfl (by decide +kernel) rfl rfl (Nat.le_of_ble_eq_true rfl) dX4_pass_144 (fun H locs hP hD hS => ?_)
              have hP : va_P (dC, dI) vwCl (si cI cV Y Ya V n d r (intS (r 0) ch) pd yr (upW (yW j Wd) j (upd (upd (upd (upd (Wd j) 2 ((Wd j 2) - 1)) 0 ((Wd j 0) + 1)) 3 ((Wd j 3) + 1)) 4 1)) ++ R) H := by rw [← si_setU (g := upd (upd (upd (Wd j) 2 ((Wd j 2) - 1)) 0 ((Wd j 0) + 1)) 3 ((Wd j 3) + 1)) hjn]; exact hP
              have hD : va_D A (si cI cV Y Ya V n d r (intS (r 0) ch) pd yr (upW (yW j Wd) j (upd (upd (upd (upd (Wd j) 2 ((Wd j 2) - 1)) 0 ((Wd j 0) + 1)) 3 ((Wd j 3) + 1)) 4 1)) ++ R) := by rw [← si_setU (g := upd (upd (upd (Wd j) 2 ((Wd j 2) - 1)) 0 ((Wd j 0) + 1)) 3 ((Wd j 3) + 1)) hjn]; exact hD
              refine lv_iinc (v := (nI (j + 1))) (lv' := [(4, .int (nI (j + 1))), (5, .ref (V j)), (1, .int (sm (dueF Wd) j)), (3, .int (nI n)), (2, .ref Ya), (0, .ref (Y 0))]) hx hb dX4_pass_147 hl (k := 1) rfl (nI_1 j) (by decide) rfl (fun ls hl => ?_)
              refine lv_goto (tgt := 41) hx hb dX4_pass_150 (by decide) ?_
              have eR : row (upd (upd (upd (upd (Wd j) 2 ((Wd j 2) - 1)) 0 ((Wd j 0) + 1)) 3 ((Wd j 3) + 1)) 4 1) = row (yearW (Wd j)) := by simp [row, yearW, upd, hw, h99, hal]
              have eW : sw n V (upW (yW j Wd) j (upd (upd (upd (upd (Wd j) 2 ((Wd j 2) - 1)) 0 ((Wd j 0) + 1)) 3 ((Wd j 3) + 1)) 4 1)) = sw n V (yW (j + 1) Wd) := by
                rw [yW_yes hal, ← sw_set, ← sw_set, eR]
              have eS : si cI cV Y Ya V n d r (intS (r 0) ch) pd yr (upW (yW j Wd) j (upd (upd (upd (upd (Wd j) 2 ((Wd j 2) - 1)) 0 ((Wd j 0) + 1)) 3 ((Wd j 3) + 1)) 4 1)) ++ R = si cI cV Y Ya V n d r (intS (r 0) ch) pd yr (yW (j + 1) Wd) ++ R := by
                show _ :: _ :: _ :: _ :: (sw n V (upW (yW j Wd) j (upd (upd (upd (upd (Wd j) 2 ((Wd j 2) - 1)) 0 ((Wd j 0) + 1)) 3 ((Wd j 3) + 1)) 4 1)) ++ R) = _
                rw [eW]; rfl
              rw [eS] at hP hD
              exact ih (j + 1) (by omega) H locs hP hD hS ls (hl_to (a := [(4, .int (nI (j + 1))), (1, .int (sm (dueF Wd) j)), (3, .int (nI n)), (2, .ref Ya), (0, .ref (Y 0))]) (by rw [due_yes hal]; simp [hw]) (lv_sub hl [0, 2, 3, 4, 5] rfl))
          · have hw : Wd j 2 = 0 := c_3
            refine lv_aload hx hb dX4_pass_72 (lv_at hl 0 rfl) ?_
            refine lv_dup hx hb dX4_pass_74 rfl ?_
            refine va_get (D := (dC, dI)) (ci := 5) (v := .int (Wd j 5)) (C := RX5) (T := TX5) (N := 7) hx hb hts (by decide +kernel) hown hKK.1 hP (j + 4) (si_atU hjn) rfl 5 (by decide) (hts (.fieldLink RX4 74 "WidowPenniesLaw$Widow" "got" "I") (by decide +kernel)) (fun _ h9 => h9) rfl dX4_pass_75 ?_
            refine lv_aload hx hb dX4_pass_78 (lv_at hl 0 rfl) ?_
            refine va_get (D := (dC, dI)) (ci := 5) (v := .int (Wd j 1)) (C := RX5) (T := TX5) (N := 7) hx hb hts (by decide +kernel) hown hKK.1 hP (j + 4) (si_atU hjn) rfl 1 (by decide) (hts (.fieldLink RX4 49 "WidowPenniesLaw$Widow" "sum" "I") (by decide +kernel)) (fun _ h9 => h9) rfl dX4_pass_80 ?_
            refine lv_iadd hx hb dX4_pass_83 ?_
            refine va_put (D := (dC, dI)) (ci := 5) (v := .int ((Wd j 5) + (Wd j 1))) (ty := .int) (C := RX5) (T := TX5) (N := 7) hx hb hts (by decide +kernel) tyX5 tyX5_ok nmX5 hown hKK.1 hP hD hS (j + 4) (si_atU hjn) rfl 5 (by decide) (hts (.fieldLink RX4 74 "WidowPenniesLaw$Widow" "got" "I") (by decide +kernel)) (fun _ h9 => h9) rfl (by decide +kernel) rfl rfl (Nat.le_of_ble_eq_true rfl) dX4_pass_84 (fun H locs hP hD hS => ?_)
            have hP : va_P (dC, dI) vwCl (si cI cV Y Ya V n d r (intS (r 0) ch) pd yr (upW (yW j Wd) j (upd (Wd j) 5 ((Wd j 5) + (Wd j 1)))) ++ R) H := by rw [← si_setU (g := Wd j) hjn]; exact hP
            have hD : va_D A (si cI cV Y Ya V n d r (intS (r 0) ch) pd yr (upW (yW j Wd) j (upd (Wd j) 5 ((Wd j 5) + (Wd j 1)))) ++ R) := by rw [← si_setU (g := Wd j) hjn]; exact hD
            refine lv_iload_n hx hb dX4_pass_87 rfl (lv_at hl 2 rfl) ?_
            refine lv_aload hx hb dX4_pass_88 (lv_at hl 0 rfl) ?_
            refine va_get (D := (dC, dI)) (ci := 5) (v := .int (Wd j 1)) (C := RX5) (T := TX5) (N := 7) hx hb hts (by decide +kernel) hown hKK.1 hP (j + 4) (si_atU hjn) rfl 1 (by decide) (hts (.fieldLink RX4 49 "WidowPenniesLaw$Widow" "sum" "I") (by decide +kernel)) (fun _ h9 => h9) rfl dX4_pass_90 ?_
            refine lv_iadd hx hb dX4_pass_93 ?_
            refine lv_istore_n (lv' := [(1, .int ((sm (dueF Wd) j) + (Wd j 1))), (5, .ref (V j)), (4, .int (nI j)), (3, .int (nI n)), (2, .ref Ya), (0, .ref (Y 0))]) hx hb dX4_pass_94 rfl hl (by decide) rfl (fun ls hl => ?_)
            refine lv_goto (tgt := 109) hx hb dX4_pass_95 (by decide) ?_
            refine lv_aload hx hb dX4_pass_109 (lv_at hl 1 rfl) ?_
            refine lv_dup hx hb dX4_pass_111 rfl ?_
            refine va_get (D := (dC, dI)) (ci := 5) (v := .int (Wd j 0)) (C := RX5) (T := TX5) (N := 7) hx hb hts (by decide +kernel) hown hKK.1 hP (j + 4) (si_atU hjn) rfl 0 (by decide) (hts (.fieldLink RX4 52 "WidowPenniesLaw$Widow" "age" "I") (by decide +kernel)) (fun _ h9 => h9) rfl dX4_pass_112 ?_
            refine lv_iconst (v := 1) hx hb dX4_pass_115 (by decide) ?_
            refine lv_iadd hx hb dX4_pass_116 ?_
            refine va_put (D := (dC, dI)) (ci := 5) (v := .int ((Wd j 0) + 1)) (ty := .int) (C := RX5) (T := TX5) (N := 7) hx hb hts (by decide +kernel) tyX5 tyX5_ok nmX5 hown hKK.1 hP hD hS (j + 4) (si_atU hjn) rfl 0 (by decide) (hts (.fieldLink RX4 52 "WidowPenniesLaw$Widow" "age" "I") (by decide +kernel)) (fun _ h9 => h9) rfl (by decide +kernel) rfl rfl (Nat.le_of_ble_eq_true rfl) dX4_pass_117 (fun H locs hP hD hS => ?_)
            have hP : va_P (dC, dI) vwCl (si cI cV Y Ya V n d r (intS (r 0) ch) pd yr (upW (yW j Wd) j (upd (upd (Wd j) 5 ((Wd j 5) + (Wd j 1))) 0 ((Wd j 0) + 1))) ++ R) H := by rw [← si_setU (g := upd (Wd j) 5 ((Wd j 5) + (Wd j 1))) hjn]; exact hP
            have hD : va_D A (si cI cV Y Ya V n d r (intS (r 0) ch) pd yr (upW (yW j Wd) j (upd (upd (Wd j) 5 ((Wd j 5) + (Wd j 1))) 0 ((Wd j 0) + 1))) ++ R) := by rw [← si_setU (g := upd (Wd j) 5 ((Wd j 5) + (Wd j 1))) hjn]; exact hD
            refine lv_aload hx hb dX4_pass_120 (lv_at hl 1 rfl) ?_
            refine lv_dup hx hb dX4_pass_122 rfl ?_
            refine va_get (D := (dC, dI)) (ci := 5) (v := .int (Wd j 3)) (C := RX5) (T := TX5) (N := 7) hx hb hts (by decide +kernel) hown hKK.1 hP (j + 4) (si_atU hjn) rfl 3 (by decide) (hts (.fieldLink RX4 62 "WidowPenniesLaw$Widow" "since" "I") (by decide +kernel)) (fun _ h9 => h9) rfl dX4_pass_123 ?_
            refine lv_iconst (v := 1) hx hb dX4_pass_126 (by decide) ?_
            refine lv_iadd hx hb dX4_pass_127 ?_
            refine va_put (D := (dC, dI)) (ci := 5) (v := .int ((Wd j 3) + 1)) (ty := .int) (C := RX5) (T := TX5) (N := 7) hx hb hts (by decide +kernel) tyX5 tyX5_ok nmX5 hown hKK.1 hP hD hS (j + 4) (si_atU hjn) rfl 3 (by decide) (hts (.fieldLink RX4 62 "WidowPenniesLaw$Widow" "since" "I") (by decide +kernel)) (fun _ h9 => h9) rfl (by decide +kernel) rfl rfl (Nat.le_of_ble_eq_true rfl) dX4_pass_128 (fun H locs hP hD hS => ?_)
            have hP : va_P (dC, dI) vwCl (si cI cV Y Ya V n d r (intS (r 0) ch) pd yr (upW (yW j Wd) j (upd (upd (upd (Wd j) 5 ((Wd j 5) + (Wd j 1))) 0 ((Wd j 0) + 1)) 3 ((Wd j 3) + 1))) ++ R) H := by rw [← si_setU (g := upd (upd (Wd j) 5 ((Wd j 5) + (Wd j 1))) 0 ((Wd j 0) + 1)) hjn]; exact hP
            have hD : va_D A (si cI cV Y Ya V n d r (intS (r 0) ch) pd yr (upW (yW j Wd) j (upd (upd (upd (Wd j) 5 ((Wd j 5) + (Wd j 1))) 0 ((Wd j 0) + 1)) 3 ((Wd j 3) + 1))) ++ R) := by rw [← si_setU (g := upd (upd (Wd j) 5 ((Wd j 5) + (Wd j 1))) 0 ((Wd j 0) + 1)) hjn]; exact hD
            refine lv_aload hx hb dX4_pass_131 (lv_at hl 1 rfl) ?_
            refine va_get (D := (dC, dI)) (ci := 5) (v := .int ((Wd j 0) + 1)) (C := RX5) (T := TX5) (N := 7) hx hb hts (by decide +kernel) hown hKK.1 hP (j + 4) (si_atU hjn) rfl 0 (by decide) (hts (.fieldLink RX4 52 "WidowPenniesLaw$Widow" "age" "I") (by decide +kernel)) (fun _ h9 => h9) rfl dX4_pass_133 ?_
            refine lv_bipush (v := 99) hx hb dX4_pass_136 (by decide) ?_
            refine lv_icmp_le (tgt := 147) hx hb dX4_pass_138 (by decide) (fun c_5 => ?_) (fun c_5 => ?_)
            · have h99 : ¬ Wd j 0 = 99 := ne_99 c_5
              refine lv_iinc (v := (nI (j + 1))) (lv' := [(4, .int (nI (j + 1))), (1, .int ((sm (dueF Wd) j) + (Wd j 1))), (5, .ref (V j)), (3, .int (nI n)), (2, .ref Ya), (0, .ref (Y 0))]) hx hb dX4_pass_147 hl (k := 2) rfl (nI_1 j) (by decide) rfl (fun ls hl => ?_)
              refine lv_goto (tgt := 41) hx hb dX4_pass_150 (by decide) ?_
              have eR : row (upd (upd (upd (Wd j) 5 ((Wd j 5) + (Wd j 1))) 0 ((Wd j 0) + 1)) 3 ((Wd j 3) + 1)) = row (yearW (Wd j)) := by simp [row, yearW, upd, hw, h99]
              have eW : sw n V (upW (yW j Wd) j (upd (upd (upd (Wd j) 5 ((Wd j 5) + (Wd j 1))) 0 ((Wd j 0) + 1)) 3 ((Wd j 3) + 1))) = sw n V (yW (j + 1) Wd) := by
                rw [yW_yes hal, ← sw_set, ← sw_set, eR]
              have eS : si cI cV Y Ya V n d r (intS (r 0) ch) pd yr (upW (yW j Wd) j (upd (upd (upd (Wd j) 5 ((Wd j 5) + (Wd j 1))) 0 ((Wd j 0) + 1)) 3 ((Wd j 3) + 1))) ++ R = si cI cV Y Ya V n d r (intS (r 0) ch) pd yr (yW (j + 1) Wd) ++ R := by
                show _ :: _ :: _ :: _ :: (sw n V (upW (yW j Wd) j (upd (upd (upd (Wd j) 5 ((Wd j 5) + (Wd j 1))) 0 ((Wd j 0) + 1)) 3 ((Wd j 3) + 1))) ++ R) = _
                rw [eW]; rfl
              rw [eS] at hP hD
              exact ih (j + 1) (by omega) H locs hP hD hS ls (hl_to (a := [(4, .int (nI (j + 1))), (1, .int ((sm (dueF Wd) j) + (Wd j 1))), (3, .int (nI n)), (2, .ref Ya), (0, .ref (Y 0))]) (by rw [due_yes hal]; simp [hw]) (lv_sub hl [0, 1, 3, 4, 5] rfl))
            · have h99 : Wd j 0 = 99 := is_99 hka hka2 c_5
              refine lv_aload hx hb dX4_pass_141 (lv_at hl 1 rfl) ?_
              refine lv_iconst (v := 1) hx hb dX4_pass_143 (by decide) ?_
              refine va_put (D := (dC, dI)) (ci := 5) (v := .int 1) (ty := .int) (C := RX5) (T := TX5) (N := 7) hx hb hts (by decide +kernel) tyX5 tyX5_ok nmX5 hown hKK.1 hP hD hS (j + 4) (si_atU hjn) rfl 4 (by decide) (hts (.fieldLink RX4 46 "WidowPenniesLaw$Widow" "state" "I") (by decide +kernel)) (fun _ h9 => h9) rfl (by decide +kernel) rfl rfl (Nat.le_of_ble_eq_true rfl) dX4_pass_144 (fun H locs hP hD hS => ?_)
              have hP : va_P (dC, dI) vwCl (si cI cV Y Ya V n d r (intS (r 0) ch) pd yr (upW (yW j Wd) j (upd (upd (upd (upd (Wd j) 5 ((Wd j 5) + (Wd j 1))) 0 ((Wd j 0) + 1)) 3 ((Wd j 3) + 1)) 4 1)) ++ R) H := by rw [← si_setU (g := upd (upd (upd (Wd j) 5 ((Wd j 5) + (Wd j 1))) 0 ((Wd j 0) + 1)) 3 ((Wd j 3) + 1)) hjn]; exact hP
              have hD : va_D A (si cI cV Y Ya V n d r (intS (r 0) ch) pd yr (upW (yW j Wd) j (upd (upd (upd (upd (Wd j) 5 ((Wd j 5) + (Wd j 1))) 0 ((Wd j 0) + 1)) 3 ((Wd j 3) + 1)) 4 1)) ++ R) := by rw [← si_setU (g := upd (upd (upd (Wd j) 5 ((Wd j 5) + (Wd j 1))) 0 ((Wd j 0) + 1)) 3 ((Wd j 3) + 1)) hjn]; exact hD
              refine lv_iinc (v := (nI (j + 1))) (lv' := [(4, .int (nI (j + 1))), (1, .int ((sm (dueF Wd) j) + (Wd j 1))), (5, .ref (V j)), (3, .int (nI n)), (2, .ref Ya), (0, .ref (Y 0))]) hx hb dX4_pass_147 hl (k := 2) rfl (nI_1 j) (by decide) rfl (fun ls hl => ?_)
              refine lv_goto (tgt := 41) hx hb dX4_pass_150 (by decide) ?_
              have eR : row (upd (upd (upd (upd (Wd j) 5 ((Wd j 5) + (Wd j 1))) 0 ((Wd j 0) + 1)) 3 ((Wd j 3) + 1)) 4 1) = row (yearW (Wd j)) := by simp [row, yearW, upd, hw, h99, hal]
              have eW : sw n V (upW (yW j Wd) j (upd (upd (upd (upd (Wd j) 5 ((Wd j 5) + (Wd j 1))) 0 ((Wd j 0) + 1)) 3 ((Wd j 3) + 1)) 4 1)) = sw n V (yW (j + 1) Wd) := by
                rw [yW_yes hal, ← sw_set, ← sw_set, eR]
              have eS : si cI cV Y Ya V n d r (intS (r 0) ch) pd yr (upW (yW j Wd) j (upd (upd (upd (upd (Wd j) 5 ((Wd j 5) + (Wd j 1))) 0 ((Wd j 0) + 1)) 3 ((Wd j 3) + 1)) 4 1)) ++ R = si cI cV Y Ya V n d r (intS (r 0) ch) pd yr (yW (j + 1) Wd) ++ R := by
                show _ :: _ :: _ :: _ :: (sw n V (upW (yW j Wd) j (upd (upd (upd (upd (Wd j) 5 ((Wd j 5) + (Wd j 1))) 0 ((Wd j 0) + 1)) 3 ((Wd j 3) + 1)) 4 1)) ++ R) = _
                rw [eW]; rfl
              rw [eS] at hP hD
              exact ih (j + 1) (by omega) H locs hP hD hS ls (hl_to (a := [(4, .int (nI (j + 1))), (1, .int ((sm (dueF Wd) j) + (Wd j 1))), (3, .int (nI n)), (2, .ref Ya), (0, .ref (Y 0))]) (by rw [due_yes hal]; simp [hw]) (lv_sub hl [0, 1, 3, 4, 5] rfl))
        · have hno : ¬ Wd j 4 = 0 := c_2
          refine lv_goto (tgt := 147) hx hb dX4_pass_61 (by decide) ?_
          refine lv_iinc (v := (nI (j + 1))) (lv' := [(4, .int (nI (j + 1))), (5, .ref (V j)), (1, .int (sm (dueF Wd) j)), (3, .int (nI n)), (2, .ref Ya), (0, .ref (Y 0))]) hx hb dX4_pass_147 hl (k := 1) rfl (nI_1 j) (by decide) rfl (fun ls hl => ?_)
          refine lv_goto (tgt := 41) hx hb dX4_pass_150 (by decide) ?_
          rw [hyj] at hP hD
          have hP : va_P (dC, dI) vwCl (si cI cV Y Ya V n d r (intS (r 0) ch) pd yr (yW (j + 1) Wd) ++ R) H := by rw [yW_no hno]; exact hP
          have hD : va_D A (si cI cV Y Ya V n d r (intS (r 0) ch) pd yr (yW (j + 1) Wd) ++ R) := by rw [yW_no hno]; exact hD
          exact ih (j + 1) (by omega) H locs hP hD hS ls (hl_to (a := [(4, .int (nI (j + 1))), (1, .int (sm (dueF Wd) j)), (3, .int (nI n)), (2, .ref Ya), (0, .ref (Y 0))]) (by rw [due_no hno]) (lv_sub hl [0, 2, 3, 4, 5] rfl))
  refine lv_iconst (v := 0) hx hb dX4_pass_0 (by decide) ?_
  refine lv_istore_n (lv' := [(1, .int 0), (0, .ref (Y 0))]) hx hb dX4_pass_1 rfl hl (by decide) rfl (fun ls hl => ?_)
  refine lv_aload_n hx hb dX4_pass_2 rfl (lv_at hl 1 rfl) ?_
  refine va_get (D := (dC, dI)) (ci := 4) (v := .int ch) (C := RX4) (T := TX4) (N := 6) hx hb hts (by decide +kernel) hown hKK.1 hP 0 rfl rfl 1 (by decide) (hts (.fieldLink RX4 27 "WidowPenniesLaw$Sim" "chest" "I") (by decide +kernel)) (fun _ h9 => h9) rfl dX4_pass_3 ?_
  refine lv_if_le (tgt := 30) hx hb dX4_pass_6 (by decide) (fun c_1 => ?_) (fun c_1 => ?_)
  · refine lv_aload_n hx hb dX4_pass_30 rfl (lv_at hl 1 rfl) ?_
    refine va_get (D := (dC, dI)) (ci := 4) (v := .ref Ya) (C := RX4) (T := TX4) (N := 6) hx hb hts (by decide +kernel) hown hKK.1 hP 0 rfl rfl 5 (by decide) (hts (.fieldLink RX4 18 "WidowPenniesLaw$Sim" "all" "[LWidowPenniesLaw$Widow;") (by decide +kernel)) (fun _ h9 => h9) rfl dX4_pass_31 ?_
    refine lv_astore_n (lv' := [(2, .ref Ya), (1, .int 0), (0, .ref (Y 0))]) hx hb dX4_pass_34 rfl hl (by decide) rfl (fun ls hl => ?_)
    refine lv_aload_n hx hb dX4_pass_35 rfl (lv_at hl 0 rfl) ?_
    refine va_alen (v := nI n) hx hb hKV hP 3 0 rfl rfl rfl dX4_pass_36 ?_
    refine lv_istore_n (lv' := [(3, .int (nI n)), (2, .ref Ya), (1, .int 0), (0, .ref (Y 0))]) hx hb dX4_pass_37 rfl hl (by decide) rfl (fun ls hl => ?_)
    refine lv_iconst (v := 0) hx hb dX4_pass_38 (by decide) ?_
    refine lv_istore (lv' := [(4, .int 0), (3, .int (nI n)), (2, .ref Ya), (1, .int 0), (0, .ref (Y 0))]) hx hb dX4_pass_39 hl (by decide) rfl (fun ls hl => ?_)
    have e1 : intS (r 0) ch = ch := by rw [hint, if_neg (Int32.not_lt.mpr c_1)]
    have hP : va_P (dC, dI) vwCl (si cI cV Y Ya V n d r (intS (r 0) ch) pd yr (yW 0 Wd) ++ R) s.heap := by rw [yW_0, e1]; exact hP
    have hD : va_D A (si cI cV Y Ya V n d r (intS (r 0) ch) pd yr (yW 0 Wd) ++ R) := by rw [yW_0, e1]; exact hD
    exact key n 0 (by omega) _ _ hP hD hS ls (lv_sub hl [0, 3, 1, 2, 4] rfl)
  · refine lv_aload_n hx hb dX4_pass_9 rfl (lv_at hl 1 rfl) ?_
    refine lv_aload_n hx hb dX4_pass_10 rfl (lv_at hl 1 rfl) ?_
    refine va_get (D := (dC, dI)) (ci := 4) (v := .int ch) (C := RX4) (T := TX4) (N := 6) hx hb hts (by decide +kernel) hown hKK.1 hP 0 rfl rfl 1 (by decide) (hts (.fieldLink RX4 27 "WidowPenniesLaw$Sim" "chest" "I") (by decide +kernel)) (fun _ h9 => h9) rfl dX4_pass_11 ?_
    refine lv_i2l hx hb dX4_pass_14 rfl ?_
    refine lv_aload_n hx hb dX4_pass_15 rfl (lv_at hl 1 rfl) ?_
    refine va_get (D := (dC, dI)) (ci := 4) (v := .ref (Y 1)) (C := RX4) (T := TX4) (N := 6) hx hb hts (by decide +kernel) hown hKK.1 hP 0 rfl rfl 3 (by decide) (hts (.fieldLink RX4 7 "WidowPenniesLaw$Sim" "rates" "[I") (by decide +kernel)) (fun _ h9 => h9) rfl dX4_pass_16 ?_
    refine lv_iconst (v := 0) hx hb dX4_pass_19 (by decide) ?_
    refine va_iald hx hb hKK.1 hP 1 0 rfl rfl (vp_in_nI (n := 0) (by omega) (by omega)) dX4_pass_20 ?_
    rw [show r (0 : Int32).toNatClampNeg = r 0 from rfl]
    refine lv_i2l hx hb dX4_pass_21 rfl ?_
    refine lv_lmul hx hb dX4_pass_22 ?_
    refine lv_ldc2 (v := 1000) hx hb hown (hts (.constantLong RX4 68 1000) (by decide +kernel)) dX4_pass_23 ?_
    refine lv_ldiv hx hb dX4_pass_26 (by decide) ?_
    refine wr_v (runV1S (As := [.long ((ch.toInt64 * ((r 0).toInt64)) / 1000)]) (rest := []) ⟨hx, hb, hml, hown, hts⟩ (met_X4_come l dC dI cI cW cV Y Ya V n d r ch pd yr Wd R ((ch.toInt64 * ((r 0).toInt64)) / 1000) _) (cwV 1 hts gX4_pass_X4_come rfl rfl rfl (by decide +kernel) ⟨Nat.le_of_ble_eq_true rfl, Nat.le_of_ble_eq_true rfl⟩) hKS hP hD 4 0 rfl rfl rfl hl.1 (Nat.le_of_ble_eq_true rfl) rfl dX4_pass_27 ⟨Nat.zero_le _, Nat.zero_le _⟩) hD hS hA (fun H locs hP hD hS => ?_)
    have hP : va_P (dC, dI) vwCl (si cI cV Y Ya V n d r (comeS ch ((ch.toInt64 * ((r 0).toInt64)) / 1000)) pd yr Wd ++ R) H := hP
    have hD : va_D A (si cI cV Y Ya V n d r (comeS ch ((ch.toInt64 * ((r 0).toInt64)) / 1000)) pd yr Wd ++ R) := hD
    refine lv_aload_n hx hb dX4_pass_30 rfl (lv_at hl 1 rfl) ?_
    refine va_get (D := (dC, dI)) (ci := 4) (v := .ref Ya) (C := RX4) (T := TX4) (N := 6) hx hb hts (by decide +kernel) hown hKK.1 hP 0 rfl rfl 5 (by decide) (hts (.fieldLink RX4 18 "WidowPenniesLaw$Sim" "all" "[LWidowPenniesLaw$Widow;") (by decide +kernel)) (fun _ h9 => h9) rfl dX4_pass_31 ?_
    refine lv_astore_n (lv' := [(2, .ref Ya), (1, .int 0), (0, .ref (Y 0))]) hx hb dX4_pass_34 rfl hl (by decide) rfl (fun ls hl => ?_)
    refine lv_aload_n hx hb dX4_pass_35 rfl (lv_at hl 0 rfl) ?_
    refine va_alen (v := nI n) hx hb hKV hP 3 0 rfl rfl rfl dX4_pass_36 ?_
    refine lv_istore_n (lv' := [(3, .int (nI n)), (2, .ref Ya), (1, .int 0), (0, .ref (Y 0))]) hx hb dX4_pass_37 rfl hl (by decide) rfl (fun ls hl => ?_)
    refine lv_iconst (v := 0) hx hb dX4_pass_38 (by decide) ?_
    refine lv_istore (lv' := [(4, .int 0), (3, .int (nI n)), (2, .ref Ya), (1, .int 0), (0, .ref (Y 0))]) hx hb dX4_pass_39 hl (by decide) rfl (fun ls hl => ?_)
    have e1 : intS (r 0) ch = comeS ch ((ch.toInt64 * ((r 0).toInt64)) / 1000) := by rw [hint, if_pos (Int32.not_le.mp c_1)]
    have hP : va_P (dC, dI) vwCl (si cI cV Y Ya V n d r (intS (r 0) ch) pd yr (yW 0 Wd) ++ R) H := by rw [yW_0, e1]; exact hP
    have hD : va_D A (si cI cV Y Ya V n d r (intS (r 0) ch) pd yr (yW 0 Wd) ++ R) := by rw [yW_0, e1]; exact hD
    exact key n 0 (by omega) _ _ hP hD hS ls (lv_sub hl [0, 3, 1, 2, 4] rfl)
set_option maxHeartbeats 4000000 in
set_option maxRecDepth 100000 in
theorem met_X4_counted (l : Launch) (dC : Nat → ClassId) (dI : Nat → Nat → Nat) (cI cW cV : ClassId) (Y : Nat → Nat) (Ya : Nat) (V : Nat → Nat) (n : Nat) (d r : Nat → Int32) (ch pd yr : Int32) (Wd : Nat → Nat → Int32) (R : va_W) (hn : n ≤ 10) (hok : ∀ k, k < n → okW (Wd k)) (hi : ¬ (1000 : Int32) + r 0 = 0) (k : Nat) (hk : k < 9) (sz : Nat) : Met l yX4_counted wsX4_counted ({ frames := 3, cells := 1, slots := 9, locals := 71 }) (Pre1S dC dI cI cW cV [.ref (Y 0), .int (nI k)] (si cI cV Y Ya V n d r ch pd yr Wd ++ R) sz) (Qi1 dC dI (fun z => z = countS d r n ch pd (sm (prcF Wd) n) yr Wd k) (si cI cV Y Ya V n d r ch pd yr Wd ++ R) (si cI cV Y Ya V n d r ch pd yr Wd ++ R) sz) 1 9 (va_A (si cI cV Y Ya V n d r ch pd yr Wd ++ R) sz) := by
  refine Met.ofW (cc := cX4_counted) (maxL := 9) (ret := (some .int)) (by decide) rfl ?_
  intro p e s m args below meth c s₁ B hml hv
  obtain ⟨rfl, hsz, hP, hD0, hKS⟩ := hv
  have hKK := hKS.1
  have hKV := hKS.2.1
  subst hsz
  have hx := B.exec
  have hb := B.bytes
  have hr := B.returns
  have hts := atoms_spec (ws := wsX4_counted) B.pre
  have hown : s.vm.findClass RX4 = some m.cls := findClass_of_methodNamed B.named
  have hlocks := B.notSynchronized
  have hD := hD0.self (sz := s.heap.size)
  generalize hAe : va_A (si cI cV Y Ya V n d r ch pd yr Wd ++ R) s.heap.size = A at hD ⊢
  have hA : ∀ q : Nat, s.heap.size ≤ q → A q := fun q h => by rw [← hAe]; exact Or.inr h
  have hS : va_S A s.heap s.heap [] := va_S.rf
  have hl := lv_entry ([.ref (Y 0), .int (nI k)]) (n := 9) (Nat.le_of_ble_eq_true rfl)
  rw [lg_entry_eq]
  generalize (lg_sl ([.ref (Y 0), .int (nI k)]) ++ List.replicate (9 - (lg_sl ([.ref (Y 0), .int (nI k)])).length) Slot.unset).toArray = ls at hl ⊢
  have hl : lv_has ls 9 [(0, .ref (Y 0)), (1, .int (nI k))] := hl
  have hSM : va_P (dC, dI) vwCl (si cI cV Y Ya V n d r ch pd yr Wd) s.heap := ws_left hP
  have tail : ∀ ls : Array Slot, lv_has ls 9 [(7, .int (nI n)), (2, .int (sm (alvF Wd) n)), (3, .int (sm (dueF Wd) n)), (4, .int (sm (prcF Wd) n)), (6, .int (nI n)), (5, .ref Ya), (0, .ref (Y 0)), (1, .int (nI k))] → W p l e (headSpec wsX4_counted ({ frames := 3, cells := 1, slots := 9, locals := 71 })).room s m (([.ref (Y 0), .int (nI k)] : List Value).toArray) below meth c s.heap [] 0 0 (MQ below (Qi1 dC dI (fun z => z = countS d r n ch pd (sm (prcF Wd) n) yr Wd k) (si cI cV Y Ya V n d r ch pd yr Wd ++ R) (si cI cV Y Ya V n d r ch pd yr Wd ++ R) s.heap.size) ([.ref (Y 0), .int (nI k)] : List Value).toArray s 1 9 A) (F0 m 95 ls []) := by
    intro ls hl
    refine lv_aload_n hx hb dX4_counted_95 rfl (lv_at hl 6 rfl) ?_
    refine rd_i (runV0S (As := []) (rest := []) ⟨hx, hb, hml, hown, hts⟩ (met_X4_keptForAll l dC dI cI cW cV Y Ya V n d r ch pd yr Wd hn hok hi) (cwV 0 hts gX4_counted_X4_keptForAll rfl rfl rfl (by decide +kernel) ⟨Nat.le_of_ble_eq_true rfl, Nat.le_of_ble_eq_true rfl⟩) hKS hSM 4 0 rfl rfl rfl hl.1 (Nat.le_of_ble_eq_true rfl) rfl dX4_counted_96 ⟨Nat.zero_le _, Nat.zero_le _⟩) (fun r_1 hr_1 => ?_)
    subst hr_1
    refine lv_istore (lv' := [(5, .int (sm (kptF d (r 0) Wd) n)), (7, .int (nI n)), (2, .int (sm (alvF Wd) n)), (3, .int (sm (dueF Wd) n)), (4, .int (sm (prcF Wd) n)), (6, .int (nI n)), (0, .ref (Y 0)), (1, .int (nI k))]) hx hb dX4_counted_99 hl (by decide) rfl (fun ls hl => ?_)
    refine lv_bipush (v := 9) hx hb dX4_counted_101 (by decide) ?_
    refine va_newa (atype := .int) (ty := .int) (a0 := (9, .inl (fun _ => 0))) (N' := 9) hx hb (hts (.arrayClass .int) (by decide +kernel)) rfl hKK.1 hP hD hS hA (fun _ => rfl) (by decide) rfl (by decide) (Nat.le_of_ble_eq_true rfl) (Nat.le_of_ble_eq_true rfl) dX4_counted_103 (fun o cA H hK2 hP hD hS => ?_)
    have hcA := cls_int hK2
    rw [hcA] at hP hD
    clear hK2 hcA
    have hP : va_P (dC, dI) vwCl ((o, .inl (cI, 9, .inl (fun _ => 0))) :: (si cI cV Y Ya V n d r ch pd yr Wd ++ R)) H := va_P_perm (perm_front _ _) hP
    have hD : va_D A ((o, .inl (cI, 9, .inl (fun _ => 0))) :: (si cI cV Y Ya V n d r ch pd yr Wd ++ R)) := va_D_perm (perm_front _ _) hD
    refine lv_dup hx hb dX4_counted_105 rfl ?_
    refine lv_iconst (v := 0) hx hb dX4_counted_106 (by decide) ?_
    refine lv_aload_n hx hb dX4_counted_107 rfl (lv_at hl 6 rfl) ?_
    refine va_get (D := (dC, dI)) (ci := 4) (v := .int yr) (C := RX4) (T := TX4) (N := 6) hx hb hts (by decide +kernel) hown hKK.1 hP 1 rfl rfl 0 (by decide) (hts (.fieldLink RX4 23 "WidowPenniesLaw$Sim" "year" "I") (by decide +kernel)) (fun _ h9 => h9) rfl dX4_counted_108 ?_
    refine va_iast hx hb hKK.1 hP hD hS 0 0 rfl rfl (vp_in_nI (n := 0) (by omega) (by omega)) dX4_counted_111 (fun H locs hP hD hS => ?_)
    have hP : va_P (dC, dI) vwCl ((o, .inl (cI, 9, .inl (upd (fun _ => 0) 0 yr))) :: (si cI cV Y Ya V n d r ch pd yr Wd ++ R)) H := hP
    have hD : va_D A ((o, .inl (cI, 9, .inl (upd (fun _ => 0) 0 yr))) :: (si cI cV Y Ya V n d r ch pd yr Wd ++ R)) := hD
    refine lv_dup hx hb dX4_counted_112 rfl ?_
    refine lv_iconst (v := 1) hx hb dX4_counted_113 (by decide) ?_
    refine lv_aload_n hx hb dX4_counted_114 rfl (lv_at hl 6 rfl) ?_
    refine va_get (D := (dC, dI)) (ci := 4) (v := .ref Ya) (C := RX4) (T := TX4) (N := 6) hx hb hts (by decide +kernel) hown hKK.1 hP 1 rfl rfl 5 (by decide) (hts (.fieldLink RX4 18 "WidowPenniesLaw$Sim" "all" "[LWidowPenniesLaw$Widow;") (by decide +kernel)) (fun _ h9 => h9) rfl dX4_counted_115 ?_
    refine va_alen (v := nI n) hx hb hKV hP 4 0 rfl rfl rfl dX4_counted_118 ?_
    refine va_iast hx hb hKK.1 hP hD hS 0 0 rfl rfl (vp_in_nI (n := 1) (by omega) (by omega)) dX4_counted_119 (fun H locs hP hD hS => ?_)
    have hP : va_P (dC, dI) vwCl ((o, .inl (cI, 9, .inl (upd (upd (fun _ => 0) 0 yr) 1 (nI n)))) :: (si cI cV Y Ya V n d r ch pd yr Wd ++ R)) H := hP
    have hD : va_D A ((o, .inl (cI, 9, .inl (upd (upd (fun _ => 0) 0 yr) 1 (nI n)))) :: (si cI cV Y Ya V n d r ch pd yr Wd ++ R)) := hD
    refine lv_dup hx hb dX4_counted_120 rfl ?_
    refine lv_iconst (v := 2) hx hb dX4_counted_121 (by decide) ?_
    refine lv_iload_n hx hb dX4_counted_122 rfl (lv_at hl 2 rfl) ?_
    refine va_iast hx hb hKK.1 hP hD hS 0 0 rfl rfl (vp_in_nI (n := 2) (by omega) (by omega)) dX4_counted_123 (fun H locs hP hD hS => ?_)
    have hP : va_P (dC, dI) vwCl ((o, .inl (cI, 9, .inl (upd (upd (upd (fun _ => 0) 0 yr) 1 (nI n)) 2 (sm (alvF Wd) n)))) :: (si cI cV Y Ya V n d r ch pd yr Wd ++ R)) H := hP
    have hD : va_D A ((o, .inl (cI, 9, .inl (upd (upd (upd (fun _ => 0) 0 yr) 1 (nI n)) 2 (sm (alvF Wd) n)))) :: (si cI cV Y Ya V n d r ch pd yr Wd ++ R)) := hD
    refine lv_dup hx hb dX4_counted_124 rfl ?_
    refine lv_iconst (v := 3) hx hb dX4_counted_125 (by decide) ?_
    refine lv_aload_n hx hb dX4_counted_126 rfl (lv_at hl 6 rfl) ?_
    refine va_get (D := (dC, dI)) (ci := 4) (v := .int ch) (C := RX4) (T := TX4) (N := 6) hx hb hts (by decide +kernel) hown hKK.1 hP 1 rfl rfl 1 (by decide) (hts (.fieldLink RX4 27 "WidowPenniesLaw$Sim" "chest" "I") (by decide +kernel)) (fun _ h9 => h9) rfl dX4_counted_127 ?_
    refine va_iast hx hb hKK.1 hP hD hS 0 0 rfl rfl (vp_in_nI (n := 3) (by omega) (by omega)) dX4_counted_130 (fun H locs hP hD hS => ?_)
    have hP : va_P (dC, dI) vwCl ((o, .inl (cI, 9, .inl (upd (upd (upd (upd (fun _ => 0) 0 yr) 1 (nI n)) 2 (sm (alvF Wd) n)) 3 ch))) :: (si cI cV Y Ya V n d r ch pd yr Wd ++ R)) H := hP
    have hD : va_D A ((o, .inl (cI, 9, .inl (upd (upd (upd (upd (fun _ => 0) 0 yr) 1 (nI n)) 2 (sm (alvF Wd) n)) 3 ch))) :: (si cI cV Y Ya V n d r ch pd yr Wd ++ R)) := hD
    refine lv_dup hx hb dX4_counted_131 rfl ?_
    refine lv_iconst (v := 4) hx hb dX4_counted_132 (by decide) ?_
    refine lv_iload hx hb dX4_counted_133 (lv_at hl 0 rfl) ?_
    refine va_iast hx hb hKK.1 hP hD hS 0 0 rfl rfl (vp_in_nI (n := 4) (by omega) (by omega)) dX4_counted_135 (fun H locs hP hD hS => ?_)
    have hP : va_P (dC, dI) vwCl ((o, .inl (cI, 9, .inl (upd (upd (upd (upd (upd (fun _ => 0) 0 yr) 1 (nI n)) 2 (sm (alvF Wd) n)) 3 ch) 4 (sm (kptF d (r 0) Wd) n)))) :: (si cI cV Y Ya V n d r ch pd yr Wd ++ R)) H := hP
    have hD : va_D A ((o, .inl (cI, 9, .inl (upd (upd (upd (upd (upd (fun _ => 0) 0 yr) 1 (nI n)) 2 (sm (alvF Wd) n)) 3 ch) 4 (sm (kptF d (r 0) Wd) n)))) :: (si cI cV Y Ya V n d r ch pd yr Wd ++ R)) := hD
    refine lv_dup hx hb dX4_counted_136 rfl ?_
    refine lv_iconst (v := 5) hx hb dX4_counted_137 (by decide) ?_
    refine lv_aload_n hx hb dX4_counted_138 rfl (lv_at hl 6 rfl) ?_
    refine va_get (D := (dC, dI)) (ci := 4) (v := .int ch) (C := RX4) (T := TX4) (N := 6) hx hb hts (by decide +kernel) hown hKK.1 hP 1 rfl rfl 1 (by decide) (hts (.fieldLink RX4 27 "WidowPenniesLaw$Sim" "chest" "I") (by decide +kernel)) (fun _ h9 => h9) rfl dX4_counted_139 ?_
    refine lv_iload hx hb dX4_counted_142 (lv_at hl 0 rfl) ?_
    refine lv_isub hx hb dX4_counted_144 ?_
    refine va_iast hx hb hKK.1 hP hD hS 0 0 rfl rfl (vp_in_nI (n := 5) (by omega) (by omega)) dX4_counted_145 (fun H locs hP hD hS => ?_)
    have hP : va_P (dC, dI) vwCl ((o, .inl (cI, 9, .inl (upd (upd (upd (upd (upd (upd (fun _ => 0) 0 yr) 1 (nI n)) 2 (sm (alvF Wd) n)) 3 ch) 4 (sm (kptF d (r 0) Wd) n)) 5 (ch - (sm (kptF d (r 0) Wd) n))))) :: (si cI cV Y Ya V n d r ch pd yr Wd ++ R)) H := hP
    have hD : va_D A ((o, .inl (cI, 9, .inl (upd (upd (upd (upd (upd (upd (fun _ => 0) 0 yr) 1 (nI n)) 2 (sm (alvF Wd) n)) 3 ch) 4 (sm (kptF d (r 0) Wd) n)) 5 (ch - (sm (kptF d (r 0) Wd) n))))) :: (si cI cV Y Ya V n d r ch pd yr Wd ++ R)) := hD
    refine lv_dup hx hb dX4_counted_146 rfl ?_
    refine lv_bipush (v := 6) hx hb dX4_counted_147 (by decide) ?_
    refine lv_iload_n hx hb dX4_counted_149 rfl (lv_at hl 3 rfl) ?_
    refine va_iast hx hb hKK.1 hP hD hS 0 0 rfl rfl (vp_in_nI (n := 6) (by omega) (by omega)) dX4_counted_150 (fun H locs hP hD hS => ?_)
    have hP : va_P (dC, dI) vwCl ((o, .inl (cI, 9, .inl (upd (upd (upd (upd (upd (upd (upd (fun _ => 0) 0 yr) 1 (nI n)) 2 (sm (alvF Wd) n)) 3 ch) 4 (sm (kptF d (r 0) Wd) n)) 5 (ch - (sm (kptF d (r 0) Wd) n))) 6 (sm (dueF Wd) n)))) :: (si cI cV Y Ya V n d r ch pd yr Wd ++ R)) H := hP
    have hD : va_D A ((o, .inl (cI, 9, .inl (upd (upd (upd (upd (upd (upd (upd (fun _ => 0) 0 yr) 1 (nI n)) 2 (sm (alvF Wd) n)) 3 ch) 4 (sm (kptF d (r 0) Wd) n)) 5 (ch - (sm (kptF d (r 0) Wd) n))) 6 (sm (dueF Wd) n)))) :: (si cI cV Y Ya V n d r ch pd yr Wd ++ R)) := hD
    refine lv_dup hx hb dX4_counted_151 rfl ?_
    refine lv_bipush (v := 7) hx hb dX4_counted_152 (by decide) ?_
    refine lv_aload_n hx hb dX4_counted_154 rfl (lv_at hl 6 rfl) ?_
    refine va_get (D := (dC, dI)) (ci := 4) (v := .int pd) (C := RX4) (T := TX4) (N := 6) hx hb hts (by decide +kernel) hown hKK.1 hP 1 rfl rfl 2 (by decide) (hts (.fieldLink RX4 30 "WidowPenniesLaw$Sim" "out" "I") (by decide +kernel)) (fun _ h9 => h9) rfl dX4_counted_155 ?_
    refine va_iast hx hb hKK.1 hP hD hS 0 0 rfl rfl (vp_in_nI (n := 7) (by omega) (by omega)) dX4_counted_158 (fun H locs hP hD hS => ?_)
    have hP : va_P (dC, dI) vwCl ((o, .inl (cI, 9, .inl (upd (upd (upd (upd (upd (upd (upd (upd (fun _ => 0) 0 yr) 1 (nI n)) 2 (sm (alvF Wd) n)) 3 ch) 4 (sm (kptF d (r 0) Wd) n)) 5 (ch - (sm (kptF d (r 0) Wd) n))) 6 (sm (dueF Wd) n)) 7 pd))) :: (si cI cV Y Ya V n d r ch pd yr Wd ++ R)) H := hP
    have hD : va_D A ((o, .inl (cI, 9, .inl (upd (upd (upd (upd (upd (upd (upd (upd (fun _ => 0) 0 yr) 1 (nI n)) 2 (sm (alvF Wd) n)) 3 ch) 4 (sm (kptF d (r 0) Wd) n)) 5 (ch - (sm (kptF d (r 0) Wd) n))) 6 (sm (dueF Wd) n)) 7 pd))) :: (si cI cV Y Ya V n d r ch pd yr Wd ++ R)) := hD
    refine lv_dup hx hb dX4_counted_159 rfl ?_
    refine lv_bipush (v := 8) hx hb dX4_counted_160 (by decide) ?_
    refine lv_iload hx hb dX4_counted_162 (lv_at hl 4 rfl) ?_
    refine va_iast hx hb hKK.1 hP hD hS 0 0 rfl rfl (vp_in_nI (n := 8) (by omega) (by omega)) dX4_counted_164 (fun H locs hP hD hS => ?_)
    have hP : va_P (dC, dI) vwCl ((o, .inl (cI, 9, .inl (upd (upd (upd (upd (upd (upd (upd (upd (upd (fun _ => 0) 0 yr) 1 (nI n)) 2 (sm (alvF Wd) n)) 3 ch) 4 (sm (kptF d (r 0) Wd) n)) 5 (ch - (sm (kptF d (r 0) Wd) n))) 6 (sm (dueF Wd) n)) 7 pd) 8 (sm (prcF Wd) n)))) :: (si cI cV Y Ya V n d r ch pd yr Wd ++ R)) H := hP
    have hD : va_D A ((o, .inl (cI, 9, .inl (upd (upd (upd (upd (upd (upd (upd (upd (upd (fun _ => 0) 0 yr) 1 (nI n)) 2 (sm (alvF Wd) n)) 3 ch) 4 (sm (kptF d (r 0) Wd) n)) 5 (ch - (sm (kptF d (r 0) Wd) n))) 6 (sm (dueF Wd) n)) 7 pd) 8 (sm (prcF Wd) n)))) :: (si cI cV Y Ya V n d r ch pd yr Wd ++ R)) := hD
    refine lv_astore (lv' := [(6, .ref o), (5, .int (sm (kptF d (r 0) Wd) n)), (7, .int (nI n)), (2, .int (sm (alvF Wd) n)), (3, .int (sm (dueF Wd) n)), (4, .int (sm (prcF Wd) n)), (0, .ref (Y 0)), (1, .int (nI k))]) hx hb dX4_counted_165 hl (by decide) rfl (fun ls hl => ?_)
    refine lv_aload hx hb dX4_counted_167 (lv_at hl 0 rfl) ?_
    refine lv_iload_n hx hb dX4_counted_169 rfl (lv_at hl 7 rfl) ?_
    refine va_iald hx hb hKK.1 hP 0 0 rfl rfl (vp_in_nI hk (by omega)) dX4_counted_170 ?_
    rw [show (upd (upd (upd (upd (upd (upd (upd (upd (upd (fun _ => 0) 0 yr) 1 (nI n)) 2 (sm (alvF Wd) n)) 3 ch) 4 (sm (kptF d (r 0) Wd) n)) 5 (ch - (sm (kptF d (r 0) Wd) n))) 6 (sm (dueF Wd) n)) 7 pd) 8 (sm (prcF Wd) n)) (nI k).toNatClampNeg = (upd (upd (upd (upd (upd (upd (upd (upd (upd (fun _ => 0) 0 yr) 1 (nI n)) 2 (sm (alvF Wd) n)) 3 ch) 4 (sm (kptF d (r 0) Wd) n)) 5 (ch - (sm (kptF d (r 0) Wd) n))) 6 (sm (dueF Wd) n)) 7 pd) 8 (sm (prcF Wd) n)) k from congrArg (upd (upd (upd (upd (upd (upd (upd (upd (upd (fun _ => 0) 0 yr) 1 (nI n)) 2 (sm (alvF Wd) n)) 3 ch) 4 (sm (kptF d (r 0) Wd) n)) 5 (ch - (sm (kptF d (r 0) Wd) n))) 6 (sm (dueF Wd) n)) 7 pd) 8 (sm (prcF Wd) n)) (clamp_nI (by omega))]
    have hP9 : va_P (dC, dI) vwCl (si cI cV Y Ya V n d r ch pd yr Wd ++ R) _ := va_P_tl hP
    have hD9 : va_D A (si cI cV Y Ya V n d r ch pd yr Wd ++ R) := va_D_tl hD
    have hz : (upd (upd (upd (upd (upd (upd (upd (upd (upd (fun _ => 0) 0 yr) 1 (nI n)) 2 (sm (alvF Wd) n)) 3 ch) 4 (sm (kptF d (r 0) Wd) n)) 5 (ch - (sm (kptF d (r 0) Wd) n))) 6 (sm (dueF Wd) n)) 7 pd) 8 (sm (prcF Wd) n)) k = countS d r n ch pd (sm (prcF Wd) n) yr Wd k := by
      rcases (show k = 0 ∨ k = 1 ∨ k = 2 ∨ k = 3 ∨ k = 4 ∨ k = 5 ∨ k = 6 ∨ k = 7 ∨ k = 8 by omega) with rfl | rfl | rfl | rfl | rfl | rfl | rfl | rfl | rfl <;> rfl
    exact W.iret (v := ((upd (upd (upd (upd (upd (upd (upd (upd (upd (fun _ => 0) 0 yr) 1 (nI n)) 2 (sm (alvF Wd) n)) 3 ch) 4 (sm (kptF d (r 0) Wd) n)) 5 (ch - (sm (kptF d (r 0) Wd) n))) 6 (sm (dueF Wd) n)) 7 pd) 8 (sm (prcF Wd) n)) k)) hx hb hr (fun t ht hW => ⟨⟨_, (), rfl, hz, by rw [ht]; exact hP9, by rw [hAe]; exact hD9⟩, by rw [hAe]; exact hS.F ht⟩) hS.2.2 dX4_counted_171
  have key : ∀ (m9 j : Nat), j + m9 = n → ∀ ls : Array Slot, lv_has ls 9 [(7, .int (nI j)), (2, .int (sm (alvF Wd) j)), (3, .int (sm (dueF Wd) j)), (4, .int (sm (prcF Wd) j)), (6, .int (nI n)), (5, .ref Ya), (0, .ref (Y 0)), (1, .int (nI k))] → W p l e (headSpec wsX4_counted ({ frames := 3, cells := 1, slots := 9, locals := 71 })).room s m (([.ref (Y 0), .int (nI k)] : List Value).toArray) below meth c s.heap [] 0 0 (MQ below (Qi1 dC dI (fun z => z = countS d r n ch pd (sm (prcF Wd) n) yr Wd k) (si cI cV Y Ya V n d r ch pd yr Wd ++ R) (si cI cV Y Ya V n d r ch pd yr Wd ++ R) s.heap.size) ([.ref (Y 0), .int (nI k)] : List Value).toArray s 1 9 A) (F0 m 21 ls []) := by
    intro m9
    induction m9 with
    | zero =>
      intro j hj ls hl
      have hjn : j = n := by omega
      refine lv_iload hx hb dX4_counted_21 (lv_at hl 0 rfl) ?_
      refine lv_iload hx hb dX4_counted_23 (lv_at hl 4 rfl) ?_
      refine lv_icmp_ge (tgt := 95) hx hb dX4_counted_25 (by decide) (fun c_1 => ?_) (fun c_1 => ?_)
      · exact tail ls (hl_to (a := [(7, .int (nI j)), (2, .int (sm (alvF Wd) j)), (3, .int (sm (dueF Wd) j)), (4, .int (sm (prcF Wd) j)), (6, .int (nI n)), (5, .ref Ya), (0, .ref (Y 0)), (1, .int (nI k))]) (by rw [hjn]) (lv_sub hl [0, 1, 2, 3, 4, 5, 6, 7] rfl))
      · exact absurd (by rw [hjn]; exact Int32.le_refl _) c_1
    | succ m9 ih =>
      intro j hj ls hl
      have hjn : j < n := by omega
      refine lv_iload hx hb dX4_counted_21 (lv_at hl 0 rfl) ?_
      refine lv_iload hx hb dX4_counted_23 (lv_at hl 4 rfl) ?_
      refine lv_icmp_ge (tgt := 95) hx hb dX4_counted_25 (by decide) (fun c_1 => ?_) (fun c_1 => ?_)
      · exact absurd c_1 (fun q => absurd ((le_nI (by omega)).mp q) (by omega))
      · refine lv_aload hx hb dX4_counted_28 (lv_at hl 5 rfl) ?_
        refine lv_iload hx hb dX4_counted_30 (lv_at hl 0 rfl) ?_
        refine va_aldq hx hb hKV hP 3 0 rfl rfl (vp_in_nI hjn (by omega)) dX4_counted_32 ?_
        rw [show va_rf ((fun k => some (V k)) (nI j).toNatClampNeg) = .ref (V j) from by rw [clamp_nI (show j < 2147483648 by omega)]; rfl]
        refine lv_astore (lv' := [(8, .ref (V j)), (7, .int (nI j)), (2, .int (sm (alvF Wd) j)), (3, .int (sm (dueF Wd) j)), (4, .int (sm (prcF Wd) j)), (6, .int (nI n)), (5, .ref Ya), (0, .ref (Y 0)), (1, .int (nI k))]) hx hb dX4_counted_33 hl (by decide) rfl (fun ls hl => ?_)
        refine lv_iload_n hx hb dX4_counted_35 rfl (lv_at hl 2 rfl) ?_
        refine lv_aload hx hb dX4_counted_36 (lv_at hl 0 rfl) ?_
        refine va_get (D := (dC, dI)) (ci := 5) (v := .int (Wd j 4)) (C := RX5) (T := TX5) (N := 7) hx hb hts (by decide +kernel) hown hKK.1 hP (j + 4) (si_at hjn) rfl 4 (by decide) (hts (.fieldLink RX4 46 "WidowPenniesLaw$Widow" "state" "I") (by decide +kernel)) (fun _ h9 => h9) rfl dX4_counted_38 ?_
        refine lv_if_ne (tgt := 48) hx hb dX4_counted_41 (by decide) (fun c_2 => ?_) (fun c_2 => ?_)
        · have hal : ¬ Wd j 4 = 0 := c_2
          refine lv_iconst (v := 0) hx hb dX4_counted_48 (by decide) ?_
          refine lv_iadd hx hb dX4_counted_49 ?_
          rw [show ((sm (alvF Wd) j) + 0 : Int32) = sm (alvF Wd) (j + 1) from by simp [sm, alvF, hal]]
          refine lv_istore_n (lv' := [(2, .int (sm (alvF Wd) (j + 1))), (8, .ref (V j)), (7, .int (nI j)), (3, .int (sm (dueF Wd) j)), (4, .int (sm (prcF Wd) j)), (6, .int (nI n)), (5, .ref Ya), (0, .ref (Y 0)), (1, .int (nI k))]) hx hb dX4_counted_50 rfl hl (by decide) rfl (fun ls hl => ?_)
          refine lv_iload_n hx hb dX4_counted_51 rfl (lv_at hl 3 rfl) ?_
          refine lv_aload hx hb dX4_counted_52 (lv_at hl 1 rfl) ?_
          refine va_get (D := (dC, dI)) (ci := 5) (v := .int (Wd j 4)) (C := RX5) (T := TX5) (N := 7) hx hb hts (by decide +kernel) hown hKK.1 hP (j + 4) (si_at hjn) rfl 4 (by decide) (hts (.fieldLink RX4 46 "WidowPenniesLaw$Widow" "state" "I") (by decide +kernel)) (fun _ h9 => h9) rfl dX4_counted_54 ?_
          refine lv_if_ne (tgt := 76) hx hb dX4_counted_57 (by decide) (fun c_4 => ?_) (fun c_4 => ?_)
          · refine lv_iconst (v := 0) hx hb dX4_counted_76 (by decide) ?_
            refine lv_iadd hx hb dX4_counted_77 ?_
            rw [show ((sm (dueF Wd) j) + 0 : Int32) = sm (dueF Wd) (j + 1) from by simp [sm, dueF, hal]]
            refine lv_istore_n (lv' := [(3, .int (sm (dueF Wd) (j + 1))), (2, .int (sm (alvF Wd) (j + 1))), (8, .ref (V j)), (7, .int (nI j)), (4, .int (sm (prcF Wd) j)), (6, .int (nI n)), (5, .ref Ya), (0, .ref (Y 0)), (1, .int (nI k))]) hx hb dX4_counted_78 rfl hl (by decide) rfl (fun ls hl => ?_)
            refine lv_iload hx hb dX4_counted_79 (lv_at hl 4 rfl) ?_
            refine lv_aload hx hb dX4_counted_81 (lv_at hl 2 rfl) ?_
            refine va_get (D := (dC, dI)) (ci := 5) (v := .int (Wd j 6)) (C := RX5) (T := TX5) (N := 7) hx hb hts (by decide +kernel) hown hKK.1 hP (j + 4) (si_at hjn) rfl 6 (by decide) (hts (.fieldLink RX4 77 "WidowPenniesLaw$Widow" "price" "I") (by decide +kernel)) (fun _ h9 => h9) rfl dX4_counted_83 ?_
            refine lv_iadd hx hb dX4_counted_86 ?_
            rw [show ((sm (prcF Wd) j) + (Wd j 6) : Int32) = sm (prcF Wd) (j + 1) from rfl]
            refine lv_istore (lv' := [(4, .int (sm (prcF Wd) (j + 1))), (3, .int (sm (dueF Wd) (j + 1))), (2, .int (sm (alvF Wd) (j + 1))), (8, .ref (V j)), (7, .int (nI j)), (6, .int (nI n)), (5, .ref Ya), (0, .ref (Y 0)), (1, .int (nI k))]) hx hb dX4_counted_87 hl (by decide) rfl (fun ls hl => ?_)
            refine lv_iinc (v := (nI (j + 1))) (lv' := [(7, .int (nI (j + 1))), (4, .int (sm (prcF Wd) (j + 1))), (3, .int (sm (dueF Wd) (j + 1))), (2, .int (sm (alvF Wd) (j + 1))), (8, .ref (V j)), (6, .int (nI n)), (5, .ref Ya), (0, .ref (Y 0)), (1, .int (nI k))]) hx hb dX4_counted_89 hl (k := 4) rfl (nI_1 j) (by decide) rfl (fun ls hl => ?_)
            refine lv_goto (tgt := 21) hx hb dX4_counted_92 (by decide) ?_
            exact ih (j + 1) (by omega) ls (lv_sub hl [0, 3, 2, 1, 5, 6, 7, 8] rfl)
          · exact absurd c_4 hal
        · have hal : Wd j 4 = 0 := c_2
          refine lv_iconst (v := 1) hx hb dX4_counted_44 (by decide) ?_
          refine lv_goto (tgt := 49) hx hb dX4_counted_45 (by decide) ?_
          refine lv_iadd hx hb dX4_counted_49 ?_
          rw [show ((sm (alvF Wd) j) + 1 : Int32) = sm (alvF Wd) (j + 1) from by simp [sm, alvF, hal]]
          refine lv_istore_n (lv' := [(2, .int (sm (alvF Wd) (j + 1))), (8, .ref (V j)), (7, .int (nI j)), (3, .int (sm (dueF Wd) j)), (4, .int (sm (prcF Wd) j)), (6, .int (nI n)), (5, .ref Ya), (0, .ref (Y 0)), (1, .int (nI k))]) hx hb dX4_counted_50 rfl hl (by decide) rfl (fun ls hl => ?_)
          refine lv_iload_n hx hb dX4_counted_51 rfl (lv_at hl 3 rfl) ?_
          refine lv_aload hx hb dX4_counted_52 (lv_at hl 1 rfl) ?_
          refine va_get (D := (dC, dI)) (ci := 5) (v := .int (Wd j 4)) (C := RX5) (T := TX5) (N := 7) hx hb hts (by decide +kernel) hown hKK.1 hP (j + 4) (si_at hjn) rfl 4 (by decide) (hts (.fieldLink RX4 46 "WidowPenniesLaw$Widow" "state" "I") (by decide +kernel)) (fun _ h9 => h9) rfl dX4_counted_54 ?_
          refine lv_if_ne (tgt := 76) hx hb dX4_counted_57 (by decide) (fun c_8 => ?_) (fun c_8 => ?_)
          · exact absurd hal c_8
          · refine lv_aload hx hb dX4_counted_60 (lv_at hl 1 rfl) ?_
            refine va_get (D := (dC, dI)) (ci := 5) (v := .int (Wd j 2)) (C := RX5) (T := TX5) (N := 7) hx hb hts (by decide +kernel) hown hKK.1 hP (j + 4) (si_at hjn) rfl 2 (by decide) (hts (.fieldLink RX4 55 "WidowPenniesLaw$Widow" "waits" "I") (by decide +kernel)) (fun _ h9 => h9) rfl dX4_counted_62 ?_
            refine lv_if_ne (tgt := 76) hx hb dX4_counted_65 (by decide) (fun c_9 => ?_) (fun c_9 => ?_)
            · have hw : ¬ Wd j 2 = 0 := c_9
              refine lv_iconst (v := 0) hx hb dX4_counted_76 (by decide) ?_
              refine lv_iadd hx hb dX4_counted_77 ?_
              rw [show ((sm (dueF Wd) j) + 0 : Int32) = sm (dueF Wd) (j + 1) from by simp [sm, dueF, hal, hw]]
              refine lv_istore_n (lv' := [(3, .int (sm (dueF Wd) (j + 1))), (2, .int (sm (alvF Wd) (j + 1))), (8, .ref (V j)), (7, .int (nI j)), (4, .int (sm (prcF Wd) j)), (6, .int (nI n)), (5, .ref Ya), (0, .ref (Y 0)), (1, .int (nI k))]) hx hb dX4_counted_78 rfl hl (by decide) rfl (fun ls hl => ?_)
              refine lv_iload hx hb dX4_counted_79 (lv_at hl 4 rfl) ?_
              refine lv_aload hx hb dX4_counted_81 (lv_at hl 2 rfl) ?_
              refine va_get (D := (dC, dI)) (ci := 5) (v := .int (Wd j 6)) (C := RX5) (T := TX5) (N := 7) hx hb hts (by decide +kernel) hown hKK.1 hP (j + 4) (si_at hjn) rfl 6 (by decide) (hts (.fieldLink RX4 77 "WidowPenniesLaw$Widow" "price" "I") (by decide +kernel)) (fun _ h9 => h9) rfl dX4_counted_83 ?_
              refine lv_iadd hx hb dX4_counted_86 ?_
              rw [show ((sm (prcF Wd) j) + (Wd j 6) : Int32) = sm (prcF Wd) (j + 1) from rfl]
              refine lv_istore (lv' := [(4, .int (sm (prcF Wd) (j + 1))), (3, .int (sm (dueF Wd) (j + 1))), (2, .int (sm (alvF Wd) (j + 1))), (8, .ref (V j)), (7, .int (nI j)), (6, .int (nI n)), (5, .ref Ya), (0, .ref (Y 0)), (1, .int (nI k))]) hx hb dX4_counted_87 hl (by decide) rfl (fun ls hl => ?_)
              refine lv_iinc (v := (nI (j + 1))) (lv' := [(7, .int (nI (j + 1))), (4, .int (sm (prcF Wd) (j + 1))), (3, .int (sm (dueF Wd) (j + 1))), (2, .int (sm (alvF Wd) (j + 1))), (8, .ref (V j)), (6, .int (nI n)), (5, .ref Ya), (0, .ref (Y 0)), (1, .int (nI k))]) hx hb dX4_counted_89 hl (k := 4) rfl (nI_1 j) (by decide) rfl (fun ls hl => ?_)
              refine lv_goto (tgt := 21) hx hb dX4_counted_92 (by decide) ?_
              exact ih (j + 1) (by omega) ls (lv_sub hl [0, 3, 2, 1, 5, 6, 7, 8] rfl)
            · have hw : Wd j 2 = 0 := c_9
              refine lv_aload hx hb dX4_counted_68 (lv_at hl 1 rfl) ?_
              refine va_get (D := (dC, dI)) (ci := 5) (v := .int (Wd j 1)) (C := RX5) (T := TX5) (N := 7) hx hb hts (by decide +kernel) hown hKK.1 hP (j + 4) (si_at hjn) rfl 1 (by decide) (hts (.fieldLink RX4 49 "WidowPenniesLaw$Widow" "sum" "I") (by decide +kernel)) (fun _ h9 => h9) rfl dX4_counted_70 ?_
              refine lv_goto (tgt := 77) hx hb dX4_counted_73 (by decide) ?_
              refine lv_iadd hx hb dX4_counted_77 ?_
              rw [show ((sm (dueF Wd) j) + (Wd j 1) : Int32) = sm (dueF Wd) (j + 1) from by simp [sm, dueF, hal, hw]]
              refine lv_istore_n (lv' := [(3, .int (sm (dueF Wd) (j + 1))), (2, .int (sm (alvF Wd) (j + 1))), (8, .ref (V j)), (7, .int (nI j)), (4, .int (sm (prcF Wd) j)), (6, .int (nI n)), (5, .ref Ya), (0, .ref (Y 0)), (1, .int (nI k))]) hx hb dX4_counted_78 rfl hl (by decide) rfl (fun ls hl => ?_)
              refine lv_iload hx hb dX4_counted_79 (lv_at hl 4 rfl) ?_
              refine lv_aload hx hb dX4_counted_81 (lv_at hl 2 rfl) ?_
              refine va_get (D := (dC, dI)) (ci := 5) (v := .int (Wd j 6)) (C := RX5) (T := TX5) (N := 7) hx hb hts (by decide +kernel) hown hKK.1 hP (j + 4) (si_at hjn) rfl 6 (by decide) (hts (.fieldLink RX4 77 "WidowPenniesLaw$Widow" "price" "I") (by decide +kernel)) (fun _ h9 => h9) rfl dX4_counted_83 ?_
              refine lv_iadd hx hb dX4_counted_86 ?_
              rw [show ((sm (prcF Wd) j) + (Wd j 6) : Int32) = sm (prcF Wd) (j + 1) from rfl]
              refine lv_istore (lv' := [(4, .int (sm (prcF Wd) (j + 1))), (3, .int (sm (dueF Wd) (j + 1))), (2, .int (sm (alvF Wd) (j + 1))), (8, .ref (V j)), (7, .int (nI j)), (6, .int (nI n)), (5, .ref Ya), (0, .ref (Y 0)), (1, .int (nI k))]) hx hb dX4_counted_87 hl (by decide) rfl (fun ls hl => ?_)
              refine lv_iinc (v := (nI (j + 1))) (lv' := [(7, .int (nI (j + 1))), (4, .int (sm (prcF Wd) (j + 1))), (3, .int (sm (dueF Wd) (j + 1))), (2, .int (sm (alvF Wd) (j + 1))), (8, .ref (V j)), (6, .int (nI n)), (5, .ref Ya), (0, .ref (Y 0)), (1, .int (nI k))]) hx hb dX4_counted_89 hl (k := 4) rfl (nI_1 j) (by decide) rfl (fun ls hl => ?_)
              refine lv_goto (tgt := 21) hx hb dX4_counted_92 (by decide) ?_
              exact ih (j + 1) (by omega) ls (lv_sub hl [0, 3, 2, 1, 5, 6, 7, 8] rfl)
  refine lv_iconst (v := 0) hx hb dX4_counted_0 (by decide) ?_
  refine lv_istore_n (lv' := [(2, .int 0), (0, .ref (Y 0)), (1, .int (nI k))]) hx hb dX4_counted_1 rfl hl (by decide) rfl (fun ls hl => ?_)
  refine lv_iconst (v := 0) hx hb dX4_counted_2 (by decide) ?_
  refine lv_istore_n (lv' := [(3, .int 0), (2, .int 0), (0, .ref (Y 0)), (1, .int (nI k))]) hx hb dX4_counted_3 rfl hl (by decide) rfl (fun ls hl => ?_)
  refine lv_iconst (v := 0) hx hb dX4_counted_4 (by decide) ?_
  refine lv_istore (lv' := [(4, .int 0), (3, .int 0), (2, .int 0), (0, .ref (Y 0)), (1, .int (nI k))]) hx hb dX4_counted_5 hl (by decide) rfl (fun ls hl => ?_)
  refine lv_aload_n hx hb dX4_counted_7 rfl (lv_at hl 3 rfl) ?_
  refine va_get (D := (dC, dI)) (ci := 4) (v := .ref Ya) (C := RX4) (T := TX4) (N := 6) hx hb hts (by decide +kernel) hown hKK.1 hP 0 rfl rfl 5 (by decide) (hts (.fieldLink RX4 18 "WidowPenniesLaw$Sim" "all" "[LWidowPenniesLaw$Widow;") (by decide +kernel)) (fun _ h9 => h9) rfl dX4_counted_8 ?_
  refine lv_astore (lv' := [(5, .ref Ya), (4, .int 0), (3, .int 0), (2, .int 0), (0, .ref (Y 0)), (1, .int (nI k))]) hx hb dX4_counted_11 hl (by decide) rfl (fun ls hl => ?_)
  refine lv_aload hx hb dX4_counted_13 (lv_at hl 0 rfl) ?_
  refine va_alen (v := nI n) hx hb hKV hP 3 0 rfl rfl rfl dX4_counted_15 ?_
  refine lv_istore (lv' := [(6, .int (nI n)), (5, .ref Ya), (4, .int 0), (3, .int 0), (2, .int 0), (0, .ref (Y 0)), (1, .int (nI k))]) hx hb dX4_counted_16 hl (by decide) rfl (fun ls hl => ?_)
  refine lv_iconst (v := 0) hx hb dX4_counted_18 (by decide) ?_
  refine lv_istore (lv' := [(7, .int 0), (6, .int (nI n)), (5, .ref Ya), (4, .int 0), (3, .int 0), (2, .int 0), (0, .ref (Y 0)), (1, .int (nI k))]) hx hb dX4_counted_19 hl (by decide) rfl (fun ls hl => ?_)
  exact key n 0 (by omega) ls (lv_sub hl [0, 5, 4, 3, 1, 2, 6, 7] rfl)
