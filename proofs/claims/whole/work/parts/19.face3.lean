set_option maxHeartbeats 4000000 in
set_option maxRecDepth 100000 in
theorem met_X3_even (l : Launch) (dC : Nat → ClassId) (dI : Nat → Nat → Nat) (cI cW : ClassId) (X Bk Br : Nat → Nat) (d r : Nat → Int32) (n : Nat) (ch pd pr yr : Int32) (Wd : Nat → Nat → Int32) (n2 : Nat) (ch2 pd2 pr2 yr2 : Int32) (W2 : Nat → Nat → Int32) (R : va_W) (hn : n ≤ 10) (hok : ∀ k, k < n → okW (Wd k)) (hm : ∀ i : Nat, i < 200 → sm (kptF d (nI i) Wd) n ≤ ch → sm (kptF d (nI (i + 1)) Wd) n ≤ ch) : Met l yX3_even wsX3_even ({ frames := 5, cells := 0, slots := 0, locals := 113 }) (Pre0 dC dI cI cW [.ref (X 0)] (tab cI X d r ++ (bk cW X Bk n ch pd pr yr Wd ++ (bk cW X Br n2 ch2 pd2 pr2 yr2 W2 ++ (obj X Bk Br :: R))))) (vp_Si (fun z => z = evR (evS d n ch Wd))) 0 0 (fun _ => False) := by
  refine Met.ofW (cc := cX3_even) (maxL := 4) (ret := (some .int)) (by decide) rfl ?_
  intro p e s m args below meth c s₁ B hml hv
  obtain ⟨rfl, hP, hKK⟩ := hv
  have hx := B.exec
  have hb := B.bytes
  have hr := B.returns
  have hts := atoms_spec (ws := wsX3_even) B.pre
  have hown : s.vm.findClass RX3 = some m.cls := findClass_of_methodNamed B.named
  have hlocks := B.notSynchronized
  have hl := lv_entry ([.ref (X 0)]) (n := 4) (Nat.le_of_ble_eq_true rfl)
  rw [lg_entry_eq]
  generalize (lg_sl ([.ref (X 0)]) ++ List.replicate (4 - (lg_sl ([.ref (X 0)])).length) Slot.unset).toArray = ls at hl ⊢
  have hl : lv_has ls 4 [(0, .ref (X 0))] := hl
  have hE : evS d n ch Wd ≤ 201 := evS_rng d n ch Wd
  have key : ∀ (q g : Nat), q ≤ 8 → g ≤ evS d n ch Wd → evS d n ch Wd < g + 2 ^ q → ∀ ls : Array Slot, lv_has ls 4 [(2, .int (nI (2 ^ q / 2))), (1, .int (nI g - 1)), (0, .ref (X 0))] → W p l e (headSpec wsX3_even ({ frames := 5, cells := 0, slots := 0, locals := 113 })).room s m (([.ref (X 0)] : List Value).toArray) below meth c s.heap [] 0 0 (MQ below (vp_Si (fun z => z = evR (evS d n ch Wd))) ([.ref (X 0)] : List Value).toArray s 0 0 (fun _ => False)) (F0 m 6 ls []) := by
    intro q
    induction q with
    | zero =>
      intro g hq h1 h2 ls hl
      have hg : g = evS d n ch Wd := by rw [Nat.pow_zero] at h2; omega
      refine lv_iload_n hx hb dX3_even_6 rfl (lv_at hl 0 rfl) ?_
      refine lv_if_le (tgt := 48) hx hb dX3_even_7 (by decide) (fun c_1 => ?_) (fun c_1 => ?_)
      · refine lv_iload_n hx hb dX3_even_48 rfl (lv_at hl 1 rfl) ?_
        refine lv_sipush (v := 200) hx hb dX3_even_49 (by decide) ?_
        refine lv_icmp_ne (tgt := 59) hx hb dX3_even_52 (by decide) (fun c_2 => ?_) (fun c_2 => ?_)
        · refine lv_iload_n hx hb dX3_even_59 rfl (lv_at hl 1 rfl) ?_
          refine lv_iconst (v := 1) hx hb dX3_even_60 (by decide) ?_
          refine lv_iadd hx hb dX3_even_61 ?_
          have hz : ((nI g - 1) + 1) = evR (evS d n ch Wd) := by rw [← hg, evR, if_neg (ev_n201 c_2), Int32.sub_add_cancel]
          exact W.iret (v := ((nI g - 1) + 1)) hx hb hr (fun t ht hW => ⟨_, rfl, hz, ht⟩) (fun q hq => absurd hq List.not_mem_nil) dX3_even_62
        · refine lv_iconst (v := (-1)) hx hb dX3_even_55 (by decide) ?_
          refine lv_goto (tgt := 62) hx hb dX3_even_56 (by decide) ?_
          have hz : ((-1)) = evR (evS d n ch Wd) := by rw [← hg, evR, if_pos (ev_201 (by omega) c_2)]
          exact W.iret (v := (-1)) hx hb hr (fun t ht hW => ⟨_, rfl, hz, ht⟩) (fun q hq => absurd hq List.not_mem_nil) dX3_even_62
      · exact absurd (by decide) c_1
    | succ q ih =>
      intro g hq h1 h2 ls hl
      have hp : 2 ^ q ≤ 128 := Nat.le_trans (Nat.pow_le_pow_right (by omega) (show q ≤ 7 by omega)) (by decide)
      have hp0 : 0 < 2 ^ q := Nat.pow_pos (by omega)
      have hp2 : 2 ^ (q + 1) / 2 = 2 ^ q := by rw [Nat.pow_succ]; omega
      have hp3 : 2 ^ (q + 1) = 2 ^ q + 2 ^ q := by rw [Nat.pow_succ]; omega
      rw [hp2] at hl
      rw [hp3] at h2
      refine lv_iload_n hx hb dX3_even_6 rfl (lv_at hl 0 rfl) ?_
      refine lv_if_le (tgt := 48) hx hb dX3_even_7 (by decide) (fun c_1 => ?_) (fun c_1 => ?_)
      · exact absurd c_1 (nI_nle hp0 (by omega))
      · refine lv_iload_n hx hb dX3_even_10 rfl (lv_at hl 1 rfl) ?_
        refine lv_iload_n hx hb dX3_even_11 rfl (lv_at hl 0 rfl) ?_
        refine lv_iadd hx hb dX3_even_12 ?_
        rw [show ((nI g - 1) + (nI (2 ^ q)) : Int32) = nI (g + 2 ^ q - 1) from ev_add hp0]
        refine lv_istore_n (lv' := [(3, .int (nI (g + 2 ^ q - 1))), (2, .int (nI (2 ^ q))), (1, .int (nI g - 1)), (0, .ref (X 0))]) hx hb dX3_even_13 rfl hl (by decide) rfl (fun ls hl => ?_)
        refine lv_iload_n hx hb dX3_even_14 rfl (lv_at hl 0 rfl) ?_
        refine lv_sipush (v := 200) hx hb dX3_even_15 (by decide) ?_
        refine lv_icmp_gt (tgt := 41) hx hb dX3_even_18 (by decide) (fun c_3 => ?_) (fun c_3 => ?_)
        · have hgt : 200 < g + 2 ^ q - 1 := (lt_nI (a := 200) (by omega)).mp c_3
          refine lv_iload_n hx hb dX3_even_41 rfl (lv_at hl 1 rfl) ?_
          refine lv_iconst (v := 2) hx hb dX3_even_42 (by decide) ?_
          refine lv_idiv hx hb dX3_even_43 (by decide) ?_
          rw [show ((nI (2 ^ q)) / 2 : Int32) = nI (2 ^ q / 2) from pk_div (d := 2) (by omega) (by omega) (by omega)]
          refine lv_istore_n (lv' := [(2, .int (nI (2 ^ q / 2))), (3, .int (nI (g + 2 ^ q - 1))), (1, .int (nI g - 1)), (0, .ref (X 0))]) hx hb dX3_even_44 rfl hl (by decide) rfl (fun ls hl => ?_)
          refine lv_goto (tgt := 6) hx hb dX3_even_45 (by decide) ?_
          exact ih g (by omega) h1 (by omega) ls (lv_sub hl [0, 2, 3] rfl)
        · have hle9 : g + 2 ^ q - 1 ≤ 200 := Nat.not_lt.mp (fun q9 => c_3 ((lt_nI (a := 200) (by omega)).mpr q9))
          have hh9 := hi_of (in_200 hle9)
          refine lv_aload_n hx hb dX3_even_21 rfl (lv_at hl 3 rfl) ?_
          refine va_get (D := (dC, dI)) (ci := 3) (v := .ref (Bk 0)) (C := RX3) (T := TX3) (N := 3) hx hb hts (by decide +kernel) hown hKK.1 hP 27 cw_obj rfl 1 (by decide) (hts (.fieldLink RX3 21 "WidowPennies" "book" "LWidowPennies$Book;") (by decide +kernel)) (fun _ h9 => h9) rfl dX3_even_22 ?_
          refine lv_iload_n hx hb dX3_even_25 rfl (lv_at hl 0 rfl) ?_
          refine rd_i (runV0 (As := [.int (nI (g + 2 ^ q - 1))]) (rest := []) ⟨hx, hb, hml, hown, hts⟩ (met_X0_keptForAll l dC dI cI cW X Bk d r n ch pd pr yr Wd (bk cW X Br n2 ch2 pd2 pr2 yr2 W2 ++ (obj X Bk Br :: R)) hn hok (nI (g + 2 ^ q - 1)) hh9.1 hh9.2) (cwV 1 hts gX3_even_X0_keptForAll rfl rfl rfl (by decide +kernel) ⟨Nat.le_of_ble_eq_true rfl, Nat.le_of_ble_eq_true rfl⟩) hKK hP 0 3 rfl rfl rfl hl.1 (Nat.le_of_ble_eq_true rfl) rfl dX3_even_26 ⟨Nat.zero_le _, Nat.zero_le _⟩) (fun r_5 hr_5 => ?_)
          subst hr_5
          refine lv_aload_n hx hb dX3_even_29 rfl (lv_at hl 3 rfl) ?_
          refine va_get (D := (dC, dI)) (ci := 3) (v := .ref (Bk 0)) (C := RX3) (T := TX3) (N := 3) hx hb hts (by decide +kernel) hown hKK.1 hP 27 cw_obj rfl 1 (by decide) (hts (.fieldLink RX3 21 "WidowPennies" "book" "LWidowPennies$Book;") (by decide +kernel)) (fun _ h9 => h9) rfl dX3_even_30 ?_
          refine va_get (D := (dC, dI)) (ci := 0) (v := .int ch) (C := RX0) (T := TX0) (N := 7) hx hb hts (by decide +kernel) hown hKK.1 hP 3 rfl rfl 3 (by decide) (hts (.fieldLink RX3 137 "WidowPennies$Book" "chest" "I") (by decide +kernel)) (fun _ h9 => h9) rfl dX3_even_33 ?_
          refine lv_icmp_le (tgt := 41) hx hb dX3_even_36 (by decide) (fun c_6 => ?_) (fun c_6 => ?_)
          · have hgt : evS d n ch Wd ≤ g + 2 ^ q - 1 := evS_le c_6
            refine lv_iload_n hx hb dX3_even_41 rfl (lv_at hl 1 rfl) ?_
            refine lv_iconst (v := 2) hx hb dX3_even_42 (by decide) ?_
            refine lv_idiv hx hb dX3_even_43 (by decide) ?_
            rw [show ((nI (2 ^ q)) / 2 : Int32) = nI (2 ^ q / 2) from pk_div (d := 2) (by omega) (by omega) (by omega)]
            refine lv_istore_n (lv' := [(2, .int (nI (2 ^ q / 2))), (3, .int (nI (g + 2 ^ q - 1))), (1, .int (nI g - 1)), (0, .ref (X 0))]) hx hb dX3_even_44 rfl hl (by decide) rfl (fun ls hl => ?_)
            refine lv_goto (tgt := 6) hx hb dX3_even_45 (by decide) ?_
            exact ih g (by omega) h1 (by omega) ls (lv_sub hl [0, 2, 3] rfl)
          · have hlt9 : g + 2 ^ q - 1 < evS d n ch Wd := evS_gt hm hle9 c_6
            have hle : g + 2 ^ q ≤ evS d n ch Wd := by omega
            refine lv_iload_n hx hb dX3_even_39 rfl (lv_at hl 0 rfl) ?_
            refine lv_istore_n (lv' := [(1, .int (nI (g + 2 ^ q - 1))), (3, .int (nI (g + 2 ^ q - 1))), (2, .int (nI (2 ^ q))), (0, .ref (X 0))]) hx hb dX3_even_40 rfl hl (by decide) rfl (fun ls hl => ?_)
            refine lv_iload_n hx hb dX3_even_41 rfl (lv_at hl 2 rfl) ?_
            refine lv_iconst (v := 2) hx hb dX3_even_42 (by decide) ?_
            refine lv_idiv hx hb dX3_even_43 (by decide) ?_
            rw [show ((nI (2 ^ q)) / 2 : Int32) = nI (2 ^ q / 2) from pk_div (d := 2) (by omega) (by omega) (by omega)]
            refine lv_istore_n (lv' := [(2, .int (nI (2 ^ q / 2))), (1, .int (nI (g + 2 ^ q - 1))), (3, .int (nI (g + 2 ^ q - 1))), (0, .ref (X 0))]) hx hb dX3_even_44 rfl hl (by decide) rfl (fun ls hl => ?_)
            refine lv_goto (tgt := 6) hx hb dX3_even_45 (by decide) ?_
            have e1 : nI (g + 2 ^ q) - 1 = nI (g + 2 ^ q - 1) := by rw [show (1 : Int32) = nI 1 from rfl, n_sub (by omega)]
            exact ih (g + 2 ^ q) (by omega) hle (by omega) ls (hl_to (by rw [e1]; rfl) (lv_sub hl [0, 1, 3] rfl))
  refine lv_iconst (v := (-1)) hx hb dX3_even_0 (by decide) ?_
  refine lv_istore_n (lv' := [(1, .int (-1)), (0, .ref (X 0))]) hx hb dX3_even_1 rfl hl (by decide) rfl (fun ls hl => ?_)
  refine lv_sipush (v := 128) hx hb dX3_even_2 (by decide) ?_
  refine lv_istore_n (lv' := [(2, .int 128), (1, .int (-1)), (0, .ref (X 0))]) hx hb dX3_even_5 rfl hl (by decide) rfl (fun ls hl => ?_)
  exact key 8 0 (by omega) (Nat.zero_le _) (by omega) ls (lv_sub hl [0, 1, 2] rfl)
set_option maxHeartbeats 4000000 in
set_option maxRecDepth 100000 in
theorem met_X3_digest (l : Launch) (dC : Nat → ClassId) (dI : Nat → Nat → Nat) (cI cW : ClassId) (X Bk Br : Nat → Nat) (d r : Nat → Int32) (n : Nat) (ch pd pr yr : Int32) (Wd : Nat → Nat → Int32) (n2 : Nat) (ch2 pd2 pr2 yr2 : Int32) (W2 : Nat → Nat → Int32) (R : va_W) (hn : n ≤ 10) (hok : ∀ k, k < n → okW (Wd k)) (hi : ¬ (1000 : Int32) + r 0 = 0) (hi0 : ¬ r 0 < 0) : Met l yX3_digest wsX3_digest ({ frames := 7, cells := 0, slots := 0, locals := 155 }) (Pre0 dC dI cI cW [.ref (X 0)] (tab cI X d r ++ (bk cW X Bk n ch pd pr yr Wd ++ (bk cW X Br n2 ch2 pd2 pr2 yr2 W2 ++ (obj X Bk Br :: R))))) (vp_Sl (fun z => z = digO d r Wd (digF d (digF r (digF (fun k => countS d r n ch pd pr yr Wd k) 1667 9) 3) 50) n)) 0 0 (fun _ => False) := by
  refine Met.ofW (cc := cX3_digest) (maxL := 5) (ret := (some .long)) (by decide) rfl ?_
  intro p e s m args below meth c s₁ B hml hv
  obtain ⟨rfl, hP, hKK⟩ := hv
  have hx := B.exec
  have hb := B.bytes
  have hr := B.returns
  have hts := atoms_spec (ws := wsX3_digest) B.pre
  have hown : s.vm.findClass RX3 = some m.cls := findClass_of_methodNamed B.named
  have hlocks := B.notSynchronized
  have hl := lv_entry ([.ref (X 0)]) (n := 5) (Nat.le_of_ble_eq_true rfl)
  rw [lg_entry_eq]
  generalize (lg_sl ([.ref (X 0)]) ++ List.replicate (5 - (lg_sl ([.ref (X 0)])).length) Slot.unset).toArray = ls at hl ⊢
  have hl : lv_has ls 5 [(0, .ref (X 0))] := hl
  have hrx : ∃ x3 : Int64, x3 = digF d (digF r (digF (fun k => countS d r n ch pd pr yr Wd k) 1667 9) 3) 50 := ⟨_, rfl⟩
  obtain ⟨x3, ex3⟩ := hrx
  have keyW : ∀ (m9 j : Nat), j + m9 = n → ∀ ls : Array Slot, lv_has ls 5 [(3, .int (nI j)), (1, .long (digO d r Wd x3 j)), (0, .ref (X 0))] → W p l e (headSpec wsX3_digest ({ frames := 7, cells := 0, slots := 0, locals := 155 })).room s m (([.ref (X 0)] : List Value).toArray) below meth c s.heap [] 0 0 (MQ below (vp_Sl (fun z => z = digO d r Wd (digF d (digF r (digF (fun k => countS d r n ch pd pr yr Wd k) 1667 9) 3) 50) n)) ([.ref (X 0)] : List Value).toArray s 0 0 (fun _ => False)) (F0 m 96 ls []) := by
    intro m9
    induction m9 with
    | zero =>
      intro j hj ls hl
      refine lv_iload_n hx hb dX3_digest_96 rfl (lv_at hl 0 rfl) ?_
      refine lv_aload_n hx hb dX3_digest_97 rfl (lv_at hl 2 rfl) ?_
      refine va_get (D := (dC, dI)) (ci := 3) (v := .ref (Bk 0)) (C := RX3) (T := TX3) (N := 3) hx hb hts (by decide +kernel) hown hKK.1 hP 27 cw_obj rfl 1 (by decide) (hts (.fieldLink RX3 21 "WidowPennies" "book" "LWidowPennies$Book;") (by decide +kernel)) (fun _ h9 => h9) rfl dX3_digest_98 ?_
      refine va_get (D := (dC, dI)) (ci := 0) (v := .int (nI n)) (C := RX0) (T := TX0) (N := 7) hx hb hts (by decide +kernel) hown hKK.1 hP 3 rfl rfl 2 (by decide) (hts (.fieldLink RX3 191 "WidowPennies$Book" "written" "I") (by decide +kernel)) (fun _ h9 => h9) rfl dX3_digest_101 ?_
      refine lv_icmp_ge (tgt := 154) hx hb dX3_digest_104 (by decide) (fun c_1 => ?_) (fun c_1 => ?_)
      · refine lv_lload_n hx hb dX3_digest_154 rfl (lv_at hl 1 rfl) ?_
        have hz : (digO d r Wd x3 j) = digO d r Wd (digF d (digF r (digF (fun k => countS d r n ch pd pr yr Wd k) 1667 9) 3) 50) n := by rw [← ex3, show j = n by omega]
        exact W.lret (v := (digO d r Wd x3 j)) hx hb hr (fun t ht hW => ⟨_, rfl, hz, ht⟩) (fun q hq => absurd hq List.not_mem_nil) dX3_digest_155
      · exact absurd ((le_nI (by omega)).mpr (by omega)) c_1
    | succ m9 ih =>
      intro j hj ls hl
      have hk10 : j < 10 := by omega
      have inner : ∀ (q f : Nat), f + q = 9 → ∀ ls : Array Slot, lv_has ls 5 [(4, .int (nI f)), (3, .int (nI j)), (1, .long (digF (fun f => tellS d r (Wd j) f) (digO d r Wd x3 j) f)), (0, .ref (X 0))] → W p l e (headSpec wsX3_digest ({ frames := 7, cells := 0, slots := 0, locals := 155 })).room s m (([.ref (X 0)] : List Value).toArray) below meth c s.heap [] 0 0 (MQ below (vp_Sl (fun z => z = digO d r Wd (digF d (digF r (digF (fun k => countS d r n ch pd pr yr Wd k) 1667 9) 3) 50) n)) ([.ref (X 0)] : List Value).toArray s 0 0 (fun _ => False)) (F0 m 110 ls []) := by
        intro q
        induction q with
        | zero =>
          intro f hf ls hl
          have hf9 : f = 9 := by omega
          subst hf9
          refine lv_iload hx hb dX3_digest_110 (lv_at hl 0 rfl) ?_
          refine lv_bipush (v := 9) hx hb dX3_digest_112 (by decide) ?_
          refine lv_icmp_ge (tgt := 148) hx hb dX3_digest_114 (by decide) (fun c_1 => ?_) (fun c_1 => ?_)
          · refine lv_iinc (v := (nI (j + 1))) (lv' := [(3, .int (nI (j + 1))), (4, .int (nI 9)), (1, .long (digF (fun f => tellS d r (Wd j) f) (digO d r Wd x3 j) 9)), (0, .ref (X 0))]) hx hb dX3_digest_148 hl (k := 1) rfl (nI_1 j) (by decide) rfl (fun ls hl => ?_)
            refine lv_goto (tgt := 96) hx hb dX3_digest_151 (by decide) ?_
            exact ih (j + 1) (by omega) ls (lv_sub hl [0, 2, 3] rfl)
          · exact absurd (by decide) c_1
        | succ q ih2 =>
          intro f hf ls hl
          refine lv_iload hx hb dX3_digest_110 (lv_at hl 0 rfl) ?_
          refine lv_bipush (v := 9) hx hb dX3_digest_112 (by decide) ?_
          refine lv_icmp_ge (tgt := 148) hx hb dX3_digest_114 (by decide) (fun c_1 => ?_) (fun c_1 => ?_)
          · exact absurd c_1 (fun q9 => absurd ((le_nI (a := 9) (by omega)).mp q9) (by omega))
          · refine lv_lload_n hx hb dX3_digest_117 rfl (lv_at hl 2 rfl) ?_
            refine lv_ldc2 (v := 31) hx hb hown (hts (.constantLong RX3 189 31) (by decide +kernel)) dX3_digest_118 ?_
            refine lv_lmul hx hb dX3_digest_121 ?_
            refine lv_aload_n hx hb dX3_digest_122 rfl (lv_at hl 3 rfl) ?_
            refine va_get (D := (dC, dI)) (ci := 3) (v := .ref (X 1)) (C := RX3) (T := TX3) (N := 3) hx hb hts (by decide +kernel) hown hKK.1 hP 27 cw_obj rfl 0 (by decide) (hts (.fieldLink RX3 12 "WidowPennies" "tables" "LWidowPennies$Tables;") (by decide +kernel)) (fun _ h9 => h9) rfl dX3_digest_123 ?_
            refine lv_aload_n hx hb dX3_digest_126 rfl (lv_at hl 3 rfl) ?_
            refine va_get (D := (dC, dI)) (ci := 3) (v := .ref (Bk 0)) (C := RX3) (T := TX3) (N := 3) hx hb hts (by decide +kernel) hown hKK.1 hP 27 cw_obj rfl 1 (by decide) (hts (.fieldLink RX3 21 "WidowPennies" "book" "LWidowPennies$Book;") (by decide +kernel)) (fun _ h9 => h9) rfl dX3_digest_127 ?_
            refine lv_iload_n hx hb dX3_digest_130 rfl (lv_at hl 1 rfl) ?_
            refine rd_r (runV0 (As := [.int (nI j)]) (rest := [.ref (X 1), .long ((digF (fun f => tellS d r (Wd j) f) (digO d r Wd x3 j) f) * 31)]) ⟨hx, hb, hml, hown, hts⟩ (met_X0_widowAt l dC dI cI cW X Bk n ch pd pr yr Wd j hk10) (cwV 1 hts gX3_digest_X0_widowAt rfl rfl rfl (by decide +kernel) ⟨Nat.le_of_ble_eq_true rfl, Nat.le_of_ble_eq_true rfl⟩) hKK (ws_left (ws_right hP)) 0 0 rfl rfl rfl hl.1 (Nat.le_of_ble_eq_true rfl) rfl dX3_digest_131 ⟨Nat.zero_le _, Nat.zero_le _⟩) (fun r_2 hr_2 => ?_)
            subst hr_2
            refine lv_iload hx hb dX3_digest_134 (lv_at hl 0 rfl) ?_
            refine rd_i (runV0 (As := [.ref (Bk (j + 2)), .int (nI f)]) (rest := [.long ((digF (fun f => tellS d r (Wd j) f) (digO d r Wd x3 j) f) * 31)]) ⟨hx, hb, hml, hown, hts⟩ (met_X1_tellOf l dC dI cI cW X d r (Bk (j + 2)) (Wd j) (hok j (by omega)) hi hi0 f (by omega)) (cwV 2 hts gX3_digest_X1_tellOf rfl rfl rfl (by decide +kernel) ⟨Nat.le_of_ble_eq_true rfl, Nat.le_of_ble_eq_true rfl⟩) hKK ((ws_left hP).app (ws_one hP (bw_at hk10))) 1 0 rfl rfl rfl hl.1 (Nat.le_of_ble_eq_true rfl) rfl dX3_digest_136 ⟨Nat.zero_le _, Nat.zero_le _⟩) (fun r_3 hr_3 => ?_)
            subst hr_3
            refine lv_i2l hx hb dX3_digest_139 rfl ?_
            refine lv_ladd hx hb dX3_digest_140 ?_
            rw [show (((digF (fun f => tellS d r (Wd j) f) (digO d r Wd x3 j) f) * 31) + ((tellS d r (Wd j) f).toInt64) : Int64) = digF (fun f => tellS d r (Wd j) f) (digO d r Wd x3 j) (f + 1) from rfl]
            refine lv_lstore_n (lv' := [(1, .long (digF (fun f => tellS d r (Wd j) f) (digO d r Wd x3 j) (f + 1))), (4, .int (nI f)), (3, .int (nI j)), (0, .ref (X 0))]) hx hb dX3_digest_141 rfl hl (by decide) rfl (fun ls hl => ?_)
            refine lv_iinc (v := (nI (f + 1))) (lv' := [(4, .int (nI (f + 1))), (1, .long (digF (fun f => tellS d r (Wd j) f) (digO d r Wd x3 j) (f + 1))), (3, .int (nI j)), (0, .ref (X 0))]) hx hb dX3_digest_142 hl (k := 1) rfl (nI_1 f) (by decide) rfl (fun ls hl => ?_)
            refine lv_goto (tgt := 110) hx hb dX3_digest_145 (by decide) ?_
            exact ih2 (f + 1) (by omega) ls (lv_sub hl [0, 2, 1, 3] rfl)
      refine lv_iload_n hx hb dX3_digest_96 rfl (lv_at hl 0 rfl) ?_
      refine lv_aload_n hx hb dX3_digest_97 rfl (lv_at hl 2 rfl) ?_
      refine va_get (D := (dC, dI)) (ci := 3) (v := .ref (Bk 0)) (C := RX3) (T := TX3) (N := 3) hx hb hts (by decide +kernel) hown hKK.1 hP 27 cw_obj rfl 1 (by decide) (hts (.fieldLink RX3 21 "WidowPennies" "book" "LWidowPennies$Book;") (by decide +kernel)) (fun _ h9 => h9) rfl dX3_digest_98 ?_
      refine va_get (D := (dC, dI)) (ci := 0) (v := .int (nI n)) (C := RX0) (T := TX0) (N := 7) hx hb hts (by decide +kernel) hown hKK.1 hP 3 rfl rfl 2 (by decide) (hts (.fieldLink RX3 191 "WidowPennies$Book" "written" "I") (by decide +kernel)) (fun _ h9 => h9) rfl dX3_digest_101 ?_
      refine lv_icmp_ge (tgt := 154) hx hb dX3_digest_104 (by decide) (fun c_1 => ?_) (fun c_1 => ?_)
      · exact absurd c_1 (fun q9 => absurd ((le_nI (by omega)).mp q9) (by omega))
      · refine lv_iconst (v := 0) hx hb dX3_digest_107 (by decide) ?_
        refine lv_istore (lv' := [(4, .int 0), (3, .int (nI j)), (1, .long (digO d r Wd x3 j)), (0, .ref (X 0))]) hx hb dX3_digest_108 hl (by decide) rfl (fun ls hl => ?_)
        exact inner 9 0 (by omega) ls (lv_sub hl [0, 1, 2, 3] rfl)
  have keyA : ∀ (m9 j : Nat), j + m9 = 50 → ∀ ls : Array Slot, lv_has ls 5 [(3, .int (nI (50 + j))), (1, .long (digF d (digF r (digF (fun k => countS d r n ch pd pr yr Wd k) 1667 9) 3) j)), (0, .ref (X 0))] → W p l e (headSpec wsX3_digest ({ frames := 7, cells := 0, slots := 0, locals := 155 })).room s m (([.ref (X 0)] : List Value).toArray) below meth c s.heap [] 0 0 (MQ below (vp_Sl (fun z => z = digO d r Wd (digF d (digF r (digF (fun k => countS d r n ch pd pr yr Wd k) 1667 9) 3) 50) n)) ([.ref (X 0)] : List Value).toArray s 0 0 (fun _ => False)) (F0 m 66 ls []) := by
    intro m9
    induction m9 with
    | zero =>
      intro j hj ls hl
      have hjN : j = 50 := by omega
      subst hjN
      refine lv_iload_n hx hb dX3_digest_66 rfl (lv_at hl 0 rfl) ?_
      refine lv_bipush (v := 99) hx hb dX3_digest_67 (by decide) ?_
      refine lv_icmp_gt (tgt := 94) hx hb dX3_digest_69 (by decide) (fun c_1 => ?_) (fun c_1 => ?_)
      · refine lv_iconst (v := 0) hx hb dX3_digest_94 (by decide) ?_
        refine lv_istore_n (lv' := [(3, .int 0), (1, .long (digF d (digF r (digF (fun k => countS d r n ch pd pr yr Wd k) 1667 9) 3) 50)), (0, .ref (X 0))]) hx hb dX3_digest_95 rfl hl (by decide) rfl (fun ls hl => ?_)
        exact keyW n 0 (by omega) ls (hl_to (by rw [ex3]; rfl) (lv_sub hl [0, 1, 2] rfl))
      · exact absurd (by decide) c_1
    | succ m9 ih =>
      intro j hj ls hl
      refine lv_iload_n hx hb dX3_digest_66 rfl (lv_at hl 0 rfl) ?_
      refine lv_bipush (v := 99) hx hb dX3_digest_67 (by decide) ?_
      refine lv_icmp_gt (tgt := 94) hx hb dX3_digest_69 (by decide) (fun c_1 => ?_) (fun c_1 => ?_)
      · exact absurd c_1 (fun q9 => absurd ((lt_nI (a := 99) (by omega)).mp q9) (by omega))
      · refine lv_lload_n hx hb dX3_digest_72 rfl (lv_at hl 1 rfl) ?_
        refine lv_ldc2 (v := 31) hx hb hown (hts (.constantLong RX3 189 31) (by decide +kernel)) dX3_digest_73 ?_
        refine lv_lmul hx hb dX3_digest_76 ?_
        refine lv_aload_n hx hb dX3_digest_77 rfl (lv_at hl 2 rfl) ?_
        refine va_get (D := (dC, dI)) (ci := 3) (v := .ref (X 1)) (C := RX3) (T := TX3) (N := 3) hx hb hts (by decide +kernel) hown hKK.1 hP 27 cw_obj rfl 0 (by decide) (hts (.fieldLink RX3 12 "WidowPennies" "tables" "LWidowPennies$Tables;") (by decide +kernel)) (fun _ h9 => h9) rfl dX3_digest_78 ?_
        refine lv_iload_n hx hb dX3_digest_81 rfl (lv_at hl 0 rfl) ?_
        refine rd_i (runV0 (As := [.int (nI (50 + j))]) (rest := [.long ((digF d (digF r (digF (fun k => countS d r n ch pd pr yr Wd k) 1667 9) 3) j) * 31)]) ⟨hx, hb, hml, hown, hts⟩ (met_X1_deathsAt l dC dI cI cW X d r (nI (50 + j))) (cwV 1 hts gX3_digest_X1_deathsAt rfl rfl rfl (by decide +kernel) ⟨Nat.le_of_ble_eq_true rfl, Nat.le_of_ble_eq_true rfl⟩) hKK (ws_left hP) 1 0 rfl rfl rfl hl.1 (Nat.le_of_ble_eq_true rfl) rfl dX3_digest_82 ⟨Nat.zero_le _, Nat.zero_le _⟩) (fun r_2 hr_2 => ?_)
        subst hr_2
        rw [show (dAt d (nI (50 + j)) : Int32) = d j from by rw [dAt_nI d (by omega) (by omega), Nat.add_sub_cancel_left]]
        refine lv_i2l hx hb dX3_digest_85 rfl ?_
        refine lv_ladd hx hb dX3_digest_86 ?_
        rw [show (((digF d (digF r (digF (fun k => countS d r n ch pd pr yr Wd k) 1667 9) 3) j) * 31) + ((d j).toInt64) : Int64) = digF d (digF r (digF (fun k => countS d r n ch pd pr yr Wd k) 1667 9) 3) (j + 1) from rfl]
        refine lv_lstore_n (lv' := [(1, .long (digF d (digF r (digF (fun k => countS d r n ch pd pr yr Wd k) 1667 9) 3) (j + 1))), (3, .int (nI (50 + j))), (0, .ref (X 0))]) hx hb dX3_digest_87 rfl hl (by decide) rfl (fun ls hl => ?_)
        refine lv_iinc (v := (nI (50 + (j + 1)))) (lv' := [(3, .int (nI (50 + (j + 1)))), (1, .long (digF d (digF r (digF (fun k => countS d r n ch pd pr yr Wd k) 1667 9) 3) (j + 1))), (0, .ref (X 0))]) hx hb dX3_digest_88 hl (k := 1) rfl (nI_1 (50 + j)) (by decide) rfl (fun ls hl => ?_)
        refine lv_goto (tgt := 66) hx hb dX3_digest_91 (by decide) ?_
        exact ih (j + 1) (by omega) ls (lv_sub hl [0, 1, 2] rfl)
  have keyR : ∀ (m9 j : Nat), j + m9 = 3 → ∀ ls : Array Slot, lv_has ls 5 [(3, .int (nI j)), (1, .long (digF r (digF (fun k => countS d r n ch pd pr yr Wd k) 1667 9) j)), (0, .ref (X 0))] → W p l e (headSpec wsX3_digest ({ frames := 7, cells := 0, slots := 0, locals := 155 })).room s m (([.ref (X 0)] : List Value).toArray) below meth c s.heap [] 0 0 (MQ below (vp_Sl (fun z => z = digO d r Wd (digF d (digF r (digF (fun k => countS d r n ch pd pr yr Wd k) 1667 9) 3) 50) n)) ([.ref (X 0)] : List Value).toArray s 0 0 (fun _ => False)) (F0 m 36 ls []) := by
    intro m9
    induction m9 with
    | zero =>
      intro j hj ls hl
      have hjN : j = 3 := by omega
      subst hjN
      refine lv_iload_n hx hb dX3_digest_36 rfl (lv_at hl 0 rfl) ?_
      refine lv_iconst (v := 3) hx hb dX3_digest_37 (by decide) ?_
      refine lv_icmp_ge (tgt := 63) hx hb dX3_digest_38 (by decide) (fun c_1 => ?_) (fun c_1 => ?_)
      · refine lv_bipush (v := 50) hx hb dX3_digest_63 (by decide) ?_
        refine lv_istore_n (lv' := [(3, .int 50), (1, .long (digF r (digF (fun k => countS d r n ch pd pr yr Wd k) 1667 9) 3)), (0, .ref (X 0))]) hx hb dX3_digest_65 rfl hl (by decide) rfl (fun ls hl => ?_)
        exact keyA 50 0 (by omega) ls (lv_sub hl [0, 1, 2] rfl)
      · exact absurd (by decide) c_1
    | succ m9 ih =>
      intro j hj ls hl
      refine lv_iload_n hx hb dX3_digest_36 rfl (lv_at hl 0 rfl) ?_
      refine lv_iconst (v := 3) hx hb dX3_digest_37 (by decide) ?_
      refine lv_icmp_ge (tgt := 63) hx hb dX3_digest_38 (by decide) (fun c_1 => ?_) (fun c_1 => ?_)
      · exact absurd c_1 (fun q9 => absurd ((le_nI (a := 3) (by omega)).mp q9) (by omega))
      · refine lv_lload_n hx hb dX3_digest_41 rfl (lv_at hl 1 rfl) ?_
        refine lv_ldc2 (v := 31) hx hb hown (hts (.constantLong RX3 189 31) (by decide +kernel)) dX3_digest_42 ?_
        refine lv_lmul hx hb dX3_digest_45 ?_
        refine lv_aload_n hx hb dX3_digest_46 rfl (lv_at hl 2 rfl) ?_
        refine va_get (D := (dC, dI)) (ci := 3) (v := .ref (X 1)) (C := RX3) (T := TX3) (N := 3) hx hb hts (by decide +kernel) hown hKK.1 hP 27 cw_obj rfl 0 (by decide) (hts (.fieldLink RX3 12 "WidowPennies" "tables" "LWidowPennies$Tables;") (by decide +kernel)) (fun _ h9 => h9) rfl dX3_digest_47 ?_
        refine lv_iload_n hx hb dX3_digest_50 rfl (lv_at hl 0 rfl) ?_
        refine rd_i (runV0 (As := [.int (nI j)]) (rest := [.long ((digF r (digF (fun k => countS d r n ch pd pr yr Wd k) 1667 9) j) * 31)]) ⟨hx, hb, hml, hown, hts⟩ (met_X1_rate l dC dI cI cW X d r j (by omega)) (cwV 1 hts gX3_digest_X1_rate rfl rfl rfl (by decide +kernel) ⟨Nat.le_of_ble_eq_true rfl, Nat.le_of_ble_eq_true rfl⟩) hKK (ws_left hP) 1 0 rfl rfl rfl hl.1 (Nat.le_of_ble_eq_true rfl) rfl dX3_digest_51 ⟨Nat.zero_le _, Nat.zero_le _⟩) (fun r_2 hr_2 => ?_)
        subst hr_2
        refine lv_i2l hx hb dX3_digest_54 rfl ?_
        refine lv_ladd hx hb dX3_digest_55 ?_
        rw [show (((digF r (digF (fun k => countS d r n ch pd pr yr Wd k) 1667 9) j) * 31) + ((r j).toInt64) : Int64) = digF r (digF (fun k => countS d r n ch pd pr yr Wd k) 1667 9) (j + 1) from rfl]
        refine lv_lstore_n (lv' := [(1, .long (digF r (digF (fun k => countS d r n ch pd pr yr Wd k) 1667 9) (j + 1))), (3, .int (nI j)), (0, .ref (X 0))]) hx hb dX3_digest_56 rfl hl (by decide) rfl (fun ls hl => ?_)
        refine lv_iinc (v := (nI (j + 1))) (lv' := [(3, .int (nI (j + 1))), (1, .long (digF r (digF (fun k => countS d r n ch pd pr yr Wd k) 1667 9) (j + 1))), (0, .ref (X 0))]) hx hb dX3_digest_57 hl (k := 1) rfl (nI_1 j) (by decide) rfl (fun ls hl => ?_)
        refine lv_goto (tgt := 36) hx hb dX3_digest_60 (by decide) ?_
        exact ih (j + 1) (by omega) ls (lv_sub hl [0, 1, 2] rfl)
  have keyC : ∀ (m9 j : Nat), j + m9 = 9 → ∀ ls : Array Slot, lv_has ls 5 [(3, .int (nI j)), (1, .long (digF (fun k => countS d r n ch pd pr yr Wd k) 1667 j)), (0, .ref (X 0))] → W p l e (headSpec wsX3_digest ({ frames := 7, cells := 0, slots := 0, locals := 155 })).room s m (([.ref (X 0)] : List Value).toArray) below meth c s.heap [] 0 0 (MQ below (vp_Sl (fun z => z = digO d r Wd (digF d (digF r (digF (fun k => countS d r n ch pd pr yr Wd k) 1667 9) 3) 50) n)) ([.ref (X 0)] : List Value).toArray s 0 0 (fun _ => False)) (F0 m 6 ls []) := by
    intro m9
    induction m9 with
    | zero =>
      intro j hj ls hl
      have hjN : j = 9 := by omega
      subst hjN
      refine lv_iload_n hx hb dX3_digest_6 rfl (lv_at hl 0 rfl) ?_
      refine lv_bipush (v := 9) hx hb dX3_digest_7 (by decide) ?_
      refine lv_icmp_ge (tgt := 34) hx hb dX3_digest_9 (by decide) (fun c_1 => ?_) (fun c_1 => ?_)
      · refine lv_iconst (v := 0) hx hb dX3_digest_34 (by decide) ?_
        refine lv_istore_n (lv' := [(3, .int 0), (1, .long (digF (fun k => countS d r n ch pd pr yr Wd k) 1667 9)), (0, .ref (X 0))]) hx hb dX3_digest_35 rfl hl (by decide) rfl (fun ls hl => ?_)
        exact keyR 3 0 (by omega) ls (lv_sub hl [0, 1, 2] rfl)
      · exact absurd (by decide) c_1
    | succ m9 ih =>
      intro j hj ls hl
      refine lv_iload_n hx hb dX3_digest_6 rfl (lv_at hl 0 rfl) ?_
      refine lv_bipush (v := 9) hx hb dX3_digest_7 (by decide) ?_
      refine lv_icmp_ge (tgt := 34) hx hb dX3_digest_9 (by decide) (fun c_1 => ?_) (fun c_1 => ?_)
      · exact absurd c_1 (fun q9 => absurd ((le_nI (a := 9) (by omega)).mp q9) (by omega))
      · refine lv_lload_n hx hb dX3_digest_12 rfl (lv_at hl 1 rfl) ?_
        refine lv_ldc2 (v := 31) hx hb hown (hts (.constantLong RX3 189 31) (by decide +kernel)) dX3_digest_13 ?_
        refine lv_lmul hx hb dX3_digest_16 ?_
        refine lv_aload_n hx hb dX3_digest_17 rfl (lv_at hl 2 rfl) ?_
        refine va_get (D := (dC, dI)) (ci := 3) (v := .ref (Bk 0)) (C := RX3) (T := TX3) (N := 3) hx hb hts (by decide +kernel) hown hKK.1 hP 27 cw_obj rfl 1 (by decide) (hts (.fieldLink RX3 21 "WidowPennies" "book" "LWidowPennies$Book;") (by decide +kernel)) (fun _ h9 => h9) rfl dX3_digest_18 ?_
        refine lv_iload_n hx hb dX3_digest_21 rfl (lv_at hl 0 rfl) ?_
        refine rd_i (runV0 (As := [.int (nI j)]) (rest := [.long ((digF (fun k => countS d r n ch pd pr yr Wd k) 1667 j) * 31)]) ⟨hx, hb, hml, hown, hts⟩ (met_X0_tell l dC dI cI cW X Bk d r n ch pd pr yr Wd (bk cW X Br n2 ch2 pd2 pr2 yr2 W2 ++ (obj X Bk Br :: R)) hn hok j (by omega) hi hi0) (cwV 1 hts gX3_digest_X0_tell rfl rfl rfl (by decide +kernel) ⟨Nat.le_of_ble_eq_true rfl, Nat.le_of_ble_eq_true rfl⟩) hKK hP 0 3 rfl rfl rfl hl.1 (Nat.le_of_ble_eq_true rfl) rfl dX3_digest_22 ⟨Nat.zero_le _, Nat.zero_le _⟩) (fun r_2 hr_2 => ?_)
        subst hr_2
        refine lv_i2l hx hb dX3_digest_25 rfl ?_
        refine lv_ladd hx hb dX3_digest_26 ?_
        rw [show (((digF (fun k => countS d r n ch pd pr yr Wd k) 1667 j) * 31) + ((countS d r n ch pd pr yr Wd j).toInt64) : Int64) = digF (fun k => countS d r n ch pd pr yr Wd k) 1667 (j + 1) from rfl]
        refine lv_lstore_n (lv' := [(1, .long (digF (fun k => countS d r n ch pd pr yr Wd k) 1667 (j + 1))), (3, .int (nI j)), (0, .ref (X 0))]) hx hb dX3_digest_27 rfl hl (by decide) rfl (fun ls hl => ?_)
        refine lv_iinc (v := (nI (j + 1))) (lv' := [(3, .int (nI (j + 1))), (1, .long (digF (fun k => countS d r n ch pd pr yr Wd k) 1667 (j + 1))), (0, .ref (X 0))]) hx hb dX3_digest_28 hl (k := 1) rfl (nI_1 j) (by decide) rfl (fun ls hl => ?_)
        refine lv_goto (tgt := 6) hx hb dX3_digest_31 (by decide) ?_
        exact ih (j + 1) (by omega) ls (lv_sub hl [0, 1, 2] rfl)
  refine lv_ldc2 (v := 1667) hx hb hown (hts (.constantLong RX3 187 1667) (by decide +kernel)) dX3_digest_0 ?_
  refine lv_lstore_n (lv' := [(1, .long 1667), (0, .ref (X 0))]) hx hb dX3_digest_3 rfl hl (by decide) rfl (fun ls hl => ?_)
  refine lv_iconst (v := 0) hx hb dX3_digest_4 (by decide) ?_
  refine lv_istore_n (lv' := [(3, .int 0), (1, .long 1667), (0, .ref (X 0))]) hx hb dX3_digest_5 rfl hl (by decide) rfl (fun ls hl => ?_)
  exact keyC 9 0 (by omega) ls (lv_sub hl [0, 1, 2] rfl)
