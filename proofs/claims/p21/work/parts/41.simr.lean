set_option maxHeartbeats 4000000 in
set_option maxRecDepth 100000 in
/-- from the end: the age at which the sum begins, back to 99, and from there back to this age -/
theorem met_X4_worth (l : Launch) (dC : Nat → ClassId) (dI : Nat → Nat → Nat) (cI cW cV : ClassId) (Y : Nat → Nat) (Ya : Nat) (V : Nat → Nat) (n : Nat) (d r : Nat → Int32) (ch pd yr : Int32) (Wd : Nat → Nat → Int32) (ka kb : Nat) (h1 : 50 ≤ ka) (h2 : ka ≤ 99) (h3 : kb ≤ 30) (hi : ¬ (1000 : Int32) + r 0 = 0) : Met l yX4_worth wsX4_worth ({ frames := 0, cells := 0, slots := 0, locals := 0 }) (Pre0S dC dI cI cW cV [.ref (Y 0), .int (nI ka), .int (nI kb)] (si cI cV Y Ya V n d r ch pd yr Wd)) (vp_Si (fun z => z = wN d (r 0) (100 - ka) kb)) 0 0 (fun _ => False) := by
  refine Met.ofW (cc := cX4_worth) (maxL := 6) (ret := (some .int)) (by decide) rfl ?_
  intro p e s m args below meth c s₁ B hml hv
  obtain ⟨rfl, hP, hKS⟩ := hv
  have hKK := hKS.1
  have hKV := hKS.2.1
  have hx := B.exec
  have hb := B.bytes
  have hr := B.returns
  have hts := atoms_spec (ws := wsX4_worth) B.pre
  have hown : s.vm.findClass RX4 = some m.cls := findClass_of_methodNamed B.named
  have hlocks := B.notSynchronized
  have hl := lv_entry ([.ref (Y 0), .int (nI ka), .int (nI kb)]) (n := 6) (Nat.le_of_ble_eq_true rfl)
  rw [lg_entry_eq]
  generalize (lg_sl ([.ref (Y 0), .int (nI ka), .int (nI kb)]) ++ List.replicate (6 - (lg_sl ([.ref (Y 0), .int (nI ka), .int (nI kb)])).length) Slot.unset).toArray = ls at hl ⊢
  have hl : lv_has ls 6 [(0, .ref (Y 0)), (1, .int (nI ka)), (2, .int (nI kb))] := hl
  have key2 : ka + kb ≤ 99 → ∀ (m9 j : Nat), j + m9 = kb → ∀ ls : Array Slot, lv_has ls 6 [(5, .int (nI (ka + kb - 1 - j))), (4, .int (wN d (r 0) (100 - (ka + kb) + j) j)), (3, .int (nI (ka + kb))), (0, .ref (Y 0)), (1, .int (nI ka)), (2, .int (nI kb))] → W p l e (headSpec wsX4_worth ({ frames := 0, cells := 0, slots := 0, locals := 0 })).room s m (([.ref (Y 0), .int (nI ka), .int (nI kb)] : List Value).toArray) below meth c s.heap [] 0 0 (MQ below (vp_Si (fun z => z = wN d (r 0) (100 - ka) kb)) ([.ref (Y 0), .int (nI ka), .int (nI kb)] : List Value).toArray s 0 0 (fun _ => False)) (F0 m 70 ls []) := by
    intro hle m9
    induction m9 with
    | zero =>
      intro j hj ls hl
      refine lv_iload hx hb dX4_worth_70 (lv_at hl 0 rfl) ?_
      refine lv_iload_n hx hb dX4_worth_72 rfl (lv_at hl 4 rfl) ?_
      refine lv_icmp_lt (tgt := 112) hx hb dX4_worth_73 (by decide) (fun c_1 => ?_) (fun c_1 => ?_)
      · refine lv_iload hx hb dX4_worth_112 (lv_at hl 1 rfl) ?_
        have hz : wN d (r 0) (100 - (ka + kb) + j) j = wN d (r 0) (100 - ka) kb := by rw [show j = kb by omega, show 100 - (ka + kb) + kb = 100 - ka by omega]
        exact W.iret (v := (wN d (r 0) (100 - (ka + kb) + j) j)) hx hb hr (fun t ht hW => ⟨_, rfl, hz, ht⟩) (fun q hq => absurd hq List.not_mem_nil) dX4_worth_114
      · exact absurd ((lt_nI (by omega)).mpr (by omega)) c_1
    | succ m9 ih =>
      intro j hj ls hl
      refine lv_iload hx hb dX4_worth_70 (lv_at hl 0 rfl) ?_
      refine lv_iload_n hx hb dX4_worth_72 rfl (lv_at hl 4 rfl) ?_
      refine lv_icmp_lt (tgt := 112) hx hb dX4_worth_73 (by decide) (fun c_1 => ?_) (fun c_1 => ?_)
      · exact absurd c_1 (fun q => absurd ((lt_nI (by omega)).mp q) (by omega))
      · refine lv_sipush (v := 1000) hx hb dX4_worth_76 (by decide) ?_
        refine lv_aload_n hx hb dX4_worth_79 rfl (lv_at hl 3 rfl) ?_
        refine va_get (D := (dC, dI)) (ci := 4) (v := .ref (Y 2)) (C := RX4) (T := TX4) (N := 6) hx hb hts (by decide +kernel) hown hKK.1 hP 0 rfl rfl 4 (by decide) (hts (.fieldLink RX4 13 "WidowPenniesLaw$Sim" "deaths" "[I") (by decide +kernel)) (fun _ h9 => h9) rfl dX4_worth_80 ?_
        refine lv_iload hx hb dX4_worth_83 (lv_at hl 0 rfl) ?_
        refine lv_bipush (v := 50) hx hb dX4_worth_85 (by decide) ?_
        refine lv_isub hx hb dX4_worth_87 ?_
        rw [show ((nI (ka + kb - 1 - j)) - 50 : Int32) = nI (ka + kb - 1 - j - 50) from by rw [show (50 : Int32) = nI 50 from rfl, n_sub (by omega)]]
        refine va_iald hx hb hKK.1 hP 2 0 rfl rfl (vp_in_nI (by omega) (by omega)) dX4_worth_88 ?_
        rw [show d (nI (ka + kb - 1 - j - 50)).toNatClampNeg = d (ka + kb - 1 - j - 50) from congrArg d (clamp_nI (by omega))]
        refine lv_isub hx hb dX4_worth_89 ?_
        refine lv_iload hx hb dX4_worth_90 (lv_at hl 1 rfl) ?_
        refine lv_imul hx hb dX4_worth_92 ?_
        refine lv_sipush (v := 1000) hx hb dX4_worth_93 (by decide) ?_
        refine lv_aload_n hx hb dX4_worth_96 rfl (lv_at hl 3 rfl) ?_
        refine va_get (D := (dC, dI)) (ci := 4) (v := .ref (Y 1)) (C := RX4) (T := TX4) (N := 6) hx hb hts (by decide +kernel) hown hKK.1 hP 0 rfl rfl 3 (by decide) (hts (.fieldLink RX4 7 "WidowPenniesLaw$Sim" "rates" "[I") (by decide +kernel)) (fun _ h9 => h9) rfl dX4_worth_97 ?_
        refine lv_iconst (v := 0) hx hb dX4_worth_100 (by decide) ?_
        refine va_iald hx hb hKK.1 hP 1 0 rfl rfl (vp_in_nI (n := 0) (by omega) (by omega)) dX4_worth_101 ?_
        rw [show r (0 : Int32).toNatClampNeg = r 0 from rfl]
        refine lv_iadd hx hb dX4_worth_102 ?_
        refine lv_idiv hx hb dX4_worth_103 hi ?_
        rw [show (((1000 - (d (ka + kb - 1 - j - 50))) * (wN d (r 0) (100 - (ka + kb) + j) j)) / (1000 + (r 0)) : Int32) = wN d (r 0) (100 - (ka + kb) + (j + 1)) (j + 1) from by rw [show 100 - (ka + kb) + (j + 1) = (100 - (ka + kb) + j) + 1 by omega, wN, show 49 - (100 - (ka + kb) + j) = ka + kb - 1 - j - 50 by omega]]
        refine lv_istore (lv' := [(4, .int (wN d (r 0) (100 - (ka + kb) + (j + 1)) (j + 1))), (5, .int (nI (ka + kb - 1 - j))), (3, .int (nI (ka + kb))), (0, .ref (Y 0)), (1, .int (nI ka)), (2, .int (nI kb))]) hx hb dX4_worth_104 hl (by decide) rfl (fun ls hl => ?_)
        refine lv_iinc (v := (nI (ka + kb - 1 - (j + 1)))) (lv' := [(5, .int (nI (ka + kb - 1 - (j + 1)))), (4, .int (wN d (r 0) (100 - (ka + kb) + (j + 1)) (j + 1))), (3, .int (nI (ka + kb))), (0, .ref (Y 0)), (1, .int (nI ka)), (2, .int (nI kb))]) hx hb dX4_worth_106 hl (k := 1) rfl (dec_nI (by omega)) (by decide) rfl (fun ls hl => ?_)
        refine lv_goto (tgt := 70) hx hb dX4_worth_109 (by decide) ?_
        exact ih (j + 1) (by omega) ls (lv_sub hl [0, 1, 2, 3, 4, 5] rfl)
  have key1 : ka + kb ≤ 99 → ∀ (m9 j : Nat), j + m9 = 100 - (ka + kb) → ∀ ls : Array Slot, lv_has ls 6 [(5, .int (nI (99 - j))), (4, .int (wN d (r 0) j 0)), (3, .int (nI (ka + kb))), (0, .ref (Y 0)), (1, .int (nI ka)), (2, .int (nI kb))] → W p l e (headSpec wsX4_worth ({ frames := 0, cells := 0, slots := 0, locals := 0 })).room s m (([.ref (Y 0), .int (nI ka), .int (nI kb)] : List Value).toArray) below meth c s.heap [] 0 0 (MQ below (vp_Si (fun z => z = wN d (r 0) (100 - ka) kb)) ([.ref (Y 0), .int (nI ka), .int (nI kb)] : List Value).toArray s 0 0 (fun _ => False)) (F0 m 19 ls []) := by
    intro hle m9
    induction m9 with
    | zero =>
      intro j hj ls hl
      have hj9 : j = 100 - (ka + kb) := by omega
      subst hj9
      refine lv_iload hx hb dX4_worth_19 (lv_at hl 0 rfl) ?_
      refine lv_iload_n hx hb dX4_worth_21 rfl (lv_at hl 2 rfl) ?_
      refine lv_icmp_lt (tgt := 65) hx hb dX4_worth_22 (by decide) (fun c_1 => ?_) (fun c_1 => ?_)
      · refine lv_iload_n hx hb dX4_worth_65 rfl (lv_at hl 2 rfl) ?_
        refine lv_iconst (v := 1) hx hb dX4_worth_66 (by decide) ?_
        refine lv_isub hx hb dX4_worth_67 ?_
        rw [show ((nI (ka + kb)) - 1 : Int32) = nI (ka + kb - 1) from by rw [show (1 : Int32) = nI 1 from rfl, n_sub (by omega)]]
        refine lv_istore (lv' := [(5, .int (nI (ka + kb - 1))), (4, .int (wN d (r 0) (100 - (ka + kb)) 0)), (3, .int (nI (ka + kb))), (0, .ref (Y 0)), (1, .int (nI ka)), (2, .int (nI kb))]) hx hb dX4_worth_68 hl (by decide) rfl (fun ls hl => ?_)
        exact key2 hle kb 0 (by omega) ls (lv_sub hl [0, 1, 2, 3, 4, 5] rfl)
      · exact absurd ((lt_nI (by omega)).mpr (by omega)) c_1
    | succ m9 ih =>
      intro j hj ls hl
      refine lv_iload hx hb dX4_worth_19 (lv_at hl 0 rfl) ?_
      refine lv_iload_n hx hb dX4_worth_21 rfl (lv_at hl 2 rfl) ?_
      refine lv_icmp_lt (tgt := 65) hx hb dX4_worth_22 (by decide) (fun c_1 => ?_) (fun c_1 => ?_)
      · exact absurd c_1 (fun q => absurd ((lt_nI (by omega)).mp q) (by omega))
      · refine lv_sipush (v := 1000) hx hb dX4_worth_25 (by decide) ?_
        refine lv_aload_n hx hb dX4_worth_28 rfl (lv_at hl 3 rfl) ?_
        refine va_get (D := (dC, dI)) (ci := 4) (v := .ref (Y 2)) (C := RX4) (T := TX4) (N := 6) hx hb hts (by decide +kernel) hown hKK.1 hP 0 rfl rfl 4 (by decide) (hts (.fieldLink RX4 13 "WidowPenniesLaw$Sim" "deaths" "[I") (by decide +kernel)) (fun _ h9 => h9) rfl dX4_worth_29 ?_
        refine lv_iload hx hb dX4_worth_32 (lv_at hl 0 rfl) ?_
        refine lv_bipush (v := 50) hx hb dX4_worth_34 (by decide) ?_
        refine lv_isub hx hb dX4_worth_36 ?_
        rw [show ((nI (99 - j)) - 50 : Int32) = nI (99 - j - 50) from by rw [show (50 : Int32) = nI 50 from rfl, n_sub (by omega)]]
        refine va_iald hx hb hKK.1 hP 2 0 rfl rfl (vp_in_nI (by omega) (by omega)) dX4_worth_37 ?_
        rw [show d (nI (99 - j - 50)).toNatClampNeg = d (99 - j - 50) from congrArg d (clamp_nI (by omega))]
        refine lv_isub hx hb dX4_worth_38 ?_
        refine lv_sipush (v := 1000) hx hb dX4_worth_39 (by decide) ?_
        refine lv_iload hx hb dX4_worth_42 (lv_at hl 1 rfl) ?_
        refine lv_iadd hx hb dX4_worth_44 ?_
        refine lv_imul hx hb dX4_worth_45 ?_
        refine lv_sipush (v := 1000) hx hb dX4_worth_46 (by decide) ?_
        refine lv_aload_n hx hb dX4_worth_49 rfl (lv_at hl 3 rfl) ?_
        refine va_get (D := (dC, dI)) (ci := 4) (v := .ref (Y 1)) (C := RX4) (T := TX4) (N := 6) hx hb hts (by decide +kernel) hown hKK.1 hP 0 rfl rfl 3 (by decide) (hts (.fieldLink RX4 7 "WidowPenniesLaw$Sim" "rates" "[I") (by decide +kernel)) (fun _ h9 => h9) rfl dX4_worth_50 ?_
        refine lv_iconst (v := 0) hx hb dX4_worth_53 (by decide) ?_
        refine va_iald hx hb hKK.1 hP 1 0 rfl rfl (vp_in_nI (n := 0) (by omega) (by omega)) dX4_worth_54 ?_
        rw [show r (0 : Int32).toNatClampNeg = r 0 from rfl]
        refine lv_iadd hx hb dX4_worth_55 ?_
        refine lv_idiv hx hb dX4_worth_56 hi ?_
        rw [show (((1000 - (d (99 - j - 50))) * (1000 + (wN d (r 0) j 0))) / (1000 + (r 0)) : Int32) = wN d (r 0) (j + 1) 0 from by rw [wN, show 99 - j - 50 = 49 - j by omega]]
        refine lv_istore (lv' := [(4, .int (wN d (r 0) (j + 1) 0)), (5, .int (nI (99 - j))), (3, .int (nI (ka + kb))), (0, .ref (Y 0)), (1, .int (nI ka)), (2, .int (nI kb))]) hx hb dX4_worth_57 hl (by decide) rfl (fun ls hl => ?_)
        refine lv_iinc (v := (nI (99 - (j + 1)))) (lv' := [(5, .int (nI (99 - (j + 1)))), (4, .int (wN d (r 0) (j + 1) 0)), (3, .int (nI (ka + kb))), (0, .ref (Y 0)), (1, .int (nI ka)), (2, .int (nI kb))]) hx hb dX4_worth_59 hl (k := 1) rfl (dec_nI (by omega)) (by decide) rfl (fun ls hl => ?_)
        refine lv_goto (tgt := 19) hx hb dX4_worth_62 (by decide) ?_
        exact ih (j + 1) (by omega) ls (lv_sub hl [0, 1, 2, 3, 4, 5] rfl)
  refine lv_iload_n hx hb dX4_worth_0 rfl (lv_at hl 1 rfl) ?_
  refine lv_iload_n hx hb dX4_worth_1 rfl (lv_at hl 2 rfl) ?_
  refine lv_iadd hx hb dX4_worth_2 ?_
  rw [show ((nI ka) + (nI kb) : Int32) = nI (ka + kb) from nI_add _ _]
  refine lv_istore_n (lv' := [(3, .int (nI (ka + kb))), (0, .ref (Y 0)), (1, .int (nI ka)), (2, .int (nI kb))]) hx hb dX4_worth_3 rfl hl (by decide) rfl (fun ls hl => ?_)
  refine lv_iload_n hx hb dX4_worth_4 rfl (lv_at hl 0 rfl) ?_
  refine lv_bipush (v := 99) hx hb dX4_worth_5 (by decide) ?_
  refine lv_icmp_le (tgt := 12) hx hb dX4_worth_7 (by decide) (fun c_2 => ?_) (fun c_2 => ?_)
  · have hle : ka + kb ≤ 99 := (le_nI (b := 99) (by omega)).mp c_2
    refine lv_iconst (v := 0) hx hb dX4_worth_12 (by decide) ?_
    refine lv_istore (lv' := [(4, .int 0), (3, .int (nI (ka + kb))), (0, .ref (Y 0)), (1, .int (nI ka)), (2, .int (nI kb))]) hx hb dX4_worth_13 hl (by decide) rfl (fun ls hl => ?_)
    refine lv_bipush (v := 99) hx hb dX4_worth_15 (by decide) ?_
    refine lv_istore (lv' := [(5, .int 99), (4, .int 0), (3, .int (nI (ka + kb))), (0, .ref (Y 0)), (1, .int (nI ka)), (2, .int (nI kb))]) hx hb dX4_worth_17 hl (by decide) rfl (fun ls hl => ?_)
    exact key1 hle (100 - (ka + kb)) 0 (by omega) ls (lv_sub hl [0, 1, 2, 3, 4, 5] rfl)
  · refine lv_iconst (v := 0) hx hb dX4_worth_10 (by decide) ?_
    have hz : 0 = wN d (r 0) (100 - ka) kb := (wN_late d (r 0) _ _ (by have h9 : ¬ ka + kb ≤ 99 := fun q => c_2 ((le_nI (a := ka + kb) (b := 99) (by omega)).mpr q); omega)).symm
    exact W.iret (v := 0) hx hb hr (fun t ht hW => ⟨_, rfl, hz, ht⟩) (fun q hq => absurd hq List.not_mem_nil) dX4_worth_11
set_option maxHeartbeats 4000000 in
set_option maxRecDepth 100000 in
theorem met_X4_price (l : Launch) (dC : Nat → ClassId) (dI : Nat → Nat → Nat) (cI cW cV : ClassId) (Y : Nat → Nat) (Ya : Nat) (V : Nat → Nat) (n : Nat) (d r : Nat → Int32) (ch pd yr : Int32) (Wd : Nat → Nat → Int32) (ka : Nat) (x : Int32) (kb : Nat) (h1 : 50 ≤ ka) (h2 : ka ≤ 99) (h3 : kb ≤ 30) (hi : ¬ (1000 : Int32) + r 0 = 0) : Met l yX4_price wsX4_price ({ frames := 1, cells := 0, slots := 0, locals := 25 }) (Pre0S dC dI cI cW cV [.ref (Y 0), .int (nI ka), .int x, .int (nI kb)] (si cI cV Y Ya V n d r ch pd yr Wd)) (vp_Si (fun z => z = priceS (r 1) x (wN d (r 0) (100 - ka) kb))) 0 0 (fun _ => False) := by
  refine Met.ofW (cc := cX4_price) (maxL := 6) (ret := (some .int)) (by decide) rfl ?_
  intro p e s m args below meth c s₁ B hml hv
  obtain ⟨rfl, hP, hKS⟩ := hv
  have hKK := hKS.1
  have hKV := hKS.2.1
  have hx := B.exec
  have hb := B.bytes
  have hr := B.returns
  have hts := atoms_spec (ws := wsX4_price) B.pre
  have hown : s.vm.findClass RX4 = some m.cls := findClass_of_methodNamed B.named
  have hlocks := B.notSynchronized
  have hl := lv_entry ([.ref (Y 0), .int (nI ka), .int x, .int (nI kb)]) (n := 6) (Nat.le_of_ble_eq_true rfl)
  rw [lg_entry_eq]
  generalize (lg_sl ([.ref (Y 0), .int (nI ka), .int x, .int (nI kb)]) ++ List.replicate (6 - (lg_sl ([.ref (Y 0), .int (nI ka), .int x, .int (nI kb)])).length) Slot.unset).toArray = ls at hl ⊢
  have hl : lv_has ls 6 [(0, .ref (Y 0)), (1, .int (nI ka)), (2, .int x), (3, .int (nI kb))] := hl
  refine lv_aload_n hx hb dX4_price_0 rfl (lv_at hl 0 rfl) ?_
  refine lv_iload_n hx hb dX4_price_1 rfl (lv_at hl 1 rfl) ?_
  refine lv_iload_n hx hb dX4_price_2 rfl (lv_at hl 3 rfl) ?_
  refine rd_i (runV0S (As := [.int (nI ka), .int (nI kb)]) (rest := []) ⟨hx, hb, hml, hown, hts⟩ (met_X4_worth l dC dI cI cW cV Y Ya V n d r ch pd yr Wd ka kb h1 h2 h3 hi) (cwV 2 hts gX4_price_X4_worth rfl rfl rfl (by decide +kernel) ⟨Nat.le_of_ble_eq_true rfl, Nat.le_of_ble_eq_true rfl⟩) hKS hP 4 0 rfl rfl rfl hl.1 (Nat.le_of_ble_eq_true rfl) rfl dX4_price_3 ⟨Nat.zero_le _, Nat.zero_le _⟩) (fun r_1 hr_1 => ?_)
  subst hr_1
  refine lv_istore (lv' := [(4, .int (wN d (r 0) (100 - ka) kb)), (0, .ref (Y 0)), (1, .int (nI ka)), (2, .int x), (3, .int (nI kb))]) hx hb dX4_price_6 hl (by decide) rfl (fun ls hl => ?_)
  refine lv_iload_n hx hb dX4_price_8 rfl (lv_at hl 3 rfl) ?_
  refine lv_iload hx hb dX4_price_9 (lv_at hl 0 rfl) ?_
  refine lv_imul hx hb dX4_price_11 ?_
  refine lv_sipush (v := 1000) hx hb dX4_price_12 (by decide) ?_
  refine lv_idiv hx hb dX4_price_15 (by decide) ?_
  refine lv_istore (lv' := [(5, .int ((x * (wN d (r 0) (100 - ka) kb)) / 1000)), (4, .int (wN d (r 0) (100 - ka) kb)), (0, .ref (Y 0)), (1, .int (nI ka)), (2, .int x), (3, .int (nI kb))]) hx hb dX4_price_16 hl (by decide) rfl (fun ls hl => ?_)
  refine lv_iload hx hb dX4_price_18 (lv_at hl 0 rfl) ?_
  refine lv_iload hx hb dX4_price_20 (lv_at hl 0 rfl) ?_
  refine lv_aload_n hx hb dX4_price_22 rfl (lv_at hl 2 rfl) ?_
  refine va_get (D := (dC, dI)) (ci := 4) (v := .ref (Y 1)) (C := RX4) (T := TX4) (N := 6) hx hb hts (by decide +kernel) hown hKK.1 hP 0 rfl rfl 3 (by decide) (hts (.fieldLink RX4 7 "WidowPenniesLaw$Sim" "rates" "[I") (by decide +kernel)) (fun _ h9 => h9) rfl dX4_price_23 ?_
  refine lv_iconst (v := 1) hx hb dX4_price_26 (by decide) ?_
  refine va_iald hx hb hKK.1 hP 1 0 rfl rfl (vp_in_nI (n := 1) (by omega) (by omega)) dX4_price_27 ?_
  rw [show r (1 : Int32).toNatClampNeg = r 1 from rfl]
  refine lv_imul hx hb dX4_price_28 ?_
  refine lv_bipush (v := 100) hx hb dX4_price_29 (by decide) ?_
  refine lv_idiv hx hb dX4_price_31 (by decide) ?_
  refine lv_iadd hx hb dX4_price_32 ?_
  refine lv_istore (lv' := [(5, .int (((x * (wN d (r 0) (100 - ka) kb)) / 1000) + ((((x * (wN d (r 0) (100 - ka) kb)) / 1000) * (r 1)) / 100))), (4, .int (wN d (r 0) (100 - ka) kb)), (0, .ref (Y 0)), (1, .int (nI ka)), (2, .int x), (3, .int (nI kb))]) hx hb dX4_price_33 hl (by decide) rfl (fun ls hl => ?_)
  refine lv_iload hx hb dX4_price_35 (lv_at hl 1 rfl) ?_
  refine lv_if_ne (tgt := 44) hx hb dX4_price_37 (by decide) (fun c_2 => ?_) (fun c_2 => ?_)
  · refine lv_iload hx hb dX4_price_44 (lv_at hl 0 rfl) ?_
    refine lv_iconst (v := 1) hx hb dX4_price_46 (by decide) ?_
    refine lv_icmp_ge (tgt := 54) hx hb dX4_price_47 (by decide) (fun c_3 => ?_) (fun c_3 => ?_)
    · refine lv_iload hx hb dX4_price_54 (lv_at hl 0 rfl) ?_
      have hz : ((x * (wN d (r 0) (100 - ka) kb)) / 1000) + ((((x * (wN d (r 0) (100 - ka) kb)) / 1000) * (r 1)) / 100) = priceS (r 1) x (wN d (r 0) (100 - ka) kb) := by unfold priceS; rw [if_neg c_2, if_neg (Int32.not_lt.mpr c_3)]
      exact W.iret (v := (((x * (wN d (r 0) (100 - ka) kb)) / 1000) + ((((x * (wN d (r 0) (100 - ka) kb)) / 1000) * (r 1)) / 100))) hx hb hr (fun t ht hW => ⟨_, rfl, hz, ht⟩) (fun q hq => absurd hq List.not_mem_nil) dX4_price_56
    · refine lv_iconst (v := 1) hx hb dX4_price_50 (by decide) ?_
      refine lv_goto (tgt := 56) hx hb dX4_price_51 (by decide) ?_
      have hz : 1 = priceS (r 1) x (wN d (r 0) (100 - ka) kb) := by unfold priceS; rw [if_neg c_2, if_pos (Int32.not_le.mp c_3)]
      exact W.iret (v := 1) hx hb hr (fun t ht hW => ⟨_, rfl, hz, ht⟩) (fun q hq => absurd hq List.not_mem_nil) dX4_price_56
  · refine lv_iconst (v := 0) hx hb dX4_price_40 (by decide) ?_
    refine lv_goto (tgt := 56) hx hb dX4_price_41 (by decide) ?_
    have hz : 0 = priceS (r 1) x (wN d (r 0) (100 - ka) kb) := by unfold priceS; rw [if_pos c_2]
    exact W.iret (v := 0) hx hb hr (fun t ht hW => ⟨_, rfl, hz, ht⟩) (fun q hq => absurd hq List.not_mem_nil) dX4_price_56
set_option maxHeartbeats 4000000 in
set_option maxRecDepth 100000 in
theorem met_X4_kept (l : Launch) (dC : Nat → ClassId) (dI : Nat → Nat → Nat) (cI cW cV : ClassId) (Y : Nat → Nat) (Ya : Nat) (V : Nat → Nat) (n : Nat) (d r : Nat → Int32) (ch pd yr : Int32) (Wd : Nat → Nat → Int32) (k : Nat) (hk : k < n) (hok : okW (Wd k)) (hi : ¬ (1000 : Int32) + r 0 = 0) : Met l yX4_kept wsX4_kept ({ frames := 1, cells := 0, slots := 0, locals := 25 }) (Pre0S dC dI cI cW cV [.ref (Y 0), .ref (V k)] (si cI cV Y Ya V n d r ch pd yr Wd)) (vp_Si (fun z => z = keptS d (r 0) (Wd k))) 0 0 (fun _ => False) := by
  refine Met.ofW (cc := cX4_kept) (maxL := 2) (ret := (some .int)) (by decide) rfl ?_
  intro p e s m args below meth c s₁ B hml hv
  obtain ⟨rfl, hP, hKS⟩ := hv
  have hKK := hKS.1
  have hKV := hKS.2.1
  have hx := B.exec
  have hb := B.bytes
  have hr := B.returns
  have hts := atoms_spec (ws := wsX4_kept) B.pre
  have hown : s.vm.findClass RX4 = some m.cls := findClass_of_methodNamed B.named
  have hlocks := B.notSynchronized
  have hl := lv_entry ([.ref (Y 0), .ref (V k)]) (n := 2) (Nat.le_of_ble_eq_true rfl)
  rw [lg_entry_eq]
  generalize (lg_sl ([.ref (Y 0), .ref (V k)]) ++ List.replicate (2 - (lg_sl ([.ref (Y 0), .ref (V k)])).length) Slot.unset).toArray = ls at hl ⊢
  have hl : lv_has ls 2 [(0, .ref (Y 0)), (1, .ref (V k))] := hl
  refine lv_aload_n hx hb dX4_kept_0 rfl (lv_at hl 1 rfl) ?_
  refine va_get (D := (dC, dI)) (ci := 5) (v := .int (Wd k 4)) (C := RX5) (T := TX5) (N := 7) hx hb hts (by decide +kernel) hown hKK.1 hP (k + 4) (si_at0 hk) rfl 4 (by decide) (hts (.fieldLink RX4 46 "WidowPenniesLaw$Widow" "state" "I") (by decide +kernel)) (fun _ h9 => h9) rfl dX4_kept_1 ?_
  refine lv_if_ne (tgt := 31) hx hb dX4_kept_4 (by decide) (fun c_1 => ?_) (fun c_1 => ?_)
  · refine lv_iconst (v := 0) hx hb dX4_kept_31 (by decide) ?_
    have hz : 0 = keptS d (r 0) (Wd k) := by rw [keptS, if_neg c_1]
    exact W.iret (v := 0) hx hb hr (fun t ht hW => ⟨_, rfl, hz, ht⟩) (fun q hq => absurd hq List.not_mem_nil) dX4_kept_32
  · obtain ⟨⟨ka, hka, hka1, hka2⟩, ⟨kb, hkb, hkb1⟩, -⟩ := hok c_1
    refine lv_aload_n hx hb dX4_kept_7 rfl (lv_at hl 1 rfl) ?_
    refine va_get (D := (dC, dI)) (ci := 5) (v := .int (Wd k 1)) (C := RX5) (T := TX5) (N := 7) hx hb hts (by decide +kernel) hown hKK.1 hP (k + 4) (si_at0 hk) rfl 1 (by decide) (hts (.fieldLink RX4 49 "WidowPenniesLaw$Widow" "sum" "I") (by decide +kernel)) (fun _ h9 => h9) rfl dX4_kept_8 ?_
    refine lv_aload_n hx hb dX4_kept_11 rfl (lv_at hl 0 rfl) ?_
    refine lv_aload_n hx hb dX4_kept_12 rfl (lv_at hl 1 rfl) ?_
    refine va_get (D := (dC, dI)) (ci := 5) (v := .int (Wd k 0)) (C := RX5) (T := TX5) (N := 7) hx hb hts (by decide +kernel) hown hKK.1 hP (k + 4) (si_at0 hk) rfl 0 (by decide) (hts (.fieldLink RX4 52 "WidowPenniesLaw$Widow" "age" "I") (by decide +kernel)) (fun _ h9 => h9) rfl dX4_kept_13 ?_
    rw [show (Wd k 0 : Int32) = nI ka from hka]
    refine lv_aload_n hx hb dX4_kept_16 rfl (lv_at hl 1 rfl) ?_
    refine va_get (D := (dC, dI)) (ci := 5) (v := .int (Wd k 2)) (C := RX5) (T := TX5) (N := 7) hx hb hts (by decide +kernel) hown hKK.1 hP (k + 4) (si_at0 hk) rfl 2 (by decide) (hts (.fieldLink RX4 55 "WidowPenniesLaw$Widow" "waits" "I") (by decide +kernel)) (fun _ h9 => h9) rfl dX4_kept_17 ?_
    rw [show (Wd k 2 : Int32) = nI kb from hkb]
    refine rd_i (runV0S (As := [.int (nI ka), .int (nI kb)]) (rest := [.int (Wd k 1)]) ⟨hx, hb, hml, hown, hts⟩ (met_X4_worth l dC dI cI cW cV Y Ya V n d r ch pd yr Wd ka kb hka1 hka2 hkb1 hi) (cwV 2 hts gX4_kept_X4_worth rfl rfl rfl (by decide +kernel) ⟨Nat.le_of_ble_eq_true rfl, Nat.le_of_ble_eq_true rfl⟩) hKS hP 4 0 rfl rfl rfl hl.1 (Nat.le_of_ble_eq_true rfl) rfl dX4_kept_20 ⟨Nat.zero_le _, Nat.zero_le _⟩) (fun r_4 hr_4 => ?_)
    subst hr_4
    refine lv_imul hx hb dX4_kept_23 ?_
    refine lv_sipush (v := 1000) hx hb dX4_kept_24 (by decide) ?_
    refine lv_idiv hx hb dX4_kept_27 (by decide) ?_
    refine lv_goto (tgt := 32) hx hb dX4_kept_28 (by decide) ?_
    have hz : ((Wd k 1) * (wN d (r 0) (100 - ka) kb)) / 1000 = keptS d (r 0) (Wd k) := by rw [keptS, if_pos c_1, hka, hkb, clamp_nI (by omega), clamp_nI (by omega)]
    exact W.iret (v := (((Wd k 1) * (wN d (r 0) (100 - ka) kb)) / 1000)) hx hb hr (fun t ht hW => ⟨_, rfl, hz, ht⟩) (fun q hq => absurd hq List.not_mem_nil) dX4_kept_32
set_option maxHeartbeats 4000000 in
set_option maxRecDepth 100000 in
theorem met_X4_back (l : Launch) (dC : Nat → ClassId) (dI : Nat → Nat → Nat) (cI cW cV : ClassId) (Y : Nat → Nat) (Ya : Nat) (V : Nat → Nat) (n : Nat) (d r : Nat → Int32) (ch pd yr : Int32) (Wd : Nat → Nat → Int32) (k : Nat) (hk : k < n) (hok : okW (Wd k)) (hi : ¬ (1000 : Int32) + r 0 = 0) : Met l yX4_back wsX4_back ({ frames := 2, cells := 0, slots := 0, locals := 46 }) (Pre0S dC dI cI cW cV [.ref (Y 0), .ref (V k)] (si cI cV Y Ya V n d r ch pd yr Wd)) (vp_Si (fun z => z = backS d r (Wd k))) 0 0 (fun _ => False) := by
  refine Met.ofW (cc := cX4_back) (maxL := 3) (ret := (some .int)) (by decide) rfl ?_
  intro p e s m args below meth c s₁ B hml hv
  obtain ⟨rfl, hP, hKS⟩ := hv
  have hKK := hKS.1
  have hKV := hKS.2.1
  have hx := B.exec
  have hb := B.bytes
  have hr := B.returns
  have hts := atoms_spec (ws := wsX4_back) B.pre
  have hown : s.vm.findClass RX4 = some m.cls := findClass_of_methodNamed B.named
  have hlocks := B.notSynchronized
  have hl := lv_entry ([.ref (Y 0), .ref (V k)]) (n := 3) (Nat.le_of_ble_eq_true rfl)
  rw [lg_entry_eq]
  generalize (lg_sl ([.ref (Y 0), .ref (V k)]) ++ List.replicate (3 - (lg_sl ([.ref (Y 0), .ref (V k)])).length) Slot.unset).toArray = ls at hl ⊢
  have hl : lv_has ls 3 [(0, .ref (Y 0)), (1, .ref (V k))] := hl
  refine lv_aload_n hx hb dX4_back_0 rfl (lv_at hl 0 rfl) ?_
  refine lv_aload_n hx hb dX4_back_1 rfl (lv_at hl 1 rfl) ?_
  refine rd_i (runV0S (As := [.ref (V k)]) (rest := []) ⟨hx, hb, hml, hown, hts⟩ (met_X4_kept l dC dI cI cW cV Y Ya V n d r ch pd yr Wd k hk hok hi) (cwV 1 hts gX4_back_X4_kept rfl rfl rfl (by decide +kernel) ⟨Nat.le_of_ble_eq_true rfl, Nat.le_of_ble_eq_true rfl⟩) hKS hP 4 0 rfl rfl rfl hl.1 (Nat.le_of_ble_eq_true rfl) rfl dX4_back_2 ⟨Nat.zero_le _, Nat.zero_le _⟩) (fun r_1 hr_1 => ?_)
  subst hr_1
  refine lv_istore_n (lv' := [(2, .int (keptS d (r 0) (Wd k))), (0, .ref (Y 0)), (1, .ref (V k))]) hx hb dX4_back_5 rfl hl (by decide) rfl (fun ls hl => ?_)
  refine lv_aload_n hx hb dX4_back_6 rfl (lv_at hl 2 rfl) ?_
  refine va_get (D := (dC, dI)) (ci := 5) (v := .int (Wd k 4)) (C := RX5) (T := TX5) (N := 7) hx hb hts (by decide +kernel) hown hKK.1 hP (k + 4) (si_at0 hk) rfl 4 (by decide) (hts (.fieldLink RX4 46 "WidowPenniesLaw$Widow" "state" "I") (by decide +kernel)) (fun _ h9 => h9) rfl dX4_back_7 ?_
  refine lv_if_ne (tgt := 21) hx hb dX4_back_10 (by decide) (fun c_2 => ?_) (fun c_2 => ?_)
  · refine lv_iconst (v := 0) hx hb dX4_back_21 (by decide) ?_
    refine lv_goto (tgt := 38) hx hb dX4_back_22 (by decide) ?_
    have hz : 0 = backS d r (Wd k) := by rw [backS, if_neg (fun q => c_2 q.1)]
    exact W.iret (v := 0) hx hb hr (fun t ht hW => ⟨_, rfl, hz, ht⟩) (fun q hq => absurd hq List.not_mem_nil) dX4_back_38
  · refine lv_aload_n hx hb dX4_back_13 rfl (lv_at hl 2 rfl) ?_
    refine va_get (D := (dC, dI)) (ci := 5) (v := .int (Wd k 3)) (C := RX5) (T := TX5) (N := 7) hx hb hts (by decide +kernel) hown hKK.1 hP (k + 4) (si_at0 hk) rfl 3 (by decide) (hts (.fieldLink RX4 62 "WidowPenniesLaw$Widow" "since" "I") (by decide +kernel)) (fun _ h9 => h9) rfl dX4_back_14 ?_
    refine lv_iconst (v := 2) hx hb dX4_back_17 (by decide) ?_
    refine lv_icmp_ge (tgt := 25) hx hb dX4_back_18 (by decide) (fun c_3 => ?_) (fun c_3 => ?_)
    · refine lv_iload_n hx hb dX4_back_25 rfl (lv_at hl 0 rfl) ?_
      refine lv_iload_n hx hb dX4_back_26 rfl (lv_at hl 0 rfl) ?_
      refine lv_aload_n hx hb dX4_back_27 rfl (lv_at hl 1 rfl) ?_
      refine va_get (D := (dC, dI)) (ci := 4) (v := .ref (Y 1)) (C := RX4) (T := TX4) (N := 6) hx hb hts (by decide +kernel) hown hKK.1 hP 0 rfl rfl 3 (by decide) (hts (.fieldLink RX4 7 "WidowPenniesLaw$Sim" "rates" "[I") (by decide +kernel)) (fun _ h9 => h9) rfl dX4_back_28 ?_
      refine lv_iconst (v := 2) hx hb dX4_back_31 (by decide) ?_
      refine va_iald hx hb hKK.1 hP 1 0 rfl rfl (vp_in_nI (n := 2) (by omega) (by omega)) dX4_back_32 ?_
      rw [show r (2 : Int32).toNatClampNeg = r 2 from rfl]
      refine lv_imul hx hb dX4_back_33 ?_
      refine lv_bipush (v := 100) hx hb dX4_back_34 (by decide) ?_
      refine lv_idiv hx hb dX4_back_36 (by decide) ?_
      refine lv_isub hx hb dX4_back_37 ?_
      have hz : (keptS d (r 0) (Wd k)) - (((keptS d (r 0) (Wd k)) * (r 2)) / 100) = backS d r (Wd k) := by rw [backS, if_pos ⟨c_2, c_3⟩]
      exact W.iret (v := ((keptS d (r 0) (Wd k)) - (((keptS d (r 0) (Wd k)) * (r 2)) / 100))) hx hb hr (fun t ht hW => ⟨_, rfl, hz, ht⟩) (fun q hq => absurd hq List.not_mem_nil) dX4_back_38
    · refine lv_iconst (v := 0) hx hb dX4_back_21 (by decide) ?_
      refine lv_goto (tgt := 38) hx hb dX4_back_22 (by decide) ?_
      have hz : 0 = backS d r (Wd k) := by rw [backS, if_neg (fun q => c_3 q.2)]
      exact W.iret (v := 0) hx hb hr (fun t ht hW => ⟨_, rfl, hz, ht⟩) (fun q hq => absurd hq List.not_mem_nil) dX4_back_38
set_option maxHeartbeats 4000000 in
set_option maxRecDepth 100000 in
theorem met_X4_keptForAll (l : Launch) (dC : Nat → ClassId) (dI : Nat → Nat → Nat) (cI cW cV : ClassId) (Y : Nat → Nat) (Ya : Nat) (V : Nat → Nat) (n : Nat) (d r : Nat → Int32) (ch pd yr : Int32) (Wd : Nat → Nat → Int32) (hn : n ≤ 10) (hok : ∀ k, k < n → okW (Wd k)) (hi : ¬ (1000 : Int32) + r 0 = 0) : Met l yX4_keptForAll wsX4_keptForAll ({ frames := 2, cells := 0, slots := 0, locals := 46 }) (Pre0S dC dI cI cW cV [.ref (Y 0)] (si cI cV Y Ya V n d r ch pd yr Wd)) (vp_Si (fun z => z = sm (kptF d (r 0) Wd) n)) 0 0 (fun _ => False) := by
  refine Met.ofW (cc := cX4_keptForAll) (maxL := 6) (ret := (some .int)) (by decide) rfl ?_
  intro p e s m args below meth c s₁ B hml hv
  obtain ⟨rfl, hP, hKS⟩ := hv
  have hKK := hKS.1
  have hKV := hKS.2.1
  have hx := B.exec
  have hb := B.bytes
  have hr := B.returns
  have hts := atoms_spec (ws := wsX4_keptForAll) B.pre
  have hown : s.vm.findClass RX4 = some m.cls := findClass_of_methodNamed B.named
  have hlocks := B.notSynchronized
  have hl := lv_entry ([.ref (Y 0)]) (n := 6) (Nat.le_of_ble_eq_true rfl)
  rw [lg_entry_eq]
  generalize (lg_sl ([.ref (Y 0)]) ++ List.replicate (6 - (lg_sl ([.ref (Y 0)])).length) Slot.unset).toArray = ls at hl ⊢
  have hl : lv_has ls 6 [(0, .ref (Y 0))] := hl
  have key : ∀ (m9 j : Nat), j + m9 = n → ∀ ls : Array Slot, lv_has ls 6 [(4, .int (nI j)), (1, .int (sm (kptF d (r 0) Wd) j)), (3, .int (nI n)), (2, .ref Ya), (0, .ref (Y 0))] → W p l e (headSpec wsX4_keptForAll ({ frames := 2, cells := 0, slots := 0, locals := 46 })).room s m (([.ref (Y 0)] : List Value).toArray) below meth c s.heap [] 0 0 (MQ below (vp_Si (fun z => z = sm (kptF d (r 0) Wd) n)) ([.ref (Y 0)] : List Value).toArray s 0 0 (fun _ => False)) (F0 m 13 ls []) := by
    intro m9
    induction m9 with
    | zero =>
      intro j hj ls hl
      refine lv_iload hx hb dX4_keptForAll_13 (lv_at hl 0 rfl) ?_
      refine lv_iload_n hx hb dX4_keptForAll_15 rfl (lv_at hl 2 rfl) ?_
      refine lv_icmp_ge (tgt := 40) hx hb dX4_keptForAll_16 (by decide) (fun c_1 => ?_) (fun c_1 => ?_)
      · refine lv_iload_n hx hb dX4_keptForAll_40 rfl (lv_at hl 1 rfl) ?_
        have hz : sm (kptF d (r 0) Wd) j = sm (kptF d (r 0) Wd) n := by rw [show j = n by omega]
        exact W.iret (v := (sm (kptF d (r 0) Wd) j)) hx hb hr (fun t ht hW => ⟨_, rfl, hz, ht⟩) (fun q hq => absurd hq List.not_mem_nil) dX4_keptForAll_41
      · exact absurd ((le_nI (by omega)).mpr (by omega)) c_1
    | succ m9 ih =>
      intro j hj ls hl
      have hjn : j < n := by omega
      refine lv_iload hx hb dX4_keptForAll_13 (lv_at hl 0 rfl) ?_
      refine lv_iload_n hx hb dX4_keptForAll_15 rfl (lv_at hl 2 rfl) ?_
      refine lv_icmp_ge (tgt := 40) hx hb dX4_keptForAll_16 (by decide) (fun c_1 => ?_) (fun c_1 => ?_)
      · exact absurd c_1 (fun q => absurd ((le_nI (by omega)).mp q) (by omega))
      · refine lv_aload_n hx hb dX4_keptForAll_19 rfl (lv_at hl 3 rfl) ?_
        refine lv_iload hx hb dX4_keptForAll_20 (lv_at hl 0 rfl) ?_
        refine va_aldq hx hb hKV hP 3 0 rfl rfl (vp_in_nI hjn (by omega)) dX4_keptForAll_22 ?_
        rw [show va_rf ((fun k => some (V k)) (nI j).toNatClampNeg) = .ref (V j) from by rw [clamp_nI (show j < 2147483648 by omega)]; rfl]
        refine lv_astore (lv' := [(5, .ref (V j)), (4, .int (nI j)), (1, .int (sm (kptF d (r 0) Wd) j)), (3, .int (nI n)), (2, .ref Ya), (0, .ref (Y 0))]) hx hb dX4_keptForAll_23 hl (by decide) rfl (fun ls hl => ?_)
        refine lv_iload_n hx hb dX4_keptForAll_25 rfl (lv_at hl 2 rfl) ?_
        refine lv_aload_n hx hb dX4_keptForAll_26 rfl (lv_at hl 5 rfl) ?_
        refine lv_aload hx hb dX4_keptForAll_27 (lv_at hl 0 rfl) ?_
        refine rd_i (runV0S (As := [.ref (V j)]) (rest := [.int (sm (kptF d (r 0) Wd) j)]) ⟨hx, hb, hml, hown, hts⟩ (met_X4_kept l dC dI cI cW cV Y Ya V n d r ch pd yr Wd j hjn (hok j hjn) hi) (cwV 1 hts gX4_keptForAll_X4_kept rfl rfl rfl (by decide +kernel) ⟨Nat.le_of_ble_eq_true rfl, Nat.le_of_ble_eq_true rfl⟩) hKS hP 4 0 rfl rfl rfl hl.1 (Nat.le_of_ble_eq_true rfl) rfl dX4_keptForAll_29 ⟨Nat.zero_le _, Nat.zero_le _⟩) (fun r_2 hr_2 => ?_)
        subst hr_2
        refine lv_iadd hx hb dX4_keptForAll_32 ?_
        rw [show ((sm (kptF d (r 0) Wd) j) + (keptS d (r 0) (Wd j)) : Int32) = sm (kptF d (r 0) Wd) (j + 1) from by simp [sm, kptF]]
        refine lv_istore_n (lv' := [(1, .int (sm (kptF d (r 0) Wd) (j + 1))), (5, .ref (V j)), (4, .int (nI j)), (3, .int (nI n)), (2, .ref Ya), (0, .ref (Y 0))]) hx hb dX4_keptForAll_33 rfl hl (by decide) rfl (fun ls hl => ?_)
        refine lv_iinc (v := (nI (j + 1))) (lv' := [(4, .int (nI (j + 1))), (1, .int (sm (kptF d (r 0) Wd) (j + 1))), (5, .ref (V j)), (3, .int (nI n)), (2, .ref Ya), (0, .ref (Y 0))]) hx hb dX4_keptForAll_34 hl (k := 2) rfl (nI_1 j) (by decide) rfl (fun ls hl => ?_)
        refine lv_goto (tgt := 13) hx hb dX4_keptForAll_37 (by decide) ?_
        exact ih (j + 1) (by omega) ls (lv_sub hl [0, 1, 3, 4, 5] rfl)
  refine lv_iconst (v := 0) hx hb dX4_keptForAll_0 (by decide) ?_
  refine lv_istore_n (lv' := [(1, .int 0), (0, .ref (Y 0))]) hx hb dX4_keptForAll_1 rfl hl (by decide) rfl (fun ls hl => ?_)
  refine lv_aload_n hx hb dX4_keptForAll_2 rfl (lv_at hl 1 rfl) ?_
  refine va_get (D := (dC, dI)) (ci := 4) (v := .ref Ya) (C := RX4) (T := TX4) (N := 6) hx hb hts (by decide +kernel) hown hKK.1 hP 0 rfl rfl 5 (by decide) (hts (.fieldLink RX4 18 "WidowPenniesLaw$Sim" "all" "[LWidowPenniesLaw$Widow;") (by decide +kernel)) (fun _ h9 => h9) rfl dX4_keptForAll_3 ?_
  refine lv_astore_n (lv' := [(2, .ref Ya), (1, .int 0), (0, .ref (Y 0))]) hx hb dX4_keptForAll_6 rfl hl (by decide) rfl (fun ls hl => ?_)
  refine lv_aload_n hx hb dX4_keptForAll_7 rfl (lv_at hl 0 rfl) ?_
  refine va_alen (v := nI n) hx hb hKV hP 3 0 rfl rfl rfl dX4_keptForAll_8 ?_
  refine lv_istore_n (lv' := [(3, .int (nI n)), (2, .ref Ya), (1, .int 0), (0, .ref (Y 0))]) hx hb dX4_keptForAll_9 rfl hl (by decide) rfl (fun ls hl => ?_)
  refine lv_iconst (v := 0) hx hb dX4_keptForAll_10 (by decide) ?_
  refine lv_istore (lv' := [(4, .int 0), (3, .int (nI n)), (2, .ref Ya), (1, .int 0), (0, .ref (Y 0))]) hx hb dX4_keptForAll_11 hl (by decide) rfl (fun ls hl => ?_)
  exact key n 0 (by omega) ls (lv_sub hl [0, 3, 1, 2, 4] rfl)
