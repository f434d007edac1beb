set_option maxHeartbeats 4000000 in
set_option maxRecDepth 100000 in
theorem act_c0 {p : Program} {l : Launch} {e : Env} {s : State} {m : MethodId} {below : List Frame} {meth : Method} {c : Code} {dC : Nat → ClassId} {dI : Nat → Nat → Nat} {cI cW cV : ClassId} {X Bk Br Y : Nat → Nat} {Ya : Nat} {V : Nat → Nat} {d r : Nat → Int32} {n : Nat} {ch pd pr yr : Int32} {Wd : Nat → Nat → Int32} {R : va_W} {x : Int32} {A : Nat → Prop} {i : Nat} (C9 : AC p s m meth c dC dI cI cW cV ([.ref (X 0), .ref (Y 0), .int x] : List Value).toArray) (hAe : va_A (tab cI X d r ++ (bk cW X Bk n ch pd pr yr Wd ++ (bk cW X Br 0 0 0 0 0 (fun _ _ => 0) ++ (obj X Bk Br :: (si cI cV Y Ya V n d r ch pd yr Wd ++ R))))) s.heap.size = A) (hI : Inv2 i d r n ch pr Wd) (hi5 : i ≤ 500) {H : Heap} {locs : List Loc} (hP : va_P (dC, dI) vwCl (tab cI X d r ++ (bk cW X Bk n ch pd pr yr Wd ++ (bk cW X Br 0 0 0 0 0 (fun _ _ => 0) ++ (obj X Bk Br :: (si cI cV Y Ya V n d r ch pd yr Wd ++ R))))) H) (hD : va_D A (tab cI X d r ++ (bk cW X Bk n ch pd pr yr Wd ++ (bk cW X Br 0 0 0 0 0 (fun _ _ => 0) ++ (obj X Bk Br :: (si cI cV Y Ya V n d r ch pd yr Wd ++ R)))))) (hS : va_S A s.heap H locs) {ls : Array Slot} (hl : lv_has ls 19 [(0, .ref (X 0)), (1, .ref (Y 0)), (2, .int x), (3, .int (nI n))]) : W p l e (headSpec wsL_act ({ frames := 8, cells := 2, slots := 17, locals := 156 })).room s m (([.ref (X 0), .ref (Y 0), .int x] : List Value).toArray) below meth c H locs 2 17 (MQ below (QA dC dI cI cW cV X Bk Br Y R (i + 1) (tab cI X d r ++ (bk cW X Bk n ch pd pr yr Wd ++ (bk cW X Br 0 0 0 0 0 (fun _ _ => 0) ++ (obj X Bk Br :: (si cI cV Y Ya V n d r ch pd yr Wd ++ R))))) s.heap.size) ([.ref (X 0), .ref (Y 0), .int x] : List Value).toArray s 2 17 A) (F0 m 104 ls []) := by
  obtain ⟨hx, hb, hr, hml, hown, hts, hlocks, hKS⟩ := C9
  have hKK := hKS.1
  have hKV := hKS.2.1
  have hn := hI.1.2.2.1
  have hok := hI.1.2.2.2.1
  have hi := hI.1.hi.1
  have hi0 := hI.1.hi.2
  have hA : ∀ q : Nat, s.heap.size ≤ q → A q := fun q h => by rw [← hAe]; exact Or.inr h
  obtain ⟨ka, hka, eka⟩ := bel_nI (x >>> (1 &&& 31)) (n := 50) (by omega) (by omega)
  refine lv_iload_n hx hb dL_act_104 rfl (lv_at hl 2 rfl) ?_
  refine lv_iconst (v := 1) hx hb dL_act_105 (by decide) ?_
  refine lv_ishr hx hb dL_act_106 ?_
  refine lv_bipush (v := 50) hx hb dL_act_107 (by decide) ?_
  refine rd_i (runS0 (As := [.int (x >>> (1 &&& 31)), .int 50]) (rest := []) ⟨hx, hb, hml, hown, hts⟩ (met_L_below l dC dI cI cW (x >>> (1 &&& 31)) 50 (by decide)) (va_cwS 2 hts gL_act_L_below rfl rfl rfl (by decide +kernel) ⟨Nat.le_of_ble_eq_true rfl, Nat.le_of_ble_eq_true rfl⟩) hKK nilP rfl hl.1 (Nat.le_of_ble_eq_true rfl) rfl dL_act_109 ⟨Nat.le_of_ble_eq_true rfl, Nat.le_of_ble_eq_true rfl⟩) (fun r_1 hr_1 => ?_)
  subst hr_1
  rw [show (belS (x >>> (1 &&& 31)) 50 : Int32) = nI ka from eka]
  refine lv_istore (lv' := [(6, .int (nI ka)), (0, .ref (X 0)), (1, .ref (Y 0)), (2, .int x), (3, .int (nI n))]) hx hb dL_act_112 hl (by decide) rfl (fun ls hl => ?_)
  refine lv_aload_n hx hb dL_act_114 rfl (lv_at hl 2 rfl) ?_
  refine va_get (D := (dC, dI)) (ci := 4) (v := .ref (Y 2)) (C := RX4) (T := TX4) (N := 6) hx hb hts (by decide +kernel) hown hKK.1 (siP0 hP) 0 rfl rfl 4 (by decide) (hts (.fieldLink RL 21 "WidowPenniesLaw$Sim" "deaths" "[I") (by decide +kernel)) (fun _ h9 => h9) rfl dL_act_115 ?_
  refine lv_iload hx hb dL_act_118 (lv_at hl 0 rfl) ?_
  refine va_iald hx hb hKK.1 (siP0 hP) 2 0 rfl rfl (vp_in_nI hka (by omega)) dL_act_120 ?_
  rw [show d (nI ka).toNatClampNeg = d ka from congrArg d (clamp_nI (by omega))]
  refine lv_istore (lv' := [(7, .int (d ka)), (6, .int (nI ka)), (0, .ref (X 0)), (1, .ref (Y 0)), (2, .int x), (3, .int (nI n))]) hx hb dL_act_121 hl (by decide) rfl (fun ls hl => ?_)
  refine lv_aload_n hx hb dL_act_123 rfl (lv_at hl 3 rfl) ?_
  refine va_get (D := (dC, dI)) (ci := 4) (v := .ref (Y 2)) (C := RX4) (T := TX4) (N := 6) hx hb hts (by decide +kernel) hown hKK.1 (siP0 hP) 0 rfl rfl 4 (by decide) (hts (.fieldLink RL 21 "WidowPenniesLaw$Sim" "deaths" "[I") (by decide +kernel)) (fun _ h9 => h9) rfl dL_act_124 ?_
  refine lv_iload hx hb dL_act_127 (lv_at hl 1 rfl) ?_
  refine lv_iload_n hx hb dL_act_129 rfl (lv_at hl 4 rfl) ?_
  refine lv_iconst (v := 3) hx hb dL_act_130 (by decide) ?_
  refine lv_ishr hx hb dL_act_131 ?_
  refine lv_iload_n hx hb dL_act_132 rfl (lv_at hl 4 rfl) ?_
  refine lv_iconst (v := 4) hx hb dL_act_133 (by decide) ?_
  refine rd_i (runS0 (As := [.int x, .int 4]) (rest := [.int (x >>> (3 &&& 31)), .int (nI ka), .ref (Y 2)]) ⟨hx, hb, hml, hown, hts⟩ (met_L_below l dC dI cI cW x 4 (by decide)) (va_cwS 2 hts gL_act_L_below rfl rfl rfl (by decide +kernel) ⟨Nat.le_of_ble_eq_true rfl, Nat.le_of_ble_eq_true rfl⟩) hKK nilP rfl hl.1 (Nat.le_of_ble_eq_true rfl) rfl dL_act_134 ⟨Nat.le_of_ble_eq_true rfl, Nat.le_of_ble_eq_true rfl⟩) (fun r_3 hr_3 => ?_)
  subst hr_3
  refine lv_if_ne (tgt := 146) hx hb dL_act_137 (by decide) (fun c_4 => ?_) (fun c_4 => ?_)
  · obtain ⟨kb, hkb, ekb⟩ := bel_nI (x >>> (3 &&& 31)) (n := 300) (by omega) (by omega)
    have hx4 : 0 ≤ nI kb ∧ nI kb ≤ nI 1000 := le0_nI (by omega) (by omega)
    refine lv_sipush (v := 300) hx hb dL_act_146 (by decide) ?_
    refine rd_i (runS0 (As := [.int (x >>> (3 &&& 31)), .int 300]) (rest := [.int (nI ka), .ref (Y 2)]) ⟨hx, hb, hml, hown, hts⟩ (met_L_below l dC dI cI cW (x >>> (3 &&& 31)) 300 (by decide)) (va_cwS 2 hts gL_act_L_below rfl rfl rfl (by decide +kernel) ⟨Nat.le_of_ble_eq_true rfl, Nat.le_of_ble_eq_true rfl⟩) hKK nilP rfl hl.1 (Nat.le_of_ble_eq_true rfl) rfl dL_act_149 ⟨Nat.le_of_ble_eq_true rfl, Nat.le_of_ble_eq_true rfl⟩) (fun r_5 hr_5 => ?_)
    subst hr_5
    rw [show (belS (x >>> (3 &&& 31)) 300 : Int32) = nI kb from ekb]
    refine va_iast hx hb hKK.1 hP hD hS (27 + 3) 0 (cw_at (k := 3) rfl) rfl (vp_in_nI hka (by omega)) dL_act_152 (fun H locs hP hD hS => ?_)
    rw [clamp_nI (show ka < 2147483648 by omega), cw_aset] at hP hD
    have hP : va_P (dC, dI) vwCl (tab cI X d r ++ (bk cW X Bk n ch pd pr yr Wd ++ (bk cW X Br 0 0 0 0 0 (fun _ _ => 0) ++ (obj X Bk Br :: (si cI cV Y Ya V n (upd d ka (nI kb)) r ch pd yr Wd ++ R))))) H := hP
    have hD : va_D A (tab cI X d r ++ (bk cW X Bk n ch pd pr yr Wd ++ (bk cW X Br 0 0 0 0 0 (fun _ _ => 0) ++ (obj X Bk Br :: (si cI cV Y Ya V n (upd d ka (nI kb)) r ch pd yr Wd ++ R))))) := hD
    refine lv_aload_n hx hb dL_act_153 rfl (lv_at hl 2 rfl) ?_
    refine lv_iload hx hb dL_act_154 (lv_at hl 1 rfl) ?_
    refine lv_bipush (v := 50) hx hb dL_act_156 (by decide) ?_
    refine lv_iadd hx hb dL_act_158 ?_
    rw [show ((nI ka) + 50 : Int32) = nI (ka + 50) from nI_add _ _]
    refine lv_aload_n hx hb dL_act_159 rfl (lv_at hl 3 rfl) ?_
    refine va_get (D := (dC, dI)) (ci := 4) (v := .ref (Y 2)) (C := RX4) (T := TX4) (N := 6) hx hb hts (by decide +kernel) hown hKK.1 (siP0 hP) 0 rfl rfl 4 (by decide) (hts (.fieldLink RL 21 "WidowPenniesLaw$Sim" "deaths" "[I") (by decide +kernel)) (fun _ h9 => h9) rfl dL_act_160 ?_
    refine lv_iload hx hb dL_act_163 (lv_at hl 1 rfl) ?_
    refine va_iald hx hb hKK.1 (siP0 hP) 2 0 rfl rfl (vp_in_nI hka (by omega)) dL_act_165 ?_
    rw [show (upd d ka (nI kb)) (nI ka).toNatClampNeg = (upd d ka (nI kb)) ka from congrArg (upd d ka (nI kb)) (clamp_nI (by omega))]
    rw [show ((upd d ka (nI kb)) ka : Int32) = nI kb from by simp [upd]]
    refine wr_i (runV1 (As := [.int (nI (ka + 50)), .int (nI kb)]) (rest := []) ⟨hx, hb, hml, hown, hts⟩ (met_X3_setDeaths l dC dI cI cW X Bk Br d r n ch pd pr yr Wd 0 0 0 0 0 (fun _ _ => 0) (si cI cV Y Ya V n (upd d ka (nI kb)) r ch pd yr Wd ++ R) (ka + 50) (by omega) (by omega) (nI kb) hx4 _) (cwV 2 hts gL_act_X3_setDeaths rfl rfl rfl (by decide +kernel) ⟨Nat.le_of_ble_eq_true rfl, Nat.le_of_ble_eq_true rfl⟩) hKK hP hD 3 27 rfl cw_obj rfl hl.1 (Nat.le_of_ble_eq_true rfl) rfl dL_act_166 ⟨Nat.le_of_ble_eq_true rfl, Nat.le_of_ble_eq_true rfl⟩) hD hS hA (fun r_9 H locs hr_9 hP hD hS => ?_)
    subst hr_9
    have hP : va_P (dC, dI) vwCl (tab cI X (upd d ((ka + 50) - 50) (nI kb)) r ++ (bk cW X Bk n ch pd pr yr Wd ++ (bk cW X Br 0 0 0 0 0 (fun _ _ => 0) ++ (obj X Bk Br :: (si cI cV Y Ya V n (upd d ka (nI kb)) r ch pd yr Wd ++ R))))) H := hP
    have hD : va_D A (tab cI X (upd d ((ka + 50) - 50) (nI kb)) r ++ (bk cW X Bk n ch pd pr yr Wd ++ (bk cW X Br 0 0 0 0 0 (fun _ _ => 0) ++ (obj X Bk Br :: (si cI cV Y Ya V n (upd d ka (nI kb)) r ch pd yr Wd ++ R))))) := hD
    rw [show (d ((ka + 50) - 50) : Int32) = d ka from by rw [Nat.add_sub_cancel]]
    refine lv_iload hx hb dL_act_169 (lv_at hl 0 rfl) ?_
    refine lv_icmp_ne (tgt := 178) hx hb dL_act_171 (by decide) (fun c_11 => ?_) (fun c_11 => ?_)
    · exact absurd rfl c_11
    · refine lv_iconst (v := 1) hx hb dL_act_174 (by decide) ?_
      refine lv_goto (tgt := 179) hx hb dL_act_175 (by decide) ?_
      rw [Nat.add_sub_cancel] at hP hD
      have hP : va_P (dC, dI) vwCl (tab cI X (upd d ka (nI kb)) r ++ (bk cW X Bk n ch pd pr yr Wd ++ (bk cW X Br 0 0 0 0 0 (fun _ _ => 0) ++ (obj X Bk Br :: (si cI cV Y Ya V n (upd d ka (nI kb)) r ch pd yr Wd ++ R))))) _ := hP
      have hD : va_D A (tab cI X (upd d ka (nI kb)) r ++ (bk cW X Bk n ch pd pr yr Wd ++ (bk cW X Br 0 0 0 0 0 (fun _ _ => 0) ++ (obj X Bk Br :: (si cI cV Y Ya V n (upd d ka (nI kb)) r ch pd yr Wd ++ R))))) := hD
      have hP9 : va_P (dC, dI) vwCl (gW cI cW cV X Bk Br Y R (upd d ka (nI kb), r, n, ch, pd, pr, yr, Wd, Ya, V)) _ := hP
      have hD9 : va_D A (gW cI cW cV X Bk Br Y R (upd d ka (nI kb), r, n, ch, pd, pr, yr, Wd, Ya, V)) := hD
      exact W.zret (v := 1) hx hb hr (by first | rfl | (split <;> rfl)) (fun t ht hW => ⟨⟨_, (upd d ka (nI kb), r, n, ch, pd, pr, yr, Wd, Ya, V), rfl, ⟨rfl, hI.deaths hx4⟩, by rw [ht]; exact hP9, by rw [hAe]; exact hD9⟩, by rw [hAe]; exact hS.F ht⟩) hS.2.2 dL_act_179
  · obtain ⟨kb, hkb, ekb⟩ := bel_nI (x >>> (3 &&& 31)) (n := 1001) (by omega) (by omega)
    have hx4 : 0 ≤ nI kb ∧ nI kb ≤ nI 1000 := le0_nI (by omega) (by omega)
    refine lv_sipush (v := 1001) hx hb dL_act_140 (by decide) ?_
    refine lv_goto (tgt := 149) hx hb dL_act_143 (by decide) ?_
    refine rd_i (runS0 (As := [.int (x >>> (3 &&& 31)), .int 1001]) (rest := [.int (nI ka), .ref (Y 2)]) ⟨hx, hb, hml, hown, hts⟩ (met_L_below l dC dI cI cW (x >>> (3 &&& 31)) 1001 (by decide)) (va_cwS 2 hts gL_act_L_below rfl rfl rfl (by decide +kernel) ⟨Nat.le_of_ble_eq_true rfl, Nat.le_of_ble_eq_true rfl⟩) hKK nilP rfl hl.1 (Nat.le_of_ble_eq_true rfl) rfl dL_act_149 ⟨Nat.le_of_ble_eq_true rfl, Nat.le_of_ble_eq_true rfl⟩) (fun r_12 hr_12 => ?_)
    subst hr_12
    rw [show (belS (x >>> (3 &&& 31)) 1001 : Int32) = nI kb from ekb]
    refine va_iast hx hb hKK.1 hP hD hS (27 + 3) 0 (cw_at (k := 3) rfl) rfl (vp_in_nI hka (by omega)) dL_act_152 (fun H locs hP hD hS => ?_)
    rw [clamp_nI (show ka < 2147483648 by omega), cw_aset] at hP hD
    have hP : va_P (dC, dI) vwCl (tab cI X d r ++ (bk cW X Bk n ch pd pr yr Wd ++ (bk cW X Br 0 0 0 0 0 (fun _ _ => 0) ++ (obj X Bk Br :: (si cI cV Y Ya V n (upd d ka (nI kb)) r ch pd yr Wd ++ R))))) H := hP
    have hD : va_D A (tab cI X d r ++ (bk cW X Bk n ch pd pr yr Wd ++ (bk cW X Br 0 0 0 0 0 (fun _ _ => 0) ++ (obj X Bk Br :: (si cI cV Y Ya V n (upd d ka (nI kb)) r ch pd yr Wd ++ R))))) := hD
    refine lv_aload_n hx hb dL_act_153 rfl (lv_at hl 2 rfl) ?_
    refine lv_iload hx hb dL_act_154 (lv_at hl 1 rfl) ?_
    refine lv_bipush (v := 50) hx hb dL_act_156 (by decide) ?_
    refine lv_iadd hx hb dL_act_158 ?_
    rw [show ((nI ka) + 50 : Int32) = nI (ka + 50) from nI_add _ _]
    refine lv_aload_n hx hb dL_act_159 rfl (lv_at hl 3 rfl) ?_
    refine va_get (D := (dC, dI)) (ci := 4) (v := .ref (Y 2)) (C := RX4) (T := TX4) (N := 6) hx hb hts (by decide +kernel) hown hKK.1 (siP0 hP) 0 rfl rfl 4 (by decide) (hts (.fieldLink RL 21 "WidowPenniesLaw$Sim" "deaths" "[I") (by decide +kernel)) (fun _ h9 => h9) rfl dL_act_160 ?_
    refine lv_iload hx hb dL_act_163 (lv_at hl 1 rfl) ?_
    refine va_iald hx hb hKK.1 (siP0 hP) 2 0 rfl rfl (vp_in_nI hka (by omega)) dL_act_165 ?_
    rw [show (upd d ka (nI kb)) (nI ka).toNatClampNeg = (upd d ka (nI kb)) ka from congrArg (upd d ka (nI kb)) (clamp_nI (by omega))]
    rw [show ((upd d ka (nI kb)) ka : Int32) = nI kb from by simp [upd]]
    refine wr_i (runV1 (As := [.int (nI (ka + 50)), .int (nI kb)]) (rest := []) ⟨hx, hb, hml, hown, hts⟩ (met_X3_setDeaths l dC dI cI cW X Bk Br d r n ch pd pr yr Wd 0 0 0 0 0 (fun _ _ => 0) (si cI cV Y Ya V n (upd d ka (nI kb)) r ch pd yr Wd ++ R) (ka + 50) (by omega) (by omega) (nI kb) hx4 _) (cwV 2 hts gL_act_X3_setDeaths rfl rfl rfl (by decide +kernel) ⟨Nat.le_of_ble_eq_true rfl, Nat.le_of_ble_eq_true rfl⟩) hKK hP hD 3 27 rfl cw_obj rfl hl.1 (Nat.le_of_ble_eq_true rfl) rfl dL_act_166 ⟨Nat.le_of_ble_eq_true rfl, Nat.le_of_ble_eq_true rfl⟩) hD hS hA (fun r_16 H locs hr_16 hP hD hS => ?_)
    subst hr_16
    have hP : va_P (dC, dI) vwCl (tab cI X (upd d ((ka + 50) - 50) (nI kb)) r ++ (bk cW X Bk n ch pd pr yr Wd ++ (bk cW X Br 0 0 0 0 0 (fun _ _ => 0) ++ (obj X Bk Br :: (si cI cV Y Ya V n (upd d ka (nI kb)) r ch pd yr Wd ++ R))))) H := hP
    have hD : va_D A (tab cI X (upd d ((ka + 50) - 50) (nI kb)) r ++ (bk cW X Bk n ch pd pr yr Wd ++ (bk cW X Br 0 0 0 0 0 (fun _ _ => 0) ++ (obj X Bk Br :: (si cI cV Y Ya V n (upd d ka (nI kb)) r ch pd yr Wd ++ R))))) := hD
    rw [show (d ((ka + 50) - 50) : Int32) = d ka from by rw [Nat.add_sub_cancel]]
    refine lv_iload hx hb dL_act_169 (lv_at hl 0 rfl) ?_
    refine lv_icmp_ne (tgt := 178) hx hb dL_act_171 (by decide) (fun c_18 => ?_) (fun c_18 => ?_)
    · exact absurd rfl c_18
    · refine lv_iconst (v := 1) hx hb dL_act_174 (by decide) ?_
      refine lv_goto (tgt := 179) hx hb dL_act_175 (by decide) ?_
      rw [Nat.add_sub_cancel] at hP hD
      have hP : va_P (dC, dI) vwCl (tab cI X (upd d ka (nI kb)) r ++ (bk cW X Bk n ch pd pr yr Wd ++ (bk cW X Br 0 0 0 0 0 (fun _ _ => 0) ++ (obj X Bk Br :: (si cI cV Y Ya V n (upd d ka (nI kb)) r ch pd yr Wd ++ R))))) _ := hP
      have hD : va_D A (tab cI X (upd d ka (nI kb)) r ++ (bk cW X Bk n ch pd pr yr Wd ++ (bk cW X Br 0 0 0 0 0 (fun _ _ => 0) ++ (obj X Bk Br :: (si cI cV Y Ya V n (upd d ka (nI kb)) r ch pd yr Wd ++ R))))) := hD
      have hP9 : va_P (dC, dI) vwCl (gW cI cW cV X Bk Br Y R (upd d ka (nI kb), r, n, ch, pd, pr, yr, Wd, Ya, V)) _ := hP
      have hD9 : va_D A (gW cI cW cV X Bk Br Y R (upd d ka (nI kb), r, n, ch, pd, pr, yr, Wd, Ya, V)) := hD
      exact W.zret (v := 1) hx hb hr (by first | rfl | (split <;> rfl)) (fun t ht hW => ⟨⟨_, (upd d ka (nI kb), r, n, ch, pd, pr, yr, Wd, Ya, V), rfl, ⟨rfl, hI.deaths hx4⟩, by rw [ht]; exact hP9, by rw [hAe]; exact hD9⟩, by rw [hAe]; exact hS.F ht⟩) hS.2.2 dL_act_179
set_option maxHeartbeats 4000000 in
set_option maxRecDepth 100000 in
theorem act_c1 {p : Program} {l : Launch} {e : Env} {s : State} {m : MethodId} {below : List Frame} {meth : Method} {c : Code} {dC : Nat → ClassId} {dI : Nat → Nat → Nat} {cI cW cV : ClassId} {X Bk Br Y : Nat → Nat} {Ya : Nat} {V : Nat → Nat} {d r : Nat → Int32} {n : Nat} {ch pd pr yr : Int32} {Wd : Nat → Nat → Int32} {R : va_W} {x : Int32} {A : Nat → Prop} {i : Nat} (C9 : AC p s m meth c dC dI cI cW cV ([.ref (X 0), .ref (Y 0), .int x] : List Value).toArray) (hAe : va_A (tab cI X d r ++ (bk cW X Bk n ch pd pr yr Wd ++ (bk cW X Br 0 0 0 0 0 (fun _ _ => 0) ++ (obj X Bk Br :: (si cI cV Y Ya V n d r ch pd yr Wd ++ R))))) s.heap.size = A) (hI : Inv2 i d r n ch pr Wd) (hi5 : i ≤ 500) {H : Heap} {locs : List Loc} (hP : va_P (dC, dI) vwCl (tab cI X d r ++ (bk cW X Bk n ch pd pr yr Wd ++ (bk cW X Br 0 0 0 0 0 (fun _ _ => 0) ++ (obj X Bk Br :: (si cI cV Y Ya V n d r ch pd yr Wd ++ R))))) H) (hD : va_D A (tab cI X d r ++ (bk cW X Bk n ch pd pr yr Wd ++ (bk cW X Br 0 0 0 0 0 (fun _ _ => 0) ++ (obj X Bk Br :: (si cI cV Y Ya V n d r ch pd yr Wd ++ R)))))) (hS : va_S A s.heap H locs) {ls : Array Slot} (hl : lv_has ls 19 [(0, .ref (X 0)), (1, .ref (Y 0)), (2, .int x), (3, .int (nI n))]) : W p l e (headSpec wsL_act ({ frames := 8, cells := 2, slots := 17, locals := 156 })).room s m (([.ref (X 0), .ref (Y 0), .int x] : List Value).toArray) below meth c H locs 2 17 (MQ below (QA dC dI cI cW cV X Bk Br Y R (i + 1) (tab cI X d r ++ (bk cW X Bk n ch pd pr yr Wd ++ (bk cW X Br 0 0 0 0 0 (fun _ _ => 0) ++ (obj X Bk Br :: (si cI cV Y Ya V n d r ch pd yr Wd ++ R))))) s.heap.size) ([.ref (X 0), .ref (Y 0), .int x] : List Value).toArray s 2 17 A) (F0 m 180 ls []) := by
  obtain ⟨hx, hb, hr, hml, hown, hts, hlocks, hKS⟩ := C9
  have hKK := hKS.1
  have hKV := hKS.2.1
  have hn := hI.1.2.2.1
  have hok := hI.1.2.2.2.1
  have hi := hI.1.hi.1
  have hi0 := hI.1.hi.2
  have hA : ∀ q : Nat, s.heap.size ≤ q → A q := fun q h => by rw [← hAe]; exact Or.inr h
  obtain ⟨ka, hka, eka⟩ := bel_nI (x >>> (1 &&& 31)) (n := 3) (by omega) (by omega)
  refine lv_iload_n hx hb dL_act_180 rfl (lv_at hl 2 rfl) ?_
  refine lv_iconst (v := 1) hx hb dL_act_181 (by decide) ?_
  refine lv_ishr hx hb dL_act_182 ?_
  refine lv_iconst (v := 3) hx hb dL_act_183 (by decide) ?_
  refine rd_i (runS0 (As := [.int (x >>> (1 &&& 31)), .int 3]) (rest := []) ⟨hx, hb, hml, hown, hts⟩ (met_L_below l dC dI cI cW (x >>> (1 &&& 31)) 3 (by decide)) (va_cwS 2 hts gL_act_L_below rfl rfl rfl (by decide +kernel) ⟨Nat.le_of_ble_eq_true rfl, Nat.le_of_ble_eq_true rfl⟩) hKK nilP rfl hl.1 (Nat.le_of_ble_eq_true rfl) rfl dL_act_184 ⟨Nat.le_of_ble_eq_true rfl, Nat.le_of_ble_eq_true rfl⟩) (fun r_1 hr_1 => ?_)
  subst hr_1
  rw [show (belS (x >>> (1 &&& 31)) 3 : Int32) = nI ka from eka]
  refine lv_istore (lv' := [(8, .int (nI ka)), (0, .ref (X 0)), (1, .ref (Y 0)), (2, .int x), (3, .int (nI n))]) hx hb dL_act_187 hl (by decide) rfl (fun ls hl => ?_)
  refine lv_aload_n hx hb dL_act_189 rfl (lv_at hl 2 rfl) ?_
  refine va_get (D := (dC, dI)) (ci := 4) (v := .ref (Y 1)) (C := RX4) (T := TX4) (N := 6) hx hb hts (by decide +kernel) hown hKK.1 (siP0 hP) 0 rfl rfl 3 (by decide) (hts (.fieldLink RL 30 "WidowPenniesLaw$Sim" "rates" "[I") (by decide +kernel)) (fun _ h9 => h9) rfl dL_act_190 ?_
  refine lv_iload hx hb dL_act_193 (lv_at hl 0 rfl) ?_
  refine va_iald hx hb hKK.1 (siP0 hP) 1 0 rfl rfl (vp_in_nI hka (by omega)) dL_act_195 ?_
  rw [show r (nI ka).toNatClampNeg = r ka from congrArg r (clamp_nI (by omega))]
  refine lv_istore (lv' := [(9, .int (r ka)), (8, .int (nI ka)), (0, .ref (X 0)), (1, .ref (Y 0)), (2, .int x), (3, .int (nI n))]) hx hb dL_act_196 hl (by decide) rfl (fun ls hl => ?_)
  refine lv_aload_n hx hb dL_act_198 rfl (lv_at hl 3 rfl) ?_
  refine va_get (D := (dC, dI)) (ci := 4) (v := .ref (Y 1)) (C := RX4) (T := TX4) (N := 6) hx hb hts (by decide +kernel) hown hKK.1 (siP0 hP) 0 rfl rfl 3 (by decide) (hts (.fieldLink RL 30 "WidowPenniesLaw$Sim" "rates" "[I") (by decide +kernel)) (fun _ h9 => h9) rfl dL_act_199 ?_
  refine lv_iload hx hb dL_act_202 (lv_at hl 1 rfl) ?_
  refine lv_iload_n hx hb dL_act_204 rfl (lv_at hl 4 rfl) ?_
  refine lv_iconst (v := 3) hx hb dL_act_205 (by decide) ?_
  refine lv_ishr hx hb dL_act_206 ?_
  refine lv_iload hx hb dL_act_207 (lv_at hl 1 rfl) ?_
  refine lv_if_ne (tgt := 218) hx hb dL_act_209 (by decide) (fun c_3 => ?_) (fun c_3 => ?_)
  · obtain ⟨kb, hkb, ekb⟩ := bel_nI (x >>> (3 &&& 31)) (n := 51) (by omega) (by omega)
    have hka0 : ¬ ka = 0 := fun q => c_3 (by rw [q]; rfl)
    have hx4 : 0 ≤ nI kb ∧ nI kb ≤ (if ka = 0 then (200 : Int32) else 50) := by rw [if_neg hka0]; exact le0_nI (b := 50) (by omega) (by omega)
    refine lv_bipush (v := 51) hx hb dL_act_218 (by decide) ?_
    refine rd_i (runS0 (As := [.int (x >>> (3 &&& 31)), .int 51]) (rest := [.int (nI ka), .ref (Y 1)]) ⟨hx, hb, hml, hown, hts⟩ (met_L_below l dC dI cI cW (x >>> (3 &&& 31)) 51 (by decide)) (va_cwS 2 hts gL_act_L_below rfl rfl rfl (by decide +kernel) ⟨Nat.le_of_ble_eq_true rfl, Nat.le_of_ble_eq_true rfl⟩) hKK nilP rfl hl.1 (Nat.le_of_ble_eq_true rfl) rfl dL_act_220 ⟨Nat.le_of_ble_eq_true rfl, Nat.le_of_ble_eq_true rfl⟩) (fun r_4 hr_4 => ?_)
    subst hr_4
    rw [show (belS (x >>> (3 &&& 31)) 51 : Int32) = nI kb from ekb]
    refine va_iast hx hb hKK.1 hP hD hS (27 + 2) 0 (cw_at (k := 2) rfl) rfl (vp_in_nI hka (by omega)) dL_act_223 (fun H locs hP hD hS => ?_)
    rw [clamp_nI (show ka < 2147483648 by omega), cw_aset] at hP hD
    have hP : va_P (dC, dI) vwCl (tab cI X d r ++ (bk cW X Bk n ch pd pr yr Wd ++ (bk cW X Br 0 0 0 0 0 (fun _ _ => 0) ++ (obj X Bk Br :: (si cI cV Y Ya V n d (upd r ka (nI kb)) ch pd yr Wd ++ R))))) H := hP
    have hD : va_D A (tab cI X d r ++ (bk cW X Bk n ch pd pr yr Wd ++ (bk cW X Br 0 0 0 0 0 (fun _ _ => 0) ++ (obj X Bk Br :: (si cI cV Y Ya V n d (upd r ka (nI kb)) ch pd yr Wd ++ R))))) := hD
    refine lv_aload_n hx hb dL_act_224 rfl (lv_at hl 2 rfl) ?_
    refine lv_iload hx hb dL_act_225 (lv_at hl 1 rfl) ?_
    refine lv_aload_n hx hb dL_act_227 rfl (lv_at hl 3 rfl) ?_
    refine va_get (D := (dC, dI)) (ci := 4) (v := .ref (Y 1)) (C := RX4) (T := TX4) (N := 6) hx hb hts (by decide +kernel) hown hKK.1 (siP0 hP) 0 rfl rfl 3 (by decide) (hts (.fieldLink RL 30 "WidowPenniesLaw$Sim" "rates" "[I") (by decide +kernel)) (fun _ h9 => h9) rfl dL_act_228 ?_
    refine lv_iload hx hb dL_act_231 (lv_at hl 1 rfl) ?_
    refine va_iald hx hb hKK.1 (siP0 hP) 1 0 rfl rfl (vp_in_nI hka (by omega)) dL_act_233 ?_
    rw [show (upd r ka (nI kb)) (nI ka).toNatClampNeg = (upd r ka (nI kb)) ka from congrArg (upd r ka (nI kb)) (clamp_nI (by omega))]
    rw [show ((upd r ka (nI kb)) ka : Int32) = nI kb from by simp [upd]]
    refine wr_i (runV1 (As := [.int (nI ka), .int (nI kb)]) (rest := []) ⟨hx, hb, hml, hown, hts⟩ (met_X3_setRate l dC dI cI cW X Bk Br d r n ch pd pr yr Wd 0 0 0 0 0 (fun _ _ => 0) (si cI cV Y Ya V n d (upd r ka (nI kb)) ch pd yr Wd ++ R) ka hka (nI kb) hx4 _) (cwV 2 hts gL_act_X3_setRate rfl rfl rfl (by decide +kernel) ⟨Nat.le_of_ble_eq_true rfl, Nat.le_of_ble_eq_true rfl⟩) hKK hP hD 3 27 rfl cw_obj rfl hl.1 (Nat.le_of_ble_eq_true rfl) rfl dL_act_234 ⟨Nat.le_of_ble_eq_true rfl, Nat.le_of_ble_eq_true rfl⟩) hD hS hA (fun r_7 H locs hr_7 hP hD hS => ?_)
    subst hr_7
    have hP : va_P (dC, dI) vwCl (tab cI X d (upd r ka (nI kb)) ++ (bk cW X Bk n ch pd pr yr Wd ++ (bk cW X Br 0 0 0 0 0 (fun _ _ => 0) ++ (obj X Bk Br :: (si cI cV Y Ya V n d (upd r ka (nI kb)) ch pd yr Wd ++ R))))) H := hP
    have hD : va_D A (tab cI X d (upd r ka (nI kb)) ++ (bk cW X Bk n ch pd pr yr Wd ++ (bk cW X Br 0 0 0 0 0 (fun _ _ => 0) ++ (obj X Bk Br :: (si cI cV Y Ya V n d (upd r ka (nI kb)) ch pd yr Wd ++ R))))) := hD
    refine lv_iload hx hb dL_act_237 (lv_at hl 0 rfl) ?_
    refine lv_icmp_ne (tgt := 246) hx hb dL_act_239 (by decide) (fun c_8 => ?_) (fun c_8 => ?_)
    · exact absurd rfl c_8
    · refine lv_iconst (v := 1) hx hb dL_act_242 (by decide) ?_
      refine lv_goto (tgt := 247) hx hb dL_act_243 (by decide) ?_
      have hP9 : va_P (dC, dI) vwCl (gW cI cW cV X Bk Br Y R (d, upd r ka (nI kb), n, ch, pd, pr, yr, Wd, Ya, V)) _ := hP
      have hD9 : va_D A (gW cI cW cV X Bk Br Y R (d, upd r ka (nI kb), n, ch, pd, pr, yr, Wd, Ya, V)) := hD
      exact W.zret (v := 1) hx hb hr (by first | rfl | (split <;> rfl)) (fun t ht hW => ⟨⟨_, (d, upd r ka (nI kb), n, ch, pd, pr, yr, Wd, Ya, V), rfl, ⟨rfl, hI.rates hka hx4⟩, by rw [ht]; exact hP9, by rw [hAe]; exact hD9⟩, by rw [hAe]; exact hS.F ht⟩) hS.2.2 dL_act_247
  · obtain ⟨kb, hkb, ekb⟩ := bel_nI (x >>> (3 &&& 31)) (n := 201) (by omega) (by omega)
    have hka0 : ka = 0 := nI_of0 (by omega) c_3
    have hx4 : 0 ≤ nI kb ∧ nI kb ≤ (if ka = 0 then (200 : Int32) else 50) := by rw [if_pos hka0]; exact le0_nI (b := 200) (by omega) (by omega)
    refine lv_sipush (v := 201) hx hb dL_act_212 (by decide) ?_
    refine lv_goto (tgt := 220) hx hb dL_act_215 (by decide) ?_
    refine rd_i (runS0 (As := [.int (x >>> (3 &&& 31)), .int 201]) (rest := [.int (nI ka), .ref (Y 1)]) ⟨hx, hb, hml, hown, hts⟩ (met_L_below l dC dI cI cW (x >>> (3 &&& 31)) 201 (by decide)) (va_cwS 2 hts gL_act_L_below rfl rfl rfl (by decide +kernel) ⟨Nat.le_of_ble_eq_true rfl, Nat.le_of_ble_eq_true rfl⟩) hKK nilP rfl hl.1 (Nat.le_of_ble_eq_true rfl) rfl dL_act_220 ⟨Nat.le_of_ble_eq_true rfl, Nat.le_of_ble_eq_true rfl⟩) (fun r_9 hr_9 => ?_)
    subst hr_9
    rw [show (belS (x >>> (3 &&& 31)) 201 : Int32) = nI kb from ekb]
    refine va_iast hx hb hKK.1 hP hD hS (27 + 2) 0 (cw_at (k := 2) rfl) rfl (vp_in_nI hka (by omega)) dL_act_223 (fun H locs hP hD hS => ?_)
    rw [clamp_nI (show ka < 2147483648 by omega), cw_aset] at hP hD
    have hP : va_P (dC, dI) vwCl (tab cI X d r ++ (bk cW X Bk n ch pd pr yr Wd ++ (bk cW X Br 0 0 0 0 0 (fun _ _ => 0) ++ (obj X Bk Br :: (si cI cV Y Ya V n d (upd r ka (nI kb)) ch pd yr Wd ++ R))))) H := hP
    have hD : va_D A (tab cI X d r ++ (bk cW X Bk n ch pd pr yr Wd ++ (bk cW X Br 0 0 0 0 0 (fun _ _ => 0) ++ (obj X Bk Br :: (si cI cV Y Ya V n d (upd r ka (nI kb)) ch pd yr Wd ++ R))))) := hD
    refine lv_aload_n hx hb dL_act_224 rfl (lv_at hl 2 rfl) ?_
    refine lv_iload hx hb dL_act_225 (lv_at hl 1 rfl) ?_
    refine lv_aload_n hx hb dL_act_227 rfl (lv_at hl 3 rfl) ?_
    refine va_get (D := (dC, dI)) (ci := 4) (v := .ref (Y 1)) (C := RX4) (T := TX4) (N := 6) hx hb hts (by decide +kernel) hown hKK.1 (siP0 hP) 0 rfl rfl 3 (by decide) (hts (.fieldLink RL 30 "WidowPenniesLaw$Sim" "rates" "[I") (by decide +kernel)) (fun _ h9 => h9) rfl dL_act_228 ?_
    refine lv_iload hx hb dL_act_231 (lv_at hl 1 rfl) ?_
    refine va_iald hx hb hKK.1 (siP0 hP) 1 0 rfl rfl (vp_in_nI hka (by omega)) dL_act_233 ?_
    rw [show (upd r ka (nI kb)) (nI ka).toNatClampNeg = (upd r ka (nI kb)) ka from congrArg (upd r ka (nI kb)) (clamp_nI (by omega))]
    rw [show ((upd r ka (nI kb)) ka : Int32) = nI kb from by simp [upd]]
    refine wr_i (runV1 (As := [.int (nI ka), .int (nI kb)]) (rest := []) ⟨hx, hb, hml, hown, hts⟩ (met_X3_setRate l dC dI cI cW X Bk Br d r n ch pd pr yr Wd 0 0 0 0 0 (fun _ _ => 0) (si cI cV Y Ya V n d (upd r ka (nI kb)) ch pd yr Wd ++ R) ka hka (nI kb) hx4 _) (cwV 2 hts gL_act_X3_setRate rfl rfl rfl (by decide +kernel) ⟨Nat.le_of_ble_eq_true rfl, Nat.le_of_ble_eq_true rfl⟩) hKK hP hD 3 27 rfl cw_obj rfl hl.1 (Nat.le_of_ble_eq_true rfl) rfl dL_act_234 ⟨Nat.le_of_ble_eq_true rfl, Nat.le_of_ble_eq_true rfl⟩) hD hS hA (fun r_12 H locs hr_12 hP hD hS => ?_)
    subst hr_12
    have hP : va_P (dC, dI) vwCl (tab cI X d (upd r ka (nI kb)) ++ (bk cW X Bk n ch pd pr yr Wd ++ (bk cW X Br 0 0 0 0 0 (fun _ _ => 0) ++ (obj X Bk Br :: (si cI cV Y Ya V n d (upd r ka (nI kb)) ch pd yr Wd ++ R))))) H := hP
    have hD : va_D A (tab cI X d (upd r ka (nI kb)) ++ (bk cW X Bk n ch pd pr yr Wd ++ (bk cW X Br 0 0 0 0 0 (fun _ _ => 0) ++ (obj X Bk Br :: (si cI cV Y Ya V n d (upd r ka (nI kb)) ch pd yr Wd ++ R))))) := hD
    refine lv_iload hx hb dL_act_237 (lv_at hl 0 rfl) ?_
    refine lv_icmp_ne (tgt := 246) hx hb dL_act_239 (by decide) (fun c_13 => ?_) (fun c_13 => ?_)
    · exact absurd rfl c_13
    · refine lv_iconst (v := 1) hx hb dL_act_242 (by decide) ?_
      refine lv_goto (tgt := 247) hx hb dL_act_243 (by decide) ?_
      have hP9 : va_P (dC, dI) vwCl (gW cI cW cV X Bk Br Y R (d, upd r ka (nI kb), n, ch, pd, pr, yr, Wd, Ya, V)) _ := hP
      have hD9 : va_D A (gW cI cW cV X Bk Br Y R (d, upd r ka (nI kb), n, ch, pd, pr, yr, Wd, Ya, V)) := hD
      exact W.zret (v := 1) hx hb hr (by first | rfl | (split <;> rfl)) (fun t ht hW => ⟨⟨_, (d, upd r ka (nI kb), n, ch, pd, pr, yr, Wd, Ya, V), rfl, ⟨rfl, hI.rates hka hx4⟩, by rw [ht]; exact hP9, by rw [hAe]; exact hD9⟩, by rw [hAe]; exact hS.F ht⟩) hS.2.2 dL_act_247
set_option maxHeartbeats 4000000 in
set_option maxRecDepth 100000 in
theorem act_c2n {p : Program} {l : Launch} {e : Env} {s : State} {m : MethodId} {below : List Frame} {meth : Method} {c : Code} {dC : Nat → ClassId} {dI : Nat → Nat → Nat} {cI cW cV : ClassId} {X Bk Br Y : Nat → Nat} {Ya : Nat} {V : Nat → Nat} {d r : Nat → Int32} {n : Nat} {ch pd pr yr : Int32} {Wd : Nat → Nat → Int32} {R : va_W} {x : Int32} {A : Nat → Prop} {i : Nat} (C9 : AC p s m meth c dC dI cI cW cV ([.ref (X 0), .ref (Y 0), .int x] : List Value).toArray) (hAe : va_A (tab cI X d r ++ (bk cW X Bk n ch pd pr yr Wd ++ (bk cW X Br 0 0 0 0 0 (fun _ _ => 0) ++ (obj X Bk Br :: (si cI cV Y Ya V n d r ch pd yr Wd ++ R))))) s.heap.size = A) (hI : Inv2 i d r n ch pr Wd) (hi5 : i ≤ 500) (hn0 : n = 0) {H : Heap} {locs : List Loc} (hP : va_P (dC, dI) vwCl (tab cI X d r ++ (bk cW X Bk n ch pd pr yr Wd ++ (bk cW X Br 0 0 0 0 0 (fun _ _ => 0) ++ (obj X Bk Br :: (si cI cV Y Ya V n d r ch pd yr Wd ++ R))))) H) (hD : va_D A (tab cI X d r ++ (bk cW X Bk n ch pd pr yr Wd ++ (bk cW X Br 0 0 0 0 0 (fun _ _ => 0) ++ (obj X Bk Br :: (si cI cV Y Ya V n d r ch pd yr Wd ++ R)))))) (hS : va_S A s.heap H locs) {ls : Array Slot} (hl : lv_has ls 19 [(5, .null), (4, .int 0), (0, .ref (X 0)), (1, .ref (Y 0)), (2, .int x), (3, .int (nI n))]) : W p l e (headSpec wsL_act ({ frames := 8, cells := 2, slots := 17, locals := 156 })).room s m (([.ref (X 0), .ref (Y 0), .int x] : List Value).toArray) below meth c H locs 2 17 (MQ below (QA dC dI cI cW cV X Bk Br Y R (i + 1) (tab cI X d r ++ (bk cW X Bk n ch pd pr yr Wd ++ (bk cW X Br 0 0 0 0 0 (fun _ _ => 0) ++ (obj X Bk Br :: (si cI cV Y Ya V n d r ch pd yr Wd ++ R))))) s.heap.size) ([.ref (X 0), .ref (Y 0), .int x] : List Value).toArray s 2 17 A) (F0 m 248 ls []) := by
  obtain ⟨hx, hb, hr, hml, hown, hts, hlocks, hKS⟩ := C9
  have hKK := hKS.1
  have hKV := hKS.2.1
  have hn := hI.1.2.2.1
  have hok := hI.1.2.2.2.1
  have hi := hI.1.hi.1
  have hi0 := hI.1.hi.2
  have hA : ∀ q : Nat, s.heap.size ≤ q → A q := fun q h => by rw [← hAe]; exact Or.inr h
  refine lv_iload_n hx hb dL_act_248 rfl (lv_at hl 5 rfl) ?_
  refine lv_if_eq (tgt := 268) hx hb dL_act_249 (by decide) (fun c_1 => ?_) (fun c_1 => ?_)
  · refine lv_iconst (v := 1) hx hb dL_act_268 (by decide) ?_
    have hP9 : va_P (dC, dI) vwCl (gW cI cW cV X Bk Br Y R (d, r, n, ch, pd, pr, yr, Wd, Ya, V)) _ := hP
    have hD9 : va_D A (gW cI cW cV X Bk Br Y R (d, r, n, ch, pd, pr, yr, Wd, Ya, V)) := hD
    exact W.zret (v := 1) hx hb hr (by first | rfl | (split <;> rfl)) (fun t ht hW => ⟨⟨_, (d, r, n, ch, pd, pr, yr, Wd, Ya, V), rfl, ⟨rfl, hI.mono (Nat.le_succ i)⟩, by rw [ht]; exact hP9, by rw [hAe]; exact hD9⟩, by rw [hAe]; exact hS.F ht⟩) hS.2.2 dL_act_269
  · exact absurd (by rw [hn0]; rfl) c_1
set_option maxHeartbeats 4000000 in
set_option maxRecDepth 100000 in
theorem act_c3n {p : Program} {l : Launch} {e : Env} {s : State} {m : MethodId} {below : List Frame} {meth : Method} {c : Code} {dC : Nat → ClassId} {dI : Nat → Nat → Nat} {cI cW cV : ClassId} {X Bk Br Y : Nat → Nat} {Ya : Nat} {V : Nat → Nat} {d r : Nat → Int32} {n : Nat} {ch pd pr yr : Int32} {Wd : Nat → Nat → Int32} {R : va_W} {x : Int32} {A : Nat → Prop} {i : Nat} (C9 : AC p s m meth c dC dI cI cW cV ([.ref (X 0), .ref (Y 0), .int x] : List Value).toArray) (hAe : va_A (tab cI X d r ++ (bk cW X Bk n ch pd pr yr Wd ++ (bk cW X Br 0 0 0 0 0 (fun _ _ => 0) ++ (obj X Bk Br :: (si cI cV Y Ya V n d r ch pd yr Wd ++ R))))) s.heap.size = A) (hI : Inv2 i d r n ch pr Wd) (hi5 : i ≤ 500) (hn0 : n = 0) {H : Heap} {locs : List Loc} (hP : va_P (dC, dI) vwCl (tab cI X d r ++ (bk cW X Bk n ch pd pr yr Wd ++ (bk cW X Br 0 0 0 0 0 (fun _ _ => 0) ++ (obj X Bk Br :: (si cI cV Y Ya V n d r ch pd yr Wd ++ R))))) H) (hD : va_D A (tab cI X d r ++ (bk cW X Bk n ch pd pr yr Wd ++ (bk cW X Br 0 0 0 0 0 (fun _ _ => 0) ++ (obj X Bk Br :: (si cI cV Y Ya V n d r ch pd yr Wd ++ R)))))) (hS : va_S A s.heap H locs) {ls : Array Slot} (hl : lv_has ls 19 [(5, .null), (4, .int 0), (0, .ref (X 0)), (1, .ref (Y 0)), (2, .int x), (3, .int (nI n))]) : W p l e (headSpec wsL_act ({ frames := 8, cells := 2, slots := 17, locals := 156 })).room s m (([.ref (X 0), .ref (Y 0), .int x] : List Value).toArray) below meth c H locs 2 17 (MQ below (QA dC dI cI cW cV X Bk Br Y R (i + 1) (tab cI X d r ++ (bk cW X Bk n ch pd pr yr Wd ++ (bk cW X Br 0 0 0 0 0 (fun _ _ => 0) ++ (obj X Bk Br :: (si cI cV Y Ya V n d r ch pd yr Wd ++ R))))) s.heap.size) ([.ref (X 0), .ref (Y 0), .int x] : List Value).toArray s 2 17 A) (F0 m 301 ls []) := by
  obtain ⟨hx, hb, hr, hml, hown, hts, hlocks, hKS⟩ := C9
  have hKK := hKS.1
  have hKV := hKS.2.1
  have hn := hI.1.2.2.1
  have hok := hI.1.2.2.2.1
  have hi := hI.1.hi.1
  have hi0 := hI.1.hi.2
  have hA : ∀ q : Nat, s.heap.size ≤ q → A q := fun q h => by rw [← hAe]; exact Or.inr h
  refine lv_iload_n hx hb dL_act_301 rfl (lv_at hl 5 rfl) ?_
  refine lv_if_eq (tgt := 330) hx hb dL_act_302 (by decide) (fun c_1 => ?_) (fun c_1 => ?_)
  · refine lv_iconst (v := 1) hx hb dL_act_330 (by decide) ?_
    have hP9 : va_P (dC, dI) vwCl (gW cI cW cV X Bk Br Y R (d, r, n, ch, pd, pr, yr, Wd, Ya, V)) _ := hP
    have hD9 : va_D A (gW cI cW cV X Bk Br Y R (d, r, n, ch, pd, pr, yr, Wd, Ya, V)) := hD
    exact W.zret (v := 1) hx hb hr (by first | rfl | (split <;> rfl)) (fun t ht hW => ⟨⟨_, (d, r, n, ch, pd, pr, yr, Wd, Ya, V), rfl, ⟨rfl, hI.mono (Nat.le_succ i)⟩, by rw [ht]; exact hP9, by rw [hAe]; exact hD9⟩, by rw [hAe]; exact hS.F ht⟩) hS.2.2 dL_act_331
  · exact absurd (by rw [hn0]; rfl) c_1
set_option maxHeartbeats 4000000 in
set_option maxRecDepth 100000 in
theorem act_c2k {p : Program} {l : Launch} {e : Env} {s : State} {m : MethodId} {below : List Frame} {meth : Method} {c : Code} {dC : Nat → ClassId} {dI : Nat → Nat → Nat} {cI cW cV : ClassId} {X Bk Br Y : Nat → Nat} {Ya : Nat} {V : Nat → Nat} {d r : Nat → Int32} {n : Nat} {ch pd pr yr : Int32} {Wd : Nat → Nat → Int32} {R : va_W} {x : Int32} {A : Nat → Prop} {i : Nat} (C9 : AC p s m meth c dC dI cI cW cV ([.ref (X 0), .ref (Y 0), .int x] : List Value).toArray) (hAe : va_A (tab cI X d r ++ (bk cW X Bk n ch pd pr yr Wd ++ (bk cW X Br 0 0 0 0 0 (fun _ _ => 0) ++ (obj X Bk Br :: (si cI cV Y Ya V n d r ch pd yr Wd ++ R))))) s.heap.size = A) (hI : Inv2 i d r n ch pr Wd) (hi5 : i ≤ 500) {k : Nat} (hk : k < n) {H : Heap} {locs : List Loc} (hP : va_P (dC, dI) vwCl (tab cI X d r ++ (bk cW X Bk n ch pd pr yr Wd ++ (bk cW X Br 0 0 0 0 0 (fun _ _ => 0) ++ (obj X Bk Br :: (si cI cV Y Ya V n d r ch pd yr Wd ++ R))))) H) (hD : va_D A (tab cI X d r ++ (bk cW X Bk n ch pd pr yr Wd ++ (bk cW X Br 0 0 0 0 0 (fun _ _ => 0) ++ (obj X Bk Br :: (si cI cV Y Ya V n d r ch pd yr Wd ++ R)))))) (hS : va_S A s.heap H locs) {ls : Array Slot} (hl : lv_has ls 19 [(5, .ref (V k)), (4, .int (nI k)), (0, .ref (X 0)), (1, .ref (Y 0)), (2, .int x), (3, .int (nI n))]) : W p l e (headSpec wsL_act ({ frames := 8, cells := 2, slots := 17, locals := 156 })).room s m (([.ref (X 0), .ref (Y 0), .int x] : List Value).toArray) below meth c H locs 2 17 (MQ below (QA dC dI cI cW cV X Bk Br Y R (i + 1) (tab cI X d r ++ (bk cW X Bk n ch pd pr yr Wd ++ (bk cW X Br 0 0 0 0 0 (fun _ _ => 0) ++ (obj X Bk Br :: (si cI cV Y Ya V n d r ch pd yr Wd ++ R))))) s.heap.size) ([.ref (X 0), .ref (Y 0), .int x] : List Value).toArray s 2 17 A) (F0 m 248 ls []) := by
  obtain ⟨hx, hb, hr, hml, hown, hts, hlocks, hKS⟩ := C9
  have hKK := hKS.1
  have hKV := hKS.2.1
  have hn := hI.1.2.2.1
  have hok := hI.1.2.2.2.1
  have hi := hI.1.hi.1
  have hi0 := hI.1.hi.2
  have hA : ∀ q : Nat, s.heap.size ≤ q → A q := fun q h => by rw [← hAe]; exact Or.inr h
  refine lv_iload_n hx hb dL_act_248 rfl (lv_at hl 5 rfl) ?_
  refine lv_if_eq (tgt := 268) hx hb dL_act_249 (by decide) (fun c_1 => ?_) (fun c_1 => ?_)
  · exact absurd c_1 (nI_ne0 (by omega) (by omega))
  · refine lv_aload hx hb dL_act_252 (lv_at hl 0 rfl) ?_
    refine va_get (D := (dC, dI)) (ci := 5) (v := .int (Wd k 4)) (C := RX5) (T := TX5) (N := 7) hx hb hts (by decide +kernel) hown hKK.1 (siP0 hP) (k + 4) (si_at0 hk) rfl 4 (by decide) (hts (.fieldLink RL 36 "WidowPenniesLaw$Widow" "state" "I") (by decide +kernel)) (fun _ h9 => h9) rfl dL_act_254 ?_
    refine lv_if_ne (tgt := 268) hx hb dL_act_257 (by decide) (fun c_2 => ?_) (fun c_2 => ?_)
    · refine lv_iconst (v := 1) hx hb dL_act_268 (by decide) ?_
      have hP9 : va_P (dC, dI) vwCl (gW cI cW cV X Bk Br Y R (d, r, n, ch, pd, pr, yr, Wd, Ya, V)) _ := hP
      have hD9 : va_D A (gW cI cW cV X Bk Br Y R (d, r, n, ch, pd, pr, yr, Wd, Ya, V)) := hD
      exact W.zret (v := 1) hx hb hr (by first | rfl | (split <;> rfl)) (fun t ht hW => ⟨⟨_, (d, r, n, ch, pd, pr, yr, Wd, Ya, V), rfl, ⟨rfl, hI.mono (Nat.le_succ i)⟩, by rw [ht]; exact hP9, by rw [hAe]; exact hD9⟩, by rw [hAe]; exact hS.F ht⟩) hS.2.2 dL_act_269
    · have hal : Wd k 4 = 0 := c_2
      refine lv_iload_n hx hb dL_act_260 rfl (lv_at hl 4 rfl) ?_
      refine lv_iconst (v := 2) hx hb dL_act_261 (by decide) ?_
      refine rd_i (runS0 (As := [.int x, .int 2]) (rest := []) ⟨hx, hb, hml, hown, hts⟩ (met_L_below l dC dI cI cW x 2 (by decide)) (va_cwS 2 hts gL_act_L_below rfl rfl rfl (by decide +kernel) ⟨Nat.le_of_ble_eq_true rfl, Nat.le_of_ble_eq_true rfl⟩) hKK nilP rfl hl.1 (Nat.le_of_ble_eq_true rfl) rfl dL_act_262 ⟨Nat.le_of_ble_eq_true rfl, Nat.le_of_ble_eq_true rfl⟩) (fun r_3 hr_3 => ?_)
      subst hr_3
      refine lv_if_ne (tgt := 270) hx hb dL_act_265 (by decide) (fun c_4 => ?_) (fun c_4 => ?_)
      · refine lv_aload_n hx hb dL_act_270 rfl (lv_at hl 3 rfl) ?_
        refine lv_aload hx hb dL_act_271 (lv_at hl 0 rfl) ?_
        refine rd_i (runV0S (As := [.ref (V k)]) (rest := []) ⟨hx, hb, hml, hown, hts⟩ (met_X4_kept l dC dI cI cW cV Y Ya V n d r ch pd yr Wd k hk (hok k hk) hi) (cwV 1 hts gL_act_X4_kept rfl rfl rfl (by decide +kernel) ⟨Nat.le_of_ble_eq_true rfl, Nat.le_of_ble_eq_true rfl⟩) hKS (siP0 hP) 4 0 rfl rfl rfl hl.1 (Nat.le_of_ble_eq_true rfl) rfl dL_act_273 ⟨Nat.le_of_ble_eq_true rfl, Nat.le_of_ble_eq_true rfl⟩) (fun r_5 hr_5 => ?_)
        subst hr_5
        refine lv_istore (lv' := [(10, .int (keptS d (r 0) (Wd k))), (5, .ref (V k)), (4, .int (nI k)), (0, .ref (X 0)), (1, .ref (Y 0)), (2, .int x), (3, .int (nI n))]) hx hb dL_act_276 hl (by decide) rfl (fun ls hl => ?_)
        refine lv_aload hx hb dL_act_278 (lv_at hl 1 rfl) ?_
        refine lv_iconst (v := 1) hx hb dL_act_280 (by decide) ?_
        refine va_put (D := (dC, dI)) (ci := 5) (v := .int 1) (ty := .int) (C := RX5) (T := TX5) (N := 7) hx hb hts (by decide +kernel) tyX5 tyX5_ok nmX5 hown hKK.1 hP hD hS (27 + (k + 4 + 1)) (cs_at hk) rfl 4 (by decide) (hts (.fieldLink RL 36 "WidowPenniesLaw$Widow" "state" "I") (by decide +kernel)) (fun _ h9 => h9) rfl (by decide +kernel) rfl rfl (Nat.le_of_ble_eq_true rfl) dL_act_281 (fun H locs hP hD hS => ?_)
        have hP : va_P (dC, dI) vwCl (tab cI X d r ++ (bk cW X Bk n ch pd pr yr Wd ++ (bk cW X Br 0 0 0 0 0 (fun _ _ => 0) ++ (obj X Bk Br :: (si cI cV Y Ya V n d r ch pd yr (upW Wd k (upd (Wd k) 4 1)) ++ R))))) H := by rw [← cs_set (g := upd (Wd k) 4 1) hk]; exact hP
        have hD : va_D A (tab cI X d r ++ (bk cW X Bk n ch pd pr yr Wd ++ (bk cW X Br 0 0 0 0 0 (fun _ _ => 0) ++ (obj X Bk Br :: (si cI cV Y Ya V n d r ch pd yr (upW Wd k (upd (Wd k) 4 1)) ++ R))))) := by rw [← cs_set (g := upd (Wd k) 4 1) hk]; exact hD
        refine lv_aload_n hx hb dL_act_284 rfl (lv_at hl 3 rfl) ?_
        refine lv_iload hx hb dL_act_285 (lv_at hl 2 rfl) ?_
        refine wr_i (runV1 (As := [.int (nI k)]) (rest := []) ⟨hx, hb, hml, hown, hts⟩ (met_X3_die l dC dI cI cW X Bk Br d r n ch pd pr yr Wd 0 0 0 0 0 (fun _ _ => 0) (si cI cV Y Ya V n d r ch pd yr (upW Wd k (upd (Wd k) 4 1)) ++ R) hn hok k hk hal hi hi0 _) (cwV 1 hts gL_act_X3_die rfl rfl rfl (by decide +kernel) ⟨Nat.le_of_ble_eq_true rfl, Nat.le_of_ble_eq_true rfl⟩) hKK hP hD 3 27 rfl cw_obj rfl hl.1 (Nat.le_of_ble_eq_true rfl) rfl dL_act_287 ⟨Nat.le_of_ble_eq_true rfl, Nat.le_of_ble_eq_true rfl⟩) hD hS hA (fun r_6 H locs hr_6 hP hD hS => ?_)
        subst hr_6
        have hP : va_P (dC, dI) vwCl (tab cI X d r ++ (bk cW X Bk n ch pd pr yr (upW Wd k (upd (Wd k) 4 1)) ++ (bk cW X Br 0 0 0 0 0 (fun _ _ => 0) ++ (obj X Bk Br :: (si cI cV Y Ya V n d r ch pd yr (upW Wd k (upd (Wd k) 4 1)) ++ R))))) H := hP
        have hD : va_D A (tab cI X d r ++ (bk cW X Bk n ch pd pr yr (upW Wd k (upd (Wd k) 4 1)) ++ (bk cW X Br 0 0 0 0 0 (fun _ _ => 0) ++ (obj X Bk Br :: (si cI cV Y Ya V n d r ch pd yr (upW Wd k (upd (Wd k) 4 1)) ++ R))))) := hD
        refine lv_iload hx hb dL_act_290 (lv_at hl 0 rfl) ?_
        refine lv_icmp_ne (tgt := 299) hx hb dL_act_292 (by decide) (fun c_7 => ?_) (fun c_7 => ?_)
        · exact absurd rfl c_7
        · refine lv_iconst (v := 1) hx hb dL_act_295 (by decide) ?_
          refine lv_goto (tgt := 300) hx hb dL_act_296 (by decide) ?_
          have hP9 : va_P (dC, dI) vwCl (gW cI cW cV X Bk Br Y R (d, r, n, ch, pd, pr, yr, upW Wd k (upd (Wd k) 4 1), Ya, V)) _ := hP
          have hD9 : va_D A (gW cI cW cV X Bk Br Y R (d, r, n, ch, pd, pr, yr, upW Wd k (upd (Wd k) 4 1), Ya, V)) := hD
          exact W.zret (v := 1) hx hb hr (by first | rfl | (split <;> rfl)) (fun t ht hW => ⟨⟨_, (d, r, n, ch, pd, pr, yr, upW Wd k (upd (Wd k) 4 1), Ya, V), rfl, ⟨rfl, hI.die k⟩, by rw [ht]; exact hP9, by rw [hAe]; exact hD9⟩, by rw [hAe]; exact hS.F ht⟩) hS.2.2 dL_act_300
      · refine lv_iconst (v := 1) hx hb dL_act_268 (by decide) ?_
        have hP9 : va_P (dC, dI) vwCl (gW cI cW cV X Bk Br Y R (d, r, n, ch, pd, pr, yr, Wd, Ya, V)) _ := hP
        have hD9 : va_D A (gW cI cW cV X Bk Br Y R (d, r, n, ch, pd, pr, yr, Wd, Ya, V)) := hD
        exact W.zret (v := 1) hx hb hr (by first | rfl | (split <;> rfl)) (fun t ht hW => ⟨⟨_, (d, r, n, ch, pd, pr, yr, Wd, Ya, V), rfl, ⟨rfl, hI.mono (Nat.le_succ i)⟩, by rw [ht]; exact hP9, by rw [hAe]; exact hD9⟩, by rw [hAe]; exact hS.F ht⟩) hS.2.2 dL_act_269
set_option maxHeartbeats 4000000 in
set_option maxRecDepth 100000 in
theorem act_c3k {p : Program} {l : Launch} {e : Env} {s : State} {m : MethodId} {below : List Frame} {meth : Method} {c : Code} {dC : Nat → ClassId} {dI : Nat → Nat → Nat} {cI cW cV : ClassId} {X Bk Br Y : Nat → Nat} {Ya : Nat} {V : Nat → Nat} {d r : Nat → Int32} {n : Nat} {ch pd pr yr : Int32} {Wd : Nat → Nat → Int32} {R : va_W} {x : Int32} {A : Nat → Prop} {i : Nat} (C9 : AC p s m meth c dC dI cI cW cV ([.ref (X 0), .ref (Y 0), .int x] : List Value).toArray) (hAe : va_A (tab cI X d r ++ (bk cW X Bk n ch pd pr yr Wd ++ (bk cW X Br 0 0 0 0 0 (fun _ _ => 0) ++ (obj X Bk Br :: (si cI cV Y Ya V n d r ch pd yr Wd ++ R))))) s.heap.size = A) (hI : Inv2 i d r n ch pr Wd) (hi5 : i ≤ 500) {k : Nat} (hk : k < n) {H : Heap} {locs : List Loc} (hP : va_P (dC, dI) vwCl (tab cI X d r ++ (bk cW X Bk n ch pd pr yr Wd ++ (bk cW X Br 0 0 0 0 0 (fun _ _ => 0) ++ (obj X Bk Br :: (si cI cV Y Ya V n d r ch pd yr Wd ++ R))))) H) (hD : va_D A (tab cI X d r ++ (bk cW X Bk n ch pd pr yr Wd ++ (bk cW X Br 0 0 0 0 0 (fun _ _ => 0) ++ (obj X Bk Br :: (si cI cV Y Ya V n d r ch pd yr Wd ++ R)))))) (hS : va_S A s.heap H locs) {ls : Array Slot} (hl : lv_has ls 19 [(5, .ref (V k)), (4, .int (nI k)), (0, .ref (X 0)), (1, .ref (Y 0)), (2, .int x), (3, .int (nI n))]) : W p l e (headSpec wsL_act ({ frames := 8, cells := 2, slots := 17, locals := 156 })).room s m (([.ref (X 0), .ref (Y 0), .int x] : List Value).toArray) below meth c H locs 2 17 (MQ below (QA dC dI cI cW cV X Bk Br Y R (i + 1) (tab cI X d r ++ (bk cW X Bk n ch pd pr yr Wd ++ (bk cW X Br 0 0 0 0 0 (fun _ _ => 0) ++ (obj X Bk Br :: (si cI cV Y Ya V n d r ch pd yr Wd ++ R))))) s.heap.size) ([.ref (X 0), .ref (Y 0), .int x] : List Value).toArray s 2 17 A) (F0 m 301 ls []) := by
  obtain ⟨hx, hb, hr, hml, hown, hts, hlocks, hKS⟩ := C9
  have hKK := hKS.1
  have hKV := hKS.2.1
  have hn := hI.1.2.2.1
  have hok := hI.1.2.2.2.1
  have hi := hI.1.hi.1
  have hi0 := hI.1.hi.2
  have hA : ∀ q : Nat, s.heap.size ≤ q → A q := fun q h => by rw [← hAe]; exact Or.inr h
  refine lv_iload_n hx hb dL_act_301 rfl (lv_at hl 5 rfl) ?_
  refine lv_if_eq (tgt := 330) hx hb dL_act_302 (by decide) (fun c_1 => ?_) (fun c_1 => ?_)
  · exact absurd c_1 (nI_ne0 (by omega) (by omega))
  · refine lv_aload hx hb dL_act_305 (lv_at hl 0 rfl) ?_
    refine va_get (D := (dC, dI)) (ci := 5) (v := .int (Wd k 4)) (C := RX5) (T := TX5) (N := 7) hx hb hts (by decide +kernel) hown hKK.1 (siP0 hP) (k + 4) (si_at0 hk) rfl 4 (by decide) (hts (.fieldLink RL 36 "WidowPenniesLaw$Widow" "state" "I") (by decide +kernel)) (fun _ h9 => h9) rfl dL_act_307 ?_
    refine lv_if_ne (tgt := 330) hx hb dL_act_310 (by decide) (fun c_2 => ?_) (fun c_2 => ?_)
    · refine lv_iconst (v := 1) hx hb dL_act_330 (by decide) ?_
      have hP9 : va_P (dC, dI) vwCl (gW cI cW cV X Bk Br Y R (d, r, n, ch, pd, pr, yr, Wd, Ya, V)) _ := hP
      have hD9 : va_D A (gW cI cW cV X Bk Br Y R (d, r, n, ch, pd, pr, yr, Wd, Ya, V)) := hD
      exact W.zret (v := 1) hx hb hr (by first | rfl | (split <;> rfl)) (fun t ht hW => ⟨⟨_, (d, r, n, ch, pd, pr, yr, Wd, Ya, V), rfl, ⟨rfl, hI.mono (Nat.le_succ i)⟩, by rw [ht]; exact hP9, by rw [hAe]; exact hD9⟩, by rw [hAe]; exact hS.F ht⟩) hS.2.2 dL_act_331
    · have hal : Wd k 4 = 0 := c_2
      refine lv_aload hx hb dL_act_313 (lv_at hl 0 rfl) ?_
      refine va_get (D := (dC, dI)) (ci := 5) (v := .int (Wd k 3)) (C := RX5) (T := TX5) (N := 7) hx hb hts (by decide +kernel) hown hKK.1 (siP0 hP) (k + 4) (si_at0 hk) rfl 3 (by decide) (hts (.fieldLink RL 50 "WidowPenniesLaw$Widow" "since" "I") (by decide +kernel)) (fun _ h9 => h9) rfl dL_act_315 ?_
      refine lv_iconst (v := 2) hx hb dL_act_318 (by decide) ?_
      refine lv_icmp_lt (tgt := 330) hx hb dL_act_319 (by decide) (fun c_3 => ?_) (fun c_3 => ?_)
      · refine lv_iconst (v := 1) hx hb dL_act_330 (by decide) ?_
        have hP9 : va_P (dC, dI) vwCl (gW cI cW cV X Bk Br Y R (d, r, n, ch, pd, pr, yr, Wd, Ya, V)) _ := hP
        have hD9 : va_D A (gW cI cW cV X Bk Br Y R (d, r, n, ch, pd, pr, yr, Wd, Ya, V)) := hD
        exact W.zret (v := 1) hx hb hr (by first | rfl | (split <;> rfl)) (fun t ht hW => ⟨⟨_, (d, r, n, ch, pd, pr, yr, Wd, Ya, V), rfl, ⟨rfl, hI.mono (Nat.le_succ i)⟩, by rw [ht]; exact hP9, by rw [hAe]; exact hD9⟩, by rw [hAe]; exact hS.F ht⟩) hS.2.2 dL_act_331
      · have hsi : 2 ≤ Wd k 3 := Int32.not_lt.mp c_3
        refine lv_iload_n hx hb dL_act_322 rfl (lv_at hl 4 rfl) ?_
        refine lv_iconst (v := 3) hx hb dL_act_323 (by decide) ?_
        refine rd_i (runS0 (As := [.int x, .int 3]) (rest := []) ⟨hx, hb, hml, hown, hts⟩ (met_L_below l dC dI cI cW x 3 (by decide)) (va_cwS 2 hts gL_act_L_below rfl rfl rfl (by decide +kernel) ⟨Nat.le_of_ble_eq_true rfl, Nat.le_of_ble_eq_true rfl⟩) hKK nilP rfl hl.1 (Nat.le_of_ble_eq_true rfl) rfl dL_act_324 ⟨Nat.le_of_ble_eq_true rfl, Nat.le_of_ble_eq_true rfl⟩) (fun r_4 hr_4 => ?_)
        subst hr_4
        refine lv_if_le (tgt := 332) hx hb dL_act_327 (by decide) (fun c_5 => ?_) (fun c_5 => ?_)
        · refine lv_aload_n hx hb dL_act_332 rfl (lv_at hl 3 rfl) ?_
          refine lv_aload hx hb dL_act_333 (lv_at hl 0 rfl) ?_
          refine rd_i (runV0S (As := [.ref (V k)]) (rest := []) ⟨hx, hb, hml, hown, hts⟩ (met_X4_back l dC dI cI cW cV Y Ya V n d r ch pd yr Wd k hk (hok k hk) hi) (cwV 1 hts gL_act_X4_back rfl rfl rfl (by decide +kernel) ⟨Nat.le_of_ble_eq_true rfl, Nat.le_of_ble_eq_true rfl⟩) hKS (siP0 hP) 4 0 rfl rfl rfl hl.1 (Nat.le_of_ble_eq_true rfl) rfl dL_act_335 ⟨Nat.le_of_ble_eq_true rfl, Nat.le_of_ble_eq_true rfl⟩) (fun r_6 hr_6 => ?_)
          subst hr_6
          refine lv_istore (lv' := [(11, .int (backS d r (Wd k))), (5, .ref (V k)), (4, .int (nI k)), (0, .ref (X 0)), (1, .ref (Y 0)), (2, .int x), (3, .int (nI n))]) hx hb dL_act_338 hl (by decide) rfl (fun ls hl => ?_)
          refine lv_aload_n hx hb dL_act_340 rfl (lv_at hl 4 rfl) ?_
          refine lv_dup hx hb dL_act_341 rfl ?_
          refine va_get (D := (dC, dI)) (ci := 4) (v := .int ch) (C := RX4) (T := TX4) (N := 6) hx hb hts (by decide +kernel) hown hKK.1 (siP0 hP) 0 rfl rfl 1 (by decide) (hts (.fieldLink RL 56 "WidowPenniesLaw$Sim" "chest" "I") (by decide +kernel)) (fun _ h9 => h9) rfl dL_act_342 ?_
          refine lv_iload hx hb dL_act_345 (lv_at hl 0 rfl) ?_
          refine lv_isub hx hb dL_act_347 ?_
          refine va_put (D := (dC, dI)) (ci := 4) (v := .int (ch - (backS d r (Wd k)))) (ty := .int) (C := RX4) (T := TX4) (N := 6) hx hb hts (by decide +kernel) tyX4 tyX4_ok nmX4 hown hKK.1 hP hD hS (27 + 1) (cw_at (k := 1) rfl) rfl 1 (by decide) (hts (.fieldLink RL 56 "WidowPenniesLaw$Sim" "chest" "I") (by decide +kernel)) (fun _ h9 => h9) rfl (by decide +kernel) rfl rfl (Nat.le_of_ble_eq_true rfl) dL_act_348 (fun H locs hP hD hS => ?_)
          rw [cw_aset] at hP hD
          have hP : va_P (dC, dI) vwCl (tab cI X d r ++ (bk cW X Bk n ch pd pr yr Wd ++ (bk cW X Br 0 0 0 0 0 (fun _ _ => 0) ++ (obj X Bk Br :: (si cI cV Y Ya V n d r (ch - (backS d r (Wd k))) pd yr Wd ++ R))))) H := hP
          have hD : va_D A (tab cI X d r ++ (bk cW X Bk n ch pd pr yr Wd ++ (bk cW X Br 0 0 0 0 0 (fun _ _ => 0) ++ (obj X Bk Br :: (si cI cV Y Ya V n d r (ch - (backS d r (Wd k))) pd yr Wd ++ R))))) := hD
          refine lv_aload_n hx hb dL_act_351 rfl (lv_at hl 4 rfl) ?_
          refine lv_dup hx hb dL_act_352 rfl ?_
          refine va_get (D := (dC, dI)) (ci := 4) (v := .int pd) (C := RX4) (T := TX4) (N := 6) hx hb hts (by decide +kernel) hown hKK.1 (siP0 hP) 0 rfl rfl 2 (by decide) (hts (.fieldLink RL 59 "WidowPenniesLaw$Sim" "out" "I") (by decide +kernel)) (fun _ h9 => h9) rfl dL_act_353 ?_
          refine lv_iload hx hb dL_act_356 (lv_at hl 0 rfl) ?_
          refine lv_iadd hx hb dL_act_358 ?_
          refine va_put (D := (dC, dI)) (ci := 4) (v := .int (pd + (backS d r (Wd k)))) (ty := .int) (C := RX4) (T := TX4) (N := 6) hx hb hts (by decide +kernel) tyX4 tyX4_ok nmX4 hown hKK.1 hP hD hS (27 + 1) (cw_at (k := 1) rfl) rfl 2 (by decide) (hts (.fieldLink RL 59 "WidowPenniesLaw$Sim" "out" "I") (by decide +kernel)) (fun _ h9 => h9) rfl (by decide +kernel) rfl rfl (Nat.le_of_ble_eq_true rfl) dL_act_359 (fun H locs hP hD hS => ?_)
          rw [cw_aset] at hP hD
          have hP : va_P (dC, dI) vwCl (tab cI X d r ++ (bk cW X Bk n ch pd pr yr Wd ++ (bk cW X Br 0 0 0 0 0 (fun _ _ => 0) ++ (obj X Bk Br :: (si cI cV Y Ya V n d r (ch - (backS d r (Wd k))) (pd + (backS d r (Wd k))) yr Wd ++ R))))) H := hP
          have hD : va_D A (tab cI X d r ++ (bk cW X Bk n ch pd pr yr Wd ++ (bk cW X Br 0 0 0 0 0 (fun _ _ => 0) ++ (obj X Bk Br :: (si cI cV Y Ya V n d r (ch - (backS d r (Wd k))) (pd + (backS d r (Wd k))) yr Wd ++ R))))) := hD
          refine lv_aload hx hb dL_act_362 (lv_at hl 1 rfl) ?_
          refine lv_dup hx hb dL_act_364 rfl ?_
          refine va_get (D := (dC, dI)) (ci := 5) (v := .int (Wd k 5)) (C := RX5) (T := TX5) (N := 7) hx hb hts (by decide +kernel) hown hKK.1 (siP0 hP) (k + 4) (si_at0 hk) rfl 5 (by decide) (hts (.fieldLink RL 62 "WidowPenniesLaw$Widow" "got" "I") (by decide +kernel)) (fun _ h9 => h9) rfl dL_act_365 ?_
          refine lv_iload hx hb dL_act_368 (lv_at hl 0 rfl) ?_
          refine lv_iadd hx hb dL_act_370 ?_
          refine va_put (D := (dC, dI)) (ci := 5) (v := .int ((Wd k 5) + (backS d r (Wd k)))) (ty := .int) (C := RX5) (T := TX5) (N := 7) hx hb hts (by decide +kernel) tyX5 tyX5_ok nmX5 hown hKK.1 hP hD hS (27 + (k + 4 + 1)) (cs_at hk) rfl 5 (by decide) (hts (.fieldLink RL 62 "WidowPenniesLaw$Widow" "got" "I") (by decide +kernel)) (fun _ h9 => h9) rfl (by decide +kernel) rfl rfl (Nat.le_of_ble_eq_true rfl) dL_act_371 (fun H locs hP hD hS => ?_)
          have hP : va_P (dC, dI) vwCl (tab cI X d r ++ (bk cW X Bk n ch pd pr yr Wd ++ (bk cW X Br 0 0 0 0 0 (fun _ _ => 0) ++ (obj X Bk Br :: (si cI cV Y Ya V n d r (ch - (backS d r (Wd k))) (pd + (backS d r (Wd k))) yr (upW Wd k (upd (Wd k) 5 ((Wd k 5) + (backS d r (Wd k))))) ++ R))))) H := by rw [← cs_set (g := upd (Wd k) 5 ((Wd k 5) + (backS d r (Wd k)))) hk]; exact hP
          have hD : va_D A (tab cI X d r ++ (bk cW X Bk n ch pd pr yr Wd ++ (bk cW X Br 0 0 0 0 0 (fun _ _ => 0) ++ (obj X Bk Br :: (si cI cV Y Ya V n d r (ch - (backS d r (Wd k))) (pd + (backS d r (Wd k))) yr (upW Wd k (upd (Wd k) 5 ((Wd k 5) + (backS d r (Wd k))))) ++ R))))) := by rw [← cs_set (g := upd (Wd k) 5 ((Wd k 5) + (backS d r (Wd k)))) hk]; exact hD
          refine lv_aload hx hb dL_act_374 (lv_at hl 1 rfl) ?_
          refine lv_iconst (v := 2) hx hb dL_act_376 (by decide) ?_
          refine va_put (D := (dC, dI)) (ci := 5) (v := .int 2) (ty := .int) (C := RX5) (T := TX5) (N := 7) hx hb hts (by decide +kernel) tyX5 tyX5_ok nmX5 hown hKK.1 hP hD hS (27 + (k + 4 + 1)) (cs_atU hk) rfl 4 (by decide) (hts (.fieldLink RL 36 "WidowPenniesLaw$Widow" "state" "I") (by decide +kernel)) (fun _ h9 => h9) rfl (by decide +kernel) rfl rfl (Nat.le_of_ble_eq_true rfl) dL_act_377 (fun H locs hP hD hS => ?_)
          have hP : va_P (dC, dI) vwCl (tab cI X d r ++ (bk cW X Bk n ch pd pr yr Wd ++ (bk cW X Br 0 0 0 0 0 (fun _ _ => 0) ++ (obj X Bk Br :: (si cI cV Y Ya V n d r (ch - (backS d r (Wd k))) (pd + (backS d r (Wd k))) yr (upW Wd k (upd (upd (Wd k) 5 ((Wd k 5) + (backS d r (Wd k)))) 4 2)) ++ R))))) H := by rw [← cs_setU (g := upd (Wd k) 5 ((Wd k 5) + (backS d r (Wd k)))) (g1 := upd (upd (Wd k) 5 ((Wd k 5) + (backS d r (Wd k)))) 4 2) hk]; exact hP
          have hD : va_D A (tab cI X d r ++ (bk cW X Bk n ch pd pr yr Wd ++ (bk cW X Br 0 0 0 0 0 (fun _ _ => 0) ++ (obj X Bk Br :: (si cI cV Y Ya V n d r (ch - (backS d r (Wd k))) (pd + (backS d r (Wd k))) yr (upW Wd k (upd (upd (Wd k) 5 ((Wd k 5) + (backS d r (Wd k)))) 4 2)) ++ R))))) := by rw [← cs_setU (g := upd (Wd k) 5 ((Wd k 5) + (backS d r (Wd k)))) (g1 := upd (upd (Wd k) 5 ((Wd k 5) + (backS d r (Wd k)))) 4 2) hk]; exact hD
          refine lv_aload_n hx hb dL_act_380 rfl (lv_at hl 3 rfl) ?_
          refine lv_iload hx hb dL_act_381 (lv_at hl 2 rfl) ?_
          refine wr_i (runV1 (As := [.int (nI k)]) (rest := []) ⟨hx, hb, hml, hown, hts⟩ (met_X3_giveUp l dC dI cI cW X Bk Br d r n ch pd pr yr Wd 0 0 0 0 0 (fun _ _ => 0) (si cI cV Y Ya V n d r (ch - (backS d r (Wd k))) (pd + (backS d r (Wd k))) yr (upW Wd k (upd (upd (Wd k) 5 ((Wd k 5) + (backS d r (Wd k)))) 4 2)) ++ R) hn hok k hk (⟨hal, hsi⟩) hi hi0 _) (cwV 1 hts gL_act_X3_giveUp rfl rfl rfl (by decide +kernel) ⟨Nat.le_of_ble_eq_true rfl, Nat.le_of_ble_eq_true rfl⟩) hKK hP hD 3 27 rfl cw_obj rfl hl.1 (Nat.le_of_ble_eq_true rfl) rfl dL_act_383 ⟨Nat.le_of_ble_eq_true rfl, Nat.le_of_ble_eq_true rfl⟩) hD hS hA (fun r_7 H locs hr_7 hP hD hS => ?_)
          subst hr_7
          have hP : va_P (dC, dI) vwCl (tab cI X d r ++ (bk cW X Bk n (ch - backS d r (Wd k)) (pd + backS d r (Wd k)) pr yr (upW Wd k (upd (upd (Wd k) 4 2) 5 (Wd k 5 + backS d r (Wd k)))) ++ (bk cW X Br 0 0 0 0 0 (fun _ _ => 0) ++ (obj X Bk Br :: (si cI cV Y Ya V n d r (ch - (backS d r (Wd k))) (pd + (backS d r (Wd k))) yr (upW Wd k (upd (upd (Wd k) 5 ((Wd k 5) + (backS d r (Wd k)))) 4 2)) ++ R))))) H := hP
          have hD : va_D A (tab cI X d r ++ (bk cW X Bk n (ch - backS d r (Wd k)) (pd + backS d r (Wd k)) pr yr (upW Wd k (upd (upd (Wd k) 4 2) 5 (Wd k 5 + backS d r (Wd k)))) ++ (bk cW X Br 0 0 0 0 0 (fun _ _ => 0) ++ (obj X Bk Br :: (si cI cV Y Ya V n d r (ch - (backS d r (Wd k))) (pd + (backS d r (Wd k))) yr (upW Wd k (upd (upd (Wd k) 5 ((Wd k 5) + (backS d r (Wd k)))) 4 2)) ++ R))))) := hD
          refine lv_iload hx hb dL_act_386 (lv_at hl 0 rfl) ?_
          refine lv_icmp_ne (tgt := 395) hx hb dL_act_388 (by decide) (fun c_8 => ?_) (fun c_8 => ?_)
          · exact absurd rfl c_8
          · refine lv_iconst (v := 1) hx hb dL_act_391 (by decide) ?_
            refine lv_goto (tgt := 396) hx hb dL_act_392 (by decide) ?_
            rw [upd_comm (Wd k) (show (5 : Nat) ≠ 4 by decide)] at hP hD
            have hP : va_P (dC, dI) vwCl (tab cI X d r ++ (bk cW X Bk n (ch - backS d r (Wd k)) (pd + backS d r (Wd k)) pr yr (upW Wd k (upd (upd (Wd k) 4 2) 5 (Wd k 5 + backS d r (Wd k)))) ++ (bk cW X Br 0 0 0 0 0 (fun _ _ => 0) ++ (obj X Bk Br :: (si cI cV Y Ya V n d r (ch - (backS d r (Wd k))) (pd + (backS d r (Wd k))) yr (upW Wd k (upd (upd (Wd k) 4 2) 5 (Wd k 5 + (backS d r (Wd k))))) ++ R))))) _ := hP
            have hD : va_D A (tab cI X d r ++ (bk cW X Bk n (ch - backS d r (Wd k)) (pd + backS d r (Wd k)) pr yr (upW Wd k (upd (upd (Wd k) 4 2) 5 (Wd k 5 + backS d r (Wd k)))) ++ (bk cW X Br 0 0 0 0 0 (fun _ _ => 0) ++ (obj X Bk Br :: (si cI cV Y Ya V n d r (ch - (backS d r (Wd k))) (pd + (backS d r (Wd k))) yr (upW Wd k (upd (upd (Wd k) 4 2) 5 (Wd k 5 + (backS d r (Wd k))))) ++ R))))) := hD
            have hP9 : va_P (dC, dI) vwCl (gW cI cW cV X Bk Br Y R (d, r, n, ch - backS d r (Wd k), pd + backS d r (Wd k), pr, yr, upW Wd k (upd (upd (Wd k) 4 2) 5 (Wd k 5 + backS d r (Wd k))), Ya, V)) _ := hP
            have hD9 : va_D A (gW cI cW cV X Bk Br Y R (d, r, n, ch - backS d r (Wd k), pd + backS d r (Wd k), pr, yr, upW Wd k (upd (upd (Wd k) 4 2) 5 (Wd k 5 + backS d r (Wd k))), Ya, V)) := hD
            exact W.zret (v := 1) hx hb hr (by first | rfl | (split <;> rfl)) (fun t ht hW => ⟨⟨_, (d, r, n, ch - backS d r (Wd k), pd + backS d r (Wd k), pr, yr, upW Wd k (upd (upd (Wd k) 4 2) 5 (Wd k 5 + backS d r (Wd k))), Ya, V), rfl, ⟨rfl, hI.giveUp (by omega) k hk⟩, by rw [ht]; exact hP9, by rw [hAe]; exact hD9⟩, by rw [hAe]; exact hS.F ht⟩) hS.2.2 dL_act_396
        · refine lv_iconst (v := 1) hx hb dL_act_330 (by decide) ?_
          have hP9 : va_P (dC, dI) vwCl (gW cI cW cV X Bk Br Y R (d, r, n, ch, pd, pr, yr, Wd, Ya, V)) _ := hP
          have hD9 : va_D A (gW cI cW cV X Bk Br Y R (d, r, n, ch, pd, pr, yr, Wd, Ya, V)) := hD
          exact W.zret (v := 1) hx hb hr (by first | rfl | (split <;> rfl)) (fun t ht hW => ⟨⟨_, (d, r, n, ch, pd, pr, yr, Wd, Ya, V), rfl, ⟨rfl, hI.mono (Nat.le_succ i)⟩, by rw [ht]; exact hP9, by rw [hAe]; exact hD9⟩, by rw [hAe]; exact hS.F ht⟩) hS.2.2 dL_act_331
set_option maxHeartbeats 4000000 in
set_option maxRecDepth 100000 in
theorem act_c5 {p : Program} {l : Launch} {e : Env} {s : State} {m : MethodId} {below : List Frame} {meth : Method} {c : Code} {dC : Nat → ClassId} {dI : Nat → Nat → Nat} {cI cW cV : ClassId} {X Bk Br Y : Nat → Nat} {Ya : Nat} {V : Nat → Nat} {d r : Nat → Int32} {n : Nat} {ch pd pr yr : Int32} {Wd : Nat → Nat → Int32} {R : va_W} {x : Int32} {A : Nat → Prop} {i : Nat} (C9 : AC p s m meth c dC dI cI cW cV ([.ref (X 0), .ref (Y 0), .int x] : List Value).toArray) (hAe : va_A (tab cI X d r ++ (bk cW X Bk n ch pd pr yr Wd ++ (bk cW X Br 0 0 0 0 0 (fun _ _ => 0) ++ (obj X Bk Br :: (si cI cV Y Ya V n d r ch pd yr Wd ++ R))))) s.heap.size = A) (hI : Inv2 i d r n ch pr Wd) (hi5 : i ≤ 500) {H : Heap} {locs : List Loc} (hP : va_P (dC, dI) vwCl (tab cI X d r ++ (bk cW X Bk n ch pd pr yr Wd ++ (bk cW X Br 0 0 0 0 0 (fun _ _ => 0) ++ (obj X Bk Br :: (si cI cV Y Ya V n d r ch pd yr Wd ++ R))))) H) (hD : va_D A (tab cI X d r ++ (bk cW X Bk n ch pd pr yr Wd ++ (bk cW X Br 0 0 0 0 0 (fun _ _ => 0) ++ (obj X Bk Br :: (si cI cV Y Ya V n d r ch pd yr Wd ++ R)))))) (hS : va_S A s.heap H locs) {ls : Array Slot} (hl : lv_has ls 19 [(0, .ref (X 0)), (1, .ref (Y 0)), (2, .int x), (3, .int (nI n))]) : W p l e (headSpec wsL_act ({ frames := 8, cells := 2, slots := 17, locals := 156 })).room s m (([.ref (X 0), .ref (Y 0), .int x] : List Value).toArray) below meth c H locs 2 17 (MQ below (QA dC dI cI cW cV X Bk Br Y R (i + 1) (tab cI X d r ++ (bk cW X Bk n ch pd pr yr Wd ++ (bk cW X Br 0 0 0 0 0 (fun _ _ => 0) ++ (obj X Bk Br :: (si cI cV Y Ya V n d r ch pd yr Wd ++ R))))) s.heap.size) ([.ref (X 0), .ref (Y 0), .int x] : List Value).toArray s 2 17 A) (F0 m 397 ls []) := by
  obtain ⟨hx, hb, hr, hml, hown, hts, hlocks, hKS⟩ := C9
  have hKK := hKS.1
  have hKV := hKS.2.1
  have hn := hI.1.2.2.1
  have hok := hI.1.2.2.2.1
  have hi := hI.1.hi.1
  have hi0 := hI.1.hi.2
  have hA : ∀ q : Nat, s.heap.size ≤ q → A q := fun q h => by rw [← hAe]; exact Or.inr h
  refine lv_iload_n hx hb dL_act_397 rfl (lv_at hl 2 rfl) ?_
  refine lv_iconst (v := 2) hx hb dL_act_398 (by decide) ?_
  refine lv_ishr hx hb dL_act_399 ?_
  refine lv_iload_n hx hb dL_act_400 rfl (lv_at hl 2 rfl) ?_
  refine lv_iconst (v := 4) hx hb dL_act_401 (by decide) ?_
  refine rd_i (runS0 (As := [.int x, .int 4]) (rest := [.int (x >>> (2 &&& 31))]) ⟨hx, hb, hml, hown, hts⟩ (met_L_below l dC dI cI cW x 4 (by decide)) (va_cwS 2 hts gL_act_L_below rfl rfl rfl (by decide +kernel) ⟨Nat.le_of_ble_eq_true rfl, Nat.le_of_ble_eq_true rfl⟩) hKK nilP rfl hl.1 (Nat.le_of_ble_eq_true rfl) rfl dL_act_402 ⟨Nat.le_of_ble_eq_true rfl, Nat.le_of_ble_eq_true rfl⟩) (fun r_1 hr_1 => ?_)
  subst hr_1
  refine lv_if_ne (tgt := 413) hx hb dL_act_405 (by decide) (fun c_2 => ?_) (fun c_2 => ?_)
  · obtain ⟨kb, hkb, ekb⟩ := bel_nI (x >>> (2 &&& 31)) (n := 9001) (by omega) (by omega)
    have hx9 : -99999 ≤ nI kb - nI 3000 ∧ nI kb - nI 3000 ≤ 99999 := put_rng (b := 6000) (by omega) (by omega) (by omega)
    have hz5 := c_2
    refine lv_sipush (v := 9001) hx hb dL_act_413 (by decide) ?_
    refine rd_i (runS0 (As := [.int (x >>> (2 &&& 31)), .int 9001]) (rest := []) ⟨hx, hb, hml, hown, hts⟩ (met_L_below l dC dI cI cW (x >>> (2 &&& 31)) 9001 (by decide)) (va_cwS 2 hts gL_act_L_below rfl rfl rfl (by decide +kernel) ⟨Nat.le_of_ble_eq_true rfl, Nat.le_of_ble_eq_true rfl⟩) hKK nilP rfl hl.1 (Nat.le_of_ble_eq_true rfl) rfl dL_act_416 ⟨Nat.le_of_ble_eq_true rfl, Nat.le_of_ble_eq_true rfl⟩) (fun r_3 hr_3 => ?_)
    subst hr_3
    rw [show (belS (x >>> (2 &&& 31)) 9001 : Int32) = nI kb from ekb]
    refine lv_iload_n hx hb dL_act_419 rfl (lv_at hl 2 rfl) ?_
    refine lv_iconst (v := 4) hx hb dL_act_420 (by decide) ?_
    refine rd_i (runS0 (As := [.int x, .int 4]) (rest := [.int (nI kb)]) ⟨hx, hb, hml, hown, hts⟩ (met_L_below l dC dI cI cW x 4 (by decide)) (va_cwS 2 hts gL_act_L_below rfl rfl rfl (by decide +kernel) ⟨Nat.le_of_ble_eq_true rfl, Nat.le_of_ble_eq_true rfl⟩) hKK nilP rfl hl.1 (Nat.le_of_ble_eq_true rfl) rfl dL_act_421 ⟨Nat.le_of_ble_eq_true rfl, Nat.le_of_ble_eq_true rfl⟩) (fun r_5 hr_5 => ?_)
    subst hr_5
    refine lv_if_ne (tgt := 432) hx hb dL_act_424 (by decide) (fun c_6 => ?_) (fun c_6 => ?_)
    · refine lv_sipush (v := 3000) hx hb dL_act_432 (by decide) ?_
      refine lv_isub hx hb dL_act_435 ?_
      rw [show ((nI kb) - 3000 : Int32) = nI kb - nI 3000 from rfl]
      refine lv_istore (lv' := [(12, .int (nI kb - nI 3000)), (0, .ref (X 0)), (1, .ref (Y 0)), (2, .int x), (3, .int (nI n))]) hx hb dL_act_436 hl (by decide) rfl (fun ls hl => ?_)
      refine lv_aload_n hx hb dL_act_438 rfl (lv_at hl 2 rfl) ?_
      refine lv_iload hx hb dL_act_439 (lv_at hl 0 rfl) ?_
      refine lv_i2l hx hb dL_act_441 rfl ?_
      have hP : va_P (dC, dI) vwCl (si cI cV Y Ya V n d r ch pd yr Wd ++ (tab cI X d r ++ (bk cW X Bk n ch pd pr yr Wd ++ (bk cW X Br 0 0 0 0 0 (fun _ _ => 0) ++ (obj X Bk Br :: (R)))))) _ := va_P_perm (pm_in0 _ _ _ _ _ _) hP
      have hD : va_D A (si cI cV Y Ya V n d r ch pd yr Wd ++ (tab cI X d r ++ (bk cW X Bk n ch pd pr yr Wd ++ (bk cW X Br 0 0 0 0 0 (fun _ _ => 0) ++ (obj X Bk Br :: (R)))))) := va_D_perm (pm_in0 _ _ _ _ _ _) hD
      refine wr_v (runV1S (As := [.long ((nI kb - nI 3000).toInt64)]) (rest := []) ⟨hx, hb, hml, hown, hts⟩ (met_X4_come l dC dI cI cW cV Y Ya V n d r ch pd yr Wd (tab cI X d r ++ (bk cW X Bk n ch pd pr yr Wd ++ (bk cW X Br 0 0 0 0 0 (fun _ _ => 0) ++ (obj X Bk Br :: (R))))) ((nI kb - nI 3000).toInt64) _) (cwV 1 hts gL_act_X4_come rfl rfl rfl (by decide +kernel) ⟨Nat.le_of_ble_eq_true rfl, Nat.le_of_ble_eq_true rfl⟩) hKS hP hD 4 0 rfl rfl rfl hl.1 (Nat.le_of_ble_eq_true rfl) rfl dL_act_442 ⟨Nat.le_of_ble_eq_true rfl, Nat.le_of_ble_eq_true rfl⟩) hD hS hA (fun H locs hP hD hS => ?_)
      have hP : va_P (dC, dI) vwCl (tab cI X d r ++ (bk cW X Bk n ch pd pr yr Wd ++ (bk cW X Br 0 0 0 0 0 (fun _ _ => 0) ++ (obj X Bk Br :: (si cI cV Y Ya V n d r (comeS ch ((nI kb - nI 3000).toInt64)) pd yr Wd ++ R))))) H := va_P_perm (pm_in0 _ _ _ _ _ _).symm hP
      have hD : va_D A (tab cI X d r ++ (bk cW X Bk n ch pd pr yr Wd ++ (bk cW X Br 0 0 0 0 0 (fun _ _ => 0) ++ (obj X Bk Br :: (si cI cV Y Ya V n d r (comeS ch ((nI kb - nI 3000).toInt64)) pd yr Wd ++ R))))) := va_D_perm (pm_in0 _ _ _ _ _ _).symm hD
      refine lv_aload_n hx hb dL_act_445 rfl (lv_at hl 1 rfl) ?_
      refine lv_iload hx hb dL_act_446 (lv_at hl 0 rfl) ?_
      refine wr_i (runV1 (As := [.int (nI kb - nI 3000)]) (rest := []) ⟨hx, hb, hml, hown, hts⟩ (met_X3_put l dC dI cI cW X Bk Br d r n ch pd pr yr Wd 0 0 0 0 0 (fun _ _ => 0) (si cI cV Y Ya V n d r (comeS ch ((nI kb - nI 3000).toInt64)) pd yr Wd ++ R) (nI kb - nI 3000) hx9 _) (cwV 1 hts gL_act_X3_put rfl rfl rfl (by decide +kernel) ⟨Nat.le_of_ble_eq_true rfl, Nat.le_of_ble_eq_true rfl⟩) hKK hP hD 3 27 rfl cw_obj rfl hl.1 (Nat.le_of_ble_eq_true rfl) rfl dL_act_448 ⟨Nat.le_of_ble_eq_true rfl, Nat.le_of_ble_eq_true rfl⟩) hD hS hA (fun r_8 H locs hr_8 hP hD hS => ?_)
      subst hr_8
      have hP : va_P (dC, dI) vwCl (tab cI X d r ++ (bk cW X Bk n (takeS ch (nI kb - nI 3000)) pd pr yr Wd ++ (bk cW X Br 0 0 0 0 0 (fun _ _ => 0) ++ (obj X Bk Br :: (si cI cV Y Ya V n d r (comeS ch ((nI kb - nI 3000).toInt64)) pd yr Wd ++ R))))) H := hP
      have hD : va_D A (tab cI X d r ++ (bk cW X Bk n (takeS ch (nI kb - nI 3000)) pd pr yr Wd ++ (bk cW X Br 0 0 0 0 0 (fun _ _ => 0) ++ (obj X Bk Br :: (si cI cV Y Ya V n d r (comeS ch ((nI kb - nI 3000).toInt64)) pd yr Wd ++ R))))) := hD
      refine lv_aload_n hx hb dL_act_451 rfl (lv_at hl 2 rfl) ?_
      refine va_get (D := (dC, dI)) (ci := 4) (v := .int (comeS ch ((nI kb - nI 3000).toInt64))) (C := RX4) (T := TX4) (N := 6) hx hb hts (by decide +kernel) hown hKK.1 (siP0 hP) 0 rfl rfl 1 (by decide) (hts (.fieldLink RL 56 "WidowPenniesLaw$Sim" "chest" "I") (by decide +kernel)) (fun _ h9 => h9) rfl dL_act_452 ?_
      refine lv_icmp_ne (tgt := 462) hx hb dL_act_455 (by decide) (fun c_9 => ?_) (fun c_9 => ?_)
      · exact absurd (hI.put (by omega) hx9).1.symm c_9
      · refine lv_iconst (v := 1) hx hb dL_act_458 (by decide) ?_
        refine lv_goto (tgt := 463) hx hb dL_act_459 (by decide) ?_
        rw [(hI.put (by omega) hx9).1] at hP hD
        have hP : va_P (dC, dI) vwCl (tab cI X d r ++ (bk cW X Bk n (takeS ch (nI kb - nI 3000)) pd pr yr Wd ++ (bk cW X Br 0 0 0 0 0 (fun _ _ => 0) ++ (obj X Bk Br :: (si cI cV Y Ya V n d r (takeS ch (nI kb - nI 3000)) pd yr Wd ++ R))))) _ := hP
        have hD : va_D A (tab cI X d r ++ (bk cW X Bk n (takeS ch (nI kb - nI 3000)) pd pr yr Wd ++ (bk cW X Br 0 0 0 0 0 (fun _ _ => 0) ++ (obj X Bk Br :: (si cI cV Y Ya V n d r (takeS ch (nI kb - nI 3000)) pd yr Wd ++ R))))) := hD
        have hP9 : va_P (dC, dI) vwCl (gW cI cW cV X Bk Br Y R (d, r, n, takeS ch (nI kb - nI 3000), pd, pr, yr, Wd, Ya, V)) _ := hP
        have hD9 : va_D A (gW cI cW cV X Bk Br Y R (d, r, n, takeS ch (nI kb - nI 3000), pd, pr, yr, Wd, Ya, V)) := hD
        exact W.zret (v := 1) hx hb hr (by first | rfl | (split <;> rfl)) (fun t ht hW => ⟨⟨_, (d, r, n, takeS ch (nI kb - nI 3000), pd, pr, yr, Wd, Ya, V), rfl, ⟨rfl, (hI.put (by omega) hx9).2⟩, by rw [ht]; exact hP9, by rw [hAe]; exact hD9⟩, by rw [hAe]; exact hS.F ht⟩) hS.2.2 dL_act_463
    · exact absurd c_6 hz5
  · obtain ⟨kb, hkb, ekb⟩ := bel_nI (x >>> (2 &&& 31)) (n := 199999) (by omega) (by omega)
    have hx9 : -99999 ≤ nI kb - nI 99999 ∧ nI kb - nI 99999 ≤ 99999 := put_rng (b := 99999) (by omega) (by omega) (by omega)
    have hz5 := c_2
    refine lv_ldc (v := 199999) hx hb hown (hts (.constant RL 68 199999) (by decide +kernel)) dL_act_408 ?_
    refine lv_goto (tgt := 416) hx hb dL_act_410 (by decide) ?_
    refine rd_i (runS0 (As := [.int (x >>> (2 &&& 31)), .int 199999]) (rest := []) ⟨hx, hb, hml, hown, hts⟩ (met_L_below l dC dI cI cW (x >>> (2 &&& 31)) 199999 (by decide)) (va_cwS 2 hts gL_act_L_below rfl rfl rfl (by decide +kernel) ⟨Nat.le_of_ble_eq_true rfl, Nat.le_of_ble_eq_true rfl⟩) hKK nilP rfl hl.1 (Nat.le_of_ble_eq_true rfl) rfl dL_act_416 ⟨Nat.le_of_ble_eq_true rfl, Nat.le_of_ble_eq_true rfl⟩) (fun r_10 hr_10 => ?_)
    subst hr_10
    rw [show (belS (x >>> (2 &&& 31)) 199999 : Int32) = nI kb from ekb]
    refine lv_iload_n hx hb dL_act_419 rfl (lv_at hl 2 rfl) ?_
    refine lv_iconst (v := 4) hx hb dL_act_420 (by decide) ?_
    refine rd_i (runS0 (As := [.int x, .int 4]) (rest := [.int (nI kb)]) ⟨hx, hb, hml, hown, hts⟩ (met_L_below l dC dI cI cW x 4 (by decide)) (va_cwS 2 hts gL_act_L_below rfl rfl rfl (by decide +kernel) ⟨Nat.le_of_ble_eq_true rfl, Nat.le_of_ble_eq_true rfl⟩) hKK nilP rfl hl.1 (Nat.le_of_ble_eq_true rfl) rfl dL_act_421 ⟨Nat.le_of_ble_eq_true rfl, Nat.le_of_ble_eq_true rfl⟩) (fun r_12 hr_12 => ?_)
    subst hr_12
    refine lv_if_ne (tgt := 432) hx hb dL_act_424 (by decide) (fun c_13 => ?_) (fun c_13 => ?_)
    · exact absurd hz5 c_13
    · refine lv_ldc (v := 99999) hx hb hown (hts (.constant RL 69 99999) (by decide +kernel)) dL_act_427 ?_
      refine lv_goto (tgt := 435) hx hb dL_act_429 (by decide) ?_
      refine lv_isub hx hb dL_act_435 ?_
      rw [show ((nI kb) - 99999 : Int32) = nI kb - nI 99999 from rfl]
      refine lv_istore (lv' := [(12, .int (nI kb - nI 99999)), (0, .ref (X 0)), (1, .ref (Y 0)), (2, .int x), (3, .int (nI n))]) hx hb dL_act_436 hl (by decide) rfl (fun ls hl => ?_)
      refine lv_aload_n hx hb dL_act_438 rfl (lv_at hl 2 rfl) ?_
      refine lv_iload hx hb dL_act_439 (lv_at hl 0 rfl) ?_
      refine lv_i2l hx hb dL_act_441 rfl ?_
      have hP : va_P (dC, dI) vwCl (si cI cV Y Ya V n d r ch pd yr Wd ++ (tab cI X d r ++ (bk cW X Bk n ch pd pr yr Wd ++ (bk cW X Br 0 0 0 0 0 (fun _ _ => 0) ++ (obj X Bk Br :: (R)))))) _ := va_P_perm (pm_in0 _ _ _ _ _ _) hP
      have hD : va_D A (si cI cV Y Ya V n d r ch pd yr Wd ++ (tab cI X d r ++ (bk cW X Bk n ch pd pr yr Wd ++ (bk cW X Br 0 0 0 0 0 (fun _ _ => 0) ++ (obj X Bk Br :: (R)))))) := va_D_perm (pm_in0 _ _ _ _ _ _) hD
      refine wr_v (runV1S (As := [.long ((nI kb - nI 99999).toInt64)]) (rest := []) ⟨hx, hb, hml, hown, hts⟩ (met_X4_come l dC dI cI cW cV Y Ya V n d r ch pd yr Wd (tab cI X d r ++ (bk cW X Bk n ch pd pr yr Wd ++ (bk cW X Br 0 0 0 0 0 (fun _ _ => 0) ++ (obj X Bk Br :: (R))))) ((nI kb - nI 99999).toInt64) _) (cwV 1 hts gL_act_X4_come rfl rfl rfl (by decide +kernel) ⟨Nat.le_of_ble_eq_true rfl, Nat.le_of_ble_eq_true rfl⟩) hKS hP hD 4 0 rfl rfl rfl hl.1 (Nat.le_of_ble_eq_true rfl) rfl dL_act_442 ⟨Nat.le_of_ble_eq_true rfl, Nat.le_of_ble_eq_true rfl⟩) hD hS hA (fun H locs hP hD hS => ?_)
      have hP : va_P (dC, dI) vwCl (tab cI X d r ++ (bk cW X Bk n ch pd pr yr Wd ++ (bk cW X Br 0 0 0 0 0 (fun _ _ => 0) ++ (obj X Bk Br :: (si cI cV Y Ya V n d r (comeS ch ((nI kb - nI 99999).toInt64)) pd yr Wd ++ R))))) H := va_P_perm (pm_in0 _ _ _ _ _ _).symm hP
      have hD : va_D A (tab cI X d r ++ (bk cW X Bk n ch pd pr yr Wd ++ (bk cW X Br 0 0 0 0 0 (fun _ _ => 0) ++ (obj X Bk Br :: (si cI cV Y Ya V n d r (comeS ch ((nI kb - nI 99999).toInt64)) pd yr Wd ++ R))))) := va_D_perm (pm_in0 _ _ _ _ _ _).symm hD
      refine lv_aload_n hx hb dL_act_445 rfl (lv_at hl 1 rfl) ?_
      refine lv_iload hx hb dL_act_446 (lv_at hl 0 rfl) ?_
      refine wr_i (runV1 (As := [.int (nI kb - nI 99999)]) (rest := []) ⟨hx, hb, hml, hown, hts⟩ (met_X3_put l dC dI cI cW X Bk Br d r n ch pd pr yr Wd 0 0 0 0 0 (fun _ _ => 0) (si cI cV Y Ya V n d r (comeS ch ((nI kb - nI 99999).toInt64)) pd yr Wd ++ R) (nI kb - nI 99999) hx9 _) (cwV 1 hts gL_act_X3_put rfl rfl rfl (by decide +kernel) ⟨Nat.le_of_ble_eq_true rfl, Nat.le_of_ble_eq_true rfl⟩) hKK hP hD 3 27 rfl cw_obj rfl hl.1 (Nat.le_of_ble_eq_true rfl) rfl dL_act_448 ⟨Nat.le_of_ble_eq_true rfl, Nat.le_of_ble_eq_true rfl⟩) hD hS hA (fun r_15 H locs hr_15 hP hD hS => ?_)
      subst hr_15
      have hP : va_P (dC, dI) vwCl (tab cI X d r ++ (bk cW X Bk n (takeS ch (nI kb - nI 99999)) pd pr yr Wd ++ (bk cW X Br 0 0 0 0 0 (fun _ _ => 0) ++ (obj X Bk Br :: (si cI cV Y Ya V n d r (comeS ch ((nI kb - nI 99999).toInt64)) pd yr Wd ++ R))))) H := hP
      have hD : va_D A (tab cI X d r ++ (bk cW X Bk n (takeS ch (nI kb - nI 99999)) pd pr yr Wd ++ (bk cW X Br 0 0 0 0 0 (fun _ _ => 0) ++ (obj X Bk Br :: (si cI cV Y Ya V n d r (comeS ch ((nI kb - nI 99999).toInt64)) pd yr Wd ++ R))))) := hD
      refine lv_aload_n hx hb dL_act_451 rfl (lv_at hl 2 rfl) ?_
      refine va_get (D := (dC, dI)) (ci := 4) (v := .int (comeS ch ((nI kb - nI 99999).toInt64))) (C := RX4) (T := TX4) (N := 6) hx hb hts (by decide +kernel) hown hKK.1 (siP0 hP) 0 rfl rfl 1 (by decide) (hts (.fieldLink RL 56 "WidowPenniesLaw$Sim" "chest" "I") (by decide +kernel)) (fun _ h9 => h9) rfl dL_act_452 ?_
      refine lv_icmp_ne (tgt := 462) hx hb dL_act_455 (by decide) (fun c_16 => ?_) (fun c_16 => ?_)
      · exact absurd (hI.put (by omega) hx9).1.symm c_16
      · refine lv_iconst (v := 1) hx hb dL_act_458 (by decide) ?_
        refine lv_goto (tgt := 463) hx hb dL_act_459 (by decide) ?_
        rw [(hI.put (by omega) hx9).1] at hP hD
        have hP : va_P (dC, dI) vwCl (tab cI X d r ++ (bk cW X Bk n (takeS ch (nI kb - nI 99999)) pd pr yr Wd ++ (bk cW X Br 0 0 0 0 0 (fun _ _ => 0) ++ (obj X Bk Br :: (si cI cV Y Ya V n d r (takeS ch (nI kb - nI 99999)) pd yr Wd ++ R))))) _ := hP
        have hD : va_D A (tab cI X d r ++ (bk cW X Bk n (takeS ch (nI kb - nI 99999)) pd pr yr Wd ++ (bk cW X Br 0 0 0 0 0 (fun _ _ => 0) ++ (obj X Bk Br :: (si cI cV Y Ya V n d r (takeS ch (nI kb - nI 99999)) pd yr Wd ++ R))))) := hD
        have hP9 : va_P (dC, dI) vwCl (gW cI cW cV X Bk Br Y R (d, r, n, takeS ch (nI kb - nI 99999), pd, pr, yr, Wd, Ya, V)) _ := hP
        have hD9 : va_D A (gW cI cW cV X Bk Br Y R (d, r, n, takeS ch (nI kb - nI 99999), pd, pr, yr, Wd, Ya, V)) := hD
        exact W.zret (v := 1) hx hb hr (by first | rfl | (split <;> rfl)) (fun t ht hW => ⟨⟨_, (d, r, n, takeS ch (nI kb - nI 99999), pd, pr, yr, Wd, Ya, V), rfl, ⟨rfl, (hI.put (by omega) hx9).2⟩, by rw [ht]; exact hP9, by rw [hAe]; exact hD9⟩, by rw [hAe]; exact hS.F ht⟩) hS.2.2 dL_act_463
set_option maxHeartbeats 4000000 in
set_option maxRecDepth 100000 in
theorem act_c7b {p : Program} {l : Launch} {e : Env} {s : State} {m : MethodId} {below : List Frame} {meth : Method} {c : Code} {dC : Nat → ClassId} {dI : Nat → Nat → Nat} {cI cW cV : ClassId} {X Bk Br Y : Nat → Nat} {Ya : Nat} {V : Nat → Nat} {d r : Nat → Int32} {n : Nat} {ch pd pr yr : Int32} {Wd : Nat → Nat → Int32} {R : va_W} {x : Int32} {A : Nat → Prop} {i : Nat} (C9 : AC p s m meth c dC dI cI cW cV ([.ref (X 0), .ref (Y 0), .int x] : List Value).toArray) (hAe : va_A (tab cI X d r ++ (bk cW X Bk n ch pd pr yr Wd ++ (bk cW X Br 0 0 0 0 0 (fun _ _ => 0) ++ (obj X Bk Br :: (si cI cV Y Ya V n d r ch pd yr Wd ++ R))))) s.heap.size = A) (hI : Inv2 i d r n ch pr Wd) (hi5 : i ≤ 500) {ky : Nat} (hky : ky < 12) {H : Heap} {locs : List Loc} (hP : va_P (dC, dI) vwCl (tab cI X d r ++ (bk cW X Bk n ch pd pr yr Wd ++ (bk cW X Br 0 0 0 0 0 (fun _ _ => 0) ++ (obj X Bk Br :: (si cI cV Y Ya V n d r ch pd yr Wd ++ R))))) H) (hD : va_D A (tab cI X d r ++ (bk cW X Bk n ch pd pr yr Wd ++ (bk cW X Br 0 0 0 0 0 (fun _ _ => 0) ++ (obj X Bk Br :: (si cI cV Y Ya V n d r ch pd yr Wd ++ R)))))) (hS : va_S A s.heap H locs) {ls : Array Slot} (hl : lv_has ls 19 [(15, .int 0), (14, .int 0), (13, .int (nI (1 + ky))), (0, .ref (X 0)), (1, .ref (Y 0)), (2, .int x), (3, .int (nI n))]) : W p l e (headSpec wsL_act ({ frames := 8, cells := 2, slots := 17, locals := 156 })).room s m (([.ref (X 0), .ref (Y 0), .int x] : List Value).toArray) below meth c H locs 2 17 (MQ below (QA dC dI cI cW cV X Bk Br Y R (i + 1) (tab cI X d r ++ (bk cW X Bk n ch pd pr yr Wd ++ (bk cW X Br 0 0 0 0 0 (fun _ _ => 0) ++ (obj X Bk Br :: (si cI cV Y Ya V n d r ch pd yr Wd ++ R))))) s.heap.size) ([.ref (X 0), .ref (Y 0), .int x] : List Value).toArray s 2 17 A) (F0 m 494 ls []) := by
  obtain ⟨hx, hb, hr, hml, hown, hts, hlocks, hKS⟩ := C9
  have hKK := hKS.1
  have hKV := hKS.2.1
  have hn := hI.1.2.2.1
  have hok := hI.1.2.2.2.1
  have hi := hI.1.hi.1
  have hi0 := hI.1.hi.2
  have hA : ∀ q : Nat, s.heap.size ≤ q → A q := fun q h => by rw [← hAe]; exact Or.inr h
  have hyr := (hI.1.years (pd := pd) (yr := yr) (show i ≤ 512 by omega)).1
  have key : ∀ (m9 j : Nat), j + m9 = 1 + ky → ∀ (H : Heap) (locs : List Loc), va_P (dC, dI) vwCl (tab cI X d r ++ (bk cW X Bk n ch pd pr yr Wd ++ (bk cW X Br 0 0 0 0 0 (fun _ _ => 0) ++ (obj X Bk Br :: (si cI cV Y Ya V n d r ((yIter (r 0) n j (ch, pd, yr, Wd)).1) ((yIter (r 0) n j (ch, pd, yr, Wd)).2.1) ((yIter (r 0) n j (ch, pd, yr, Wd)).2.2.1) ((yIter (r 0) n j (ch, pd, yr, Wd)).2.2.2) ++ R))))) H → va_D A (tab cI X d r ++ (bk cW X Bk n ch pd pr yr Wd ++ (bk cW X Br 0 0 0 0 0 (fun _ _ => 0) ++ (obj X Bk Br :: (si cI cV Y Ya V n d r ((yIter (r 0) n j (ch, pd, yr, Wd)).1) ((yIter (r 0) n j (ch, pd, yr, Wd)).2.1) ((yIter (r 0) n j (ch, pd, yr, Wd)).2.2.1) ((yIter (r 0) n j (ch, pd, yr, Wd)).2.2.2) ++ R))))) → va_S A s.heap H locs → ∀ ls : Array Slot, lv_has ls 19 [(15, .int (nI j)), (14, .int ((yIter (r 0) n j (ch, pd, yr, Wd)).2.1 - pd)), (13, .int (nI (1 + ky))), (0, .ref (X 0)), (1, .ref (Y 0)), (2, .int x), (3, .int (nI n))] → W p l e (headSpec wsL_act ({ frames := 8, cells := 2, slots := 17, locals := 156 })).room s m (([.ref (X 0), .ref (Y 0), .int x] : List Value).toArray) below meth c H locs 2 17 (MQ below (QA dC dI cI cW cV X Bk Br Y R (i + 1) (tab cI X d r ++ (bk cW X Bk n ch pd pr yr Wd ++ (bk cW X Br 0 0 0 0 0 (fun _ _ => 0) ++ (obj X Bk Br :: (si cI cV Y Ya V n d r ch pd yr Wd ++ R))))) s.heap.size) ([.ref (X 0), .ref (Y 0), .int x] : List Value).toArray s 2 17 A) (F0 m 494 ls []) := by
    intro m9
    induction m9 with
    | zero =>
      intro j hj H locs hP hD hS ls hl
      have hjn : j = 1 + ky := by omega
      subst hjn
      refine lv_iload hx hb dL_act_494 (lv_at hl 0 rfl) ?_
      refine lv_iload hx hb dL_act_496 (lv_at hl 2 rfl) ?_
      refine lv_icmp_ge (tgt := 516) hx hb dL_act_498 (by decide) (fun c_1 => ?_) (fun c_1 => ?_)
      · refine lv_aload_n hx hb dL_act_516 rfl (lv_at hl 3 rfl) ?_
        refine lv_iload hx hb dL_act_517 (lv_at hl 2 rfl) ?_
        refine wr_i (runV1 (As := [.int (nI (1 + ky))]) (rest := []) ⟨hx, hb, hml, hown, hts⟩ (met_X3_pass l dC dI cI cW X Bk Br d r n ch pd pr yr Wd 0 0 0 0 0 (fun _ _ => 0) (si cI cV Y Ya V n d r ((yIter (r 0) n (1 + ky) (ch, pd, yr, Wd)).1) ((yIter (r 0) n (1 + ky) (ch, pd, yr, Wd)).2.1) ((yIter (r 0) n (1 + ky) (ch, pd, yr, Wd)).2.2.1) ((yIter (r 0) n (1 + ky) (ch, pd, yr, Wd)).2.2.2) ++ R) hn hok (1 + ky) (by omega) (by omega) hi hi0 _) (cwV 1 hts gL_act_X3_pass rfl rfl rfl (by decide +kernel) ⟨Nat.le_of_ble_eq_true rfl, Nat.le_of_ble_eq_true rfl⟩) hKK hP hD 3 27 rfl cw_obj rfl hl.1 (Nat.le_of_ble_eq_true rfl) rfl dL_act_519 ⟨Nat.le_of_ble_eq_true rfl, Nat.le_of_ble_eq_true rfl⟩) hD hS hA (fun r_2 H locs hr_2 hP hD hS => ?_)
        subst hr_2
        have hP : va_P (dC, dI) vwCl (tab cI X d r ++ (bk cW X Bk n ((yIter (r 0) n (1 + ky) (ch, pd, yr, Wd)).1) ((yIter (r 0) n (1 + ky) (ch, pd, yr, Wd)).2.1) pr ((yIter (r 0) n (1 + ky) (ch, pd, yr, Wd)).2.2.1) ((yIter (r 0) n (1 + ky) (ch, pd, yr, Wd)).2.2.2) ++ (bk cW X Br 0 0 0 0 0 (fun _ _ => 0) ++ (obj X Bk Br :: (si cI cV Y Ya V n d r ((yIter (r 0) n (1 + ky) (ch, pd, yr, Wd)).1) ((yIter (r 0) n (1 + ky) (ch, pd, yr, Wd)).2.1) ((yIter (r 0) n (1 + ky) (ch, pd, yr, Wd)).2.2.1) ((yIter (r 0) n (1 + ky) (ch, pd, yr, Wd)).2.2.2) ++ R))))) H := hP
        have hD : va_D A (tab cI X d r ++ (bk cW X Bk n ((yIter (r 0) n (1 + ky) (ch, pd, yr, Wd)).1) ((yIter (r 0) n (1 + ky) (ch, pd, yr, Wd)).2.1) pr ((yIter (r 0) n (1 + ky) (ch, pd, yr, Wd)).2.2.1) ((yIter (r 0) n (1 + ky) (ch, pd, yr, Wd)).2.2.2) ++ (bk cW X Br 0 0 0 0 0 (fun _ _ => 0) ++ (obj X Bk Br :: (si cI cV Y Ya V n d r ((yIter (r 0) n (1 + ky) (ch, pd, yr, Wd)).1) ((yIter (r 0) n (1 + ky) (ch, pd, yr, Wd)).2.1) ((yIter (r 0) n (1 + ky) (ch, pd, yr, Wd)).2.2.1) ((yIter (r 0) n (1 + ky) (ch, pd, yr, Wd)).2.2.2) ++ R))))) := hD
        refine lv_iload hx hb dL_act_522 (lv_at hl 1 rfl) ?_
        refine lv_icmp_ne (tgt := 531) hx hb dL_act_524 (by decide) (fun c_3 => ?_) (fun c_3 => ?_)
        · exact absurd rfl c_3
        · refine lv_iconst (v := 1) hx hb dL_act_527 (by decide) ?_
          refine lv_goto (tgt := 532) hx hb dL_act_528 (by decide) ?_
          have hP9 : va_P (dC, dI) vwCl (gW cI cW cV X Bk Br Y R (d, r, n, (yIter (r 0) n (1 + ky) (ch, pd, yr, Wd)).1, (yIter (r 0) n (1 + ky) (ch, pd, yr, Wd)).2.1, pr, (yIter (r 0) n (1 + ky) (ch, pd, yr, Wd)).2.2.1, (yIter (r 0) n (1 + ky) (ch, pd, yr, Wd)).2.2.2, Ya, V)) _ := hP
          have hD9 : va_D A (gW cI cW cV X Bk Br Y R (d, r, n, (yIter (r 0) n (1 + ky) (ch, pd, yr, Wd)).1, (yIter (r 0) n (1 + ky) (ch, pd, yr, Wd)).2.1, pr, (yIter (r 0) n (1 + ky) (ch, pd, yr, Wd)).2.2.1, (yIter (r 0) n (1 + ky) (ch, pd, yr, Wd)).2.2.2, Ya, V)) := hD
          exact W.zret (v := 1) hx hb hr (by first | rfl | (split <;> rfl)) (fun t ht hW => ⟨⟨_, (d, r, n, (yIter (r 0) n (1 + ky) (ch, pd, yr, Wd)).1, (yIter (r 0) n (1 + ky) (ch, pd, yr, Wd)).2.1, pr, (yIter (r 0) n (1 + ky) (ch, pd, yr, Wd)).2.2.1, (yIter (r 0) n (1 + ky) (ch, pd, yr, Wd)).2.2.2, Ya, V), rfl, ⟨rfl, hI.years (by omega) (1 + ky) (by omega)⟩, by rw [ht]; exact hP9, by rw [hAe]; exact hD9⟩, by rw [hAe]; exact hS.F ht⟩) hS.2.2 dL_act_532
      · exact absurd (Int32.le_refl _) c_1
    | succ m9 ih =>
      intro j hj H locs hP hD hS ls hl
      refine lv_iload hx hb dL_act_494 (lv_at hl 0 rfl) ?_
      refine lv_iload hx hb dL_act_496 (lv_at hl 2 rfl) ?_
      refine lv_icmp_ge (tgt := 516) hx hb dL_act_498 (by decide) (fun c_1 => ?_) (fun c_1 => ?_)
      · exact absurd c_1 (fun q9 => absurd ((le_nI (by omega)).mp q9) (by omega))
      · refine lv_iload hx hb dL_act_501 (lv_at hl 1 rfl) ?_
        refine lv_aload_n hx hb dL_act_503 rfl (lv_at hl 4 rfl) ?_
        have hP : va_P (dC, dI) vwCl (si cI cV Y Ya V n d r ((yIter (r 0) n j (ch, pd, yr, Wd)).1) ((yIter (r 0) n j (ch, pd, yr, Wd)).2.1) ((yIter (r 0) n j (ch, pd, yr, Wd)).2.2.1) ((yIter (r 0) n j (ch, pd, yr, Wd)).2.2.2) ++ (tab cI X d r ++ (bk cW X Bk n ch pd pr yr Wd ++ (bk cW X Br 0 0 0 0 0 (fun _ _ => 0) ++ (obj X Bk Br :: (R)))))) _ := va_P_perm (pm_in0 _ _ _ _ _ _) hP
        have hD : va_D A (si cI cV Y Ya V n d r ((yIter (r 0) n j (ch, pd, yr, Wd)).1) ((yIter (r 0) n j (ch, pd, yr, Wd)).2.1) ((yIter (r 0) n j (ch, pd, yr, Wd)).2.2.1) ((yIter (r 0) n j (ch, pd, yr, Wd)).2.2.2) ++ (tab cI X d r ++ (bk cW X Bk n ch pd pr yr Wd ++ (bk cW X Br 0 0 0 0 0 (fun _ _ => 0) ++ (obj X Bk Br :: (R)))))) := va_D_perm (pm_in0 _ _ _ _ _ _) hD
        refine wr_i (runV1S (As := []) (rest := [.int ((yIter (r 0) n j (ch, pd, yr, Wd)).2.1 - pd)]) ⟨hx, hb, hml, hown, hts⟩ (met_X4_pass l dC dI cI cW cV Y Ya V n d r ((yIter (r 0) n j (ch, pd, yr, Wd)).1) ((yIter (r 0) n j (ch, pd, yr, Wd)).2.1) ((yIter (r 0) n j (ch, pd, yr, Wd)).2.2.1) ((yIter (r 0) n j (ch, pd, yr, Wd)).2.2.2) (tab cI X d r ++ (bk cW X Bk n ch pd pr yr Wd ++ (bk cW X Br 0 0 0 0 0 (fun _ _ => 0) ++ (obj X Bk Br :: (R))))) hn (okW_iter (S := (ch, pd, yr, Wd)) hok j) (hyr j (by omega)) _) (cwV 0 hts gL_act_X4_pass rfl rfl rfl (by decide +kernel) ⟨Nat.le_of_ble_eq_true rfl, Nat.le_of_ble_eq_true rfl⟩) hKS hP hD 4 0 rfl rfl rfl hl.1 (Nat.le_of_ble_eq_true rfl) rfl dL_act_504 ⟨Nat.le_of_ble_eq_true rfl, Nat.le_of_ble_eq_true rfl⟩) hD hS hA (fun r_2 H locs hr_2 hP hD hS => ?_)
        subst hr_2
        have hP : va_P (dC, dI) vwCl (tab cI X d r ++ (bk cW X Bk n ch pd pr yr Wd ++ (bk cW X Br 0 0 0 0 0 (fun _ _ => 0) ++ (obj X Bk Br :: (si cI cV Y Ya V n d r (intS (r 0) ((yIter (r 0) n j (ch, pd, yr, Wd)).1) - sm (dueF ((yIter (r 0) n j (ch, pd, yr, Wd)).2.2.2)) n) (((yIter (r 0) n j (ch, pd, yr, Wd)).2.1) + sm (dueF ((yIter (r 0) n j (ch, pd, yr, Wd)).2.2.2)) n) (((yIter (r 0) n j (ch, pd, yr, Wd)).2.2.1) + 1) (yW n ((yIter (r 0) n j (ch, pd, yr, Wd)).2.2.2)) ++ R))))) H := va_P_perm (pm_in0 _ _ _ _ _ _).symm hP
        have hD : va_D A (tab cI X d r ++ (bk cW X Bk n ch pd pr yr Wd ++ (bk cW X Br 0 0 0 0 0 (fun _ _ => 0) ++ (obj X Bk Br :: (si cI cV Y Ya V n d r (intS (r 0) ((yIter (r 0) n j (ch, pd, yr, Wd)).1) - sm (dueF ((yIter (r 0) n j (ch, pd, yr, Wd)).2.2.2)) n) (((yIter (r 0) n j (ch, pd, yr, Wd)).2.1) + sm (dueF ((yIter (r 0) n j (ch, pd, yr, Wd)).2.2.2)) n) (((yIter (r 0) n j (ch, pd, yr, Wd)).2.2.1) + 1) (yW n ((yIter (r 0) n j (ch, pd, yr, Wd)).2.2.2)) ++ R))))) := va_D_perm (pm_in0 _ _ _ _ _ _).symm hD
        refine lv_iadd hx hb dL_act_507 ?_
        rw [show (((yIter (r 0) n j (ch, pd, yr, Wd)).2.1 - pd) + (sm (dueF ((yIter (r 0) n j (ch, pd, yr, Wd)).2.2.2)) n) : Int32) = (yIter (r 0) n (j + 1) (ch, pd, yr, Wd)).2.1 - pd from paid_step _ _ _]
        refine lv_istore (lv' := [(14, .int ((yIter (r 0) n (j + 1) (ch, pd, yr, Wd)).2.1 - pd)), (15, .int (nI j)), (13, .int (nI (1 + ky))), (0, .ref (X 0)), (1, .ref (Y 0)), (2, .int x), (3, .int (nI n))]) hx hb dL_act_508 hl (by decide) rfl (fun ls hl => ?_)
        refine lv_iinc (v := (nI (j + 1))) (lv' := [(15, .int (nI (j + 1))), (14, .int ((yIter (r 0) n (j + 1) (ch, pd, yr, Wd)).2.1 - pd)), (13, .int (nI (1 + ky))), (0, .ref (X 0)), (1, .ref (Y 0)), (2, .int x), (3, .int (nI n))]) hx hb dL_act_510 hl (k := 1) rfl (nI_1 j) (by decide) rfl (fun ls hl => ?_)
        refine lv_goto (tgt := 494) hx hb dL_act_513 (by decide) ?_
        have hP : va_P (dC, dI) vwCl (tab cI X d r ++ (bk cW X Bk n ch pd pr yr Wd ++ (bk cW X Br 0 0 0 0 0 (fun _ _ => 0) ++ (obj X Bk Br :: (si cI cV Y Ya V n d r ((yIter (r 0) n (j + 1) (ch, pd, yr, Wd)).1) ((yIter (r 0) n (j + 1) (ch, pd, yr, Wd)).2.1) ((yIter (r 0) n (j + 1) (ch, pd, yr, Wd)).2.2.1) ((yIter (r 0) n (j + 1) (ch, pd, yr, Wd)).2.2.2) ++ R))))) H := hP
        have hD : va_D A (tab cI X d r ++ (bk cW X Bk n ch pd pr yr Wd ++ (bk cW X Br 0 0 0 0 0 (fun _ _ => 0) ++ (obj X Bk Br :: (si cI cV Y Ya V n d r ((yIter (r 0) n (j + 1) (ch, pd, yr, Wd)).1) ((yIter (r 0) n (j + 1) (ch, pd, yr, Wd)).2.1) ((yIter (r 0) n (j + 1) (ch, pd, yr, Wd)).2.2.1) ((yIter (r 0) n (j + 1) (ch, pd, yr, Wd)).2.2.2) ++ R))))) := hD
        exact ih (j + 1) (by omega) H locs hP hD hS ls (lv_sub hl [0, 1, 2, 3, 4, 5, 6] rfl)
  exact key (1 + ky) 0 (by omega) _ _ hP hD hS ls (hl_to (a := [(15, .int 0), (14, .int 0), (13, .int (nI (1 + ky))), (0, .ref (X 0)), (1, .ref (Y 0)), (2, .int x), (3, .int (nI n))]) (by rw [show (yIter (r 0) n 0 (ch, pd, yr, Wd)).2.1 - pd = 0 from (paid_0 pd).symm]; rfl) hl)
set_option maxHeartbeats 4000000 in
set_option maxRecDepth 100000 in
theorem act_c7 {p : Program} {l : Launch} {e : Env} {s : State} {m : MethodId} {below : List Frame} {meth : Method} {c : Code} {dC : Nat → ClassId} {dI : Nat → Nat → Nat} {cI cW cV : ClassId} {X Bk Br Y : Nat → Nat} {Ya : Nat} {V : Nat → Nat} {d r : Nat → Int32} {n : Nat} {ch pd pr yr : Int32} {Wd : Nat → Nat → Int32} {R : va_W} {x : Int32} {A : Nat → Prop} {i : Nat} (C9 : AC p s m meth c dC dI cI cW cV ([.ref (X 0), .ref (Y 0), .int x] : List Value).toArray) (hAe : va_A (tab cI X d r ++ (bk cW X Bk n ch pd pr yr Wd ++ (bk cW X Br 0 0 0 0 0 (fun _ _ => 0) ++ (obj X Bk Br :: (si cI cV Y Ya V n d r ch pd yr Wd ++ R))))) s.heap.size = A) (hI : Inv2 i d r n ch pr Wd) (hi5 : i ≤ 500) {H : Heap} {locs : List Loc} (hP : va_P (dC, dI) vwCl (tab cI X d r ++ (bk cW X Bk n ch pd pr yr Wd ++ (bk cW X Br 0 0 0 0 0 (fun _ _ => 0) ++ (obj X Bk Br :: (si cI cV Y Ya V n d r ch pd yr Wd ++ R))))) H) (hD : va_D A (tab cI X d r ++ (bk cW X Bk n ch pd pr yr Wd ++ (bk cW X Br 0 0 0 0 0 (fun _ _ => 0) ++ (obj X Bk Br :: (si cI cV Y Ya V n d r ch pd yr Wd ++ R)))))) (hS : va_S A s.heap H locs) {ls : Array Slot} (hl : lv_has ls 19 [(0, .ref (X 0)), (1, .ref (Y 0)), (2, .int x), (3, .int (nI n))]) : W p l e (headSpec wsL_act ({ frames := 8, cells := 2, slots := 17, locals := 156 })).room s m (([.ref (X 0), .ref (Y 0), .int x] : List Value).toArray) below meth c H locs 2 17 (MQ below (QA dC dI cI cW cV X Bk Br Y R (i + 1) (tab cI X d r ++ (bk cW X Bk n ch pd pr yr Wd ++ (bk cW X Br 0 0 0 0 0 (fun _ _ => 0) ++ (obj X Bk Br :: (si cI cV Y Ya V n d r ch pd yr Wd ++ R))))) s.heap.size) ([.ref (X 0), .ref (Y 0), .int x] : List Value).toArray s 2 17 A) (F0 m 464 ls []) := by
  obtain ⟨hx, hb, hr, hml, hown, hts, hlocks, hKS⟩ := C9
  have hKK := hKS.1
  have hKV := hKS.2.1
  have hn := hI.1.2.2.1
  have hok := hI.1.2.2.2.1
  have hi := hI.1.hi.1
  have hi0 := hI.1.hi.2
  have hA : ∀ q : Nat, s.heap.size ≤ q → A q := fun q h => by rw [← hAe]; exact Or.inr h
  refine lv_iconst (v := 1) hx hb dL_act_464 (by decide) ?_
  refine lv_iload_n hx hb dL_act_465 rfl (lv_at hl 2 rfl) ?_
  refine lv_iconst (v := 2) hx hb dL_act_466 (by decide) ?_
  refine lv_ishr hx hb dL_act_467 ?_
  refine lv_iload_n hx hb dL_act_468 rfl (lv_at hl 2 rfl) ?_
  refine lv_iconst (v := 5) hx hb dL_act_469 (by decide) ?_
  refine rd_i (runS0 (As := [.int x, .int 5]) (rest := [.int (x >>> (2 &&& 31)), .int 1]) ⟨hx, hb, hml, hown, hts⟩ (met_L_below l dC dI cI cW x 5 (by decide)) (va_cwS 2 hts gL_act_L_below rfl rfl rfl (by decide +kernel) ⟨Nat.le_of_ble_eq_true rfl, Nat.le_of_ble_eq_true rfl⟩) hKK nilP rfl hl.1 (Nat.le_of_ble_eq_true rfl) rfl dL_act_470 ⟨Nat.le_of_ble_eq_true rfl, Nat.le_of_ble_eq_true rfl⟩) (fun r_1 hr_1 => ?_)
  subst hr_1
  refine lv_if_ne (tgt := 481) hx hb dL_act_473 (by decide) (fun c_2 => ?_) (fun c_2 => ?_)
  · obtain ⟨ky, hky, eky⟩ := bel_nI (x >>> (2 &&& 31)) (n := 3) (by omega) (by omega)
    refine lv_iconst (v := 3) hx hb dL_act_481 (by decide) ?_
    refine rd_i (runS0 (As := [.int (x >>> (2 &&& 31)), .int 3]) (rest := [.int 1]) ⟨hx, hb, hml, hown, hts⟩ (met_L_below l dC dI cI cW (x >>> (2 &&& 31)) 3 (by decide)) (va_cwS 2 hts gL_act_L_below rfl rfl rfl (by decide +kernel) ⟨Nat.le_of_ble_eq_true rfl, Nat.le_of_ble_eq_true rfl⟩) hKK nilP rfl hl.1 (Nat.le_of_ble_eq_true rfl) rfl dL_act_482 ⟨Nat.le_of_ble_eq_true rfl, Nat.le_of_ble_eq_true rfl⟩) (fun r_3 hr_3 => ?_)
    subst hr_3
    rw [show (belS (x >>> (2 &&& 31)) 3 : Int32) = nI ky from eky]
    refine lv_iadd hx hb dL_act_485 ?_
    rw [show (1 + (nI ky) : Int32) = nI (1 + ky) from nI_add 1 ky]
    refine lv_istore (lv' := [(13, .int (nI (1 + ky))), (0, .ref (X 0)), (1, .ref (Y 0)), (2, .int x), (3, .int (nI n))]) hx hb dL_act_486 hl (by decide) rfl (fun ls hl => ?_)
    refine lv_iconst (v := 0) hx hb dL_act_488 (by decide) ?_
    refine lv_istore (lv' := [(14, .int 0), (13, .int (nI (1 + ky))), (0, .ref (X 0)), (1, .ref (Y 0)), (2, .int x), (3, .int (nI n))]) hx hb dL_act_489 hl (by decide) rfl (fun ls hl => ?_)
    refine lv_iconst (v := 0) hx hb dL_act_491 (by decide) ?_
    refine lv_istore (lv' := [(15, .int 0), (14, .int 0), (13, .int (nI (1 + ky))), (0, .ref (X 0)), (1, .ref (Y 0)), (2, .int x), (3, .int (nI n))]) hx hb dL_act_492 hl (by decide) rfl (fun ls hl => ?_)
    exact act_c7b ⟨hx, hb, hr, hml, hown, hts, hlocks, hKS⟩ hAe hI hi5 (show ky < 12 by omega) hP hD hS (lv_sub hl [0, 1, 2, 3, 4, 5, 6] rfl)
  · obtain ⟨ky, hky, eky⟩ := bel_nI (x >>> (2 &&& 31)) (n := 12) (by omega) (by omega)
    refine lv_bipush (v := 12) hx hb dL_act_476 (by decide) ?_
    refine lv_goto (tgt := 482) hx hb dL_act_478 (by decide) ?_
    refine rd_i (runS0 (As := [.int (x >>> (2 &&& 31)), .int 12]) (rest := [.int 1]) ⟨hx, hb, hml, hown, hts⟩ (met_L_below l dC dI cI cW (x >>> (2 &&& 31)) 12 (by decide)) (va_cwS 2 hts gL_act_L_below rfl rfl rfl (by decide +kernel) ⟨Nat.le_of_ble_eq_true rfl, Nat.le_of_ble_eq_true rfl⟩) hKK nilP rfl hl.1 (Nat.le_of_ble_eq_true rfl) rfl dL_act_482 ⟨Nat.le_of_ble_eq_true rfl, Nat.le_of_ble_eq_true rfl⟩) (fun r_6 hr_6 => ?_)
    subst hr_6
    rw [show (belS (x >>> (2 &&& 31)) 12 : Int32) = nI ky from eky]
    refine lv_iadd hx hb dL_act_485 ?_
    rw [show (1 + (nI ky) : Int32) = nI (1 + ky) from nI_add 1 ky]
    refine lv_istore (lv' := [(13, .int (nI (1 + ky))), (0, .ref (X 0)), (1, .ref (Y 0)), (2, .int x), (3, .int (nI n))]) hx hb dL_act_486 hl (by decide) rfl (fun ls hl => ?_)
    refine lv_iconst (v := 0) hx hb dL_act_488 (by decide) ?_
    refine lv_istore (lv' := [(14, .int 0), (13, .int (nI (1 + ky))), (0, .ref (X 0)), (1, .ref (Y 0)), (2, .int x), (3, .int (nI n))]) hx hb dL_act_489 hl (by decide) rfl (fun ls hl => ?_)
    refine lv_iconst (v := 0) hx hb dL_act_491 (by decide) ?_
    refine lv_istore (lv' := [(15, .int 0), (14, .int 0), (13, .int (nI (1 + ky))), (0, .ref (X 0)), (1, .ref (Y 0)), (2, .int x), (3, .int (nI n))]) hx hb dL_act_492 hl (by decide) rfl (fun ls hl => ?_)
    exact act_c7b ⟨hx, hb, hr, hml, hown, hts, hlocks, hKS⟩ hAe hI hi5 (show ky < 12 by omega) hP hD hS (lv_sub hl [0, 1, 2, 3, 4, 5, 6] rfl)
