section RD5
variable {p : Program} {l : Launch} {e : Env} {R : Room} {s : State} {m : MethodId} {args : Array Value} {below : List Frame} {meth : Method} {c : Code} {H : Heap} {locs : List Loc} {cells slots : Nat} {Q : State → Prop} {cc : ByteArray} {pc : Nat} {ls : Array Slot} {rest : List Value}
theorem lv_lcmpS (hexec : p.tables.exec = Jvm.exec) (hb : c.code = cc) {x : Int64} (hdg : decode cc pc = .ok (.lcmp, 1))
    (k : W p l e R s m args below meth c H locs cells slots Q (F0 m (pc + 1) ls (.int 0 :: rest))) : W p l e R s m args below meth c H locs cells slots Q (F0 m pc ls (.long x :: .long x :: rest)) := by
  intro T hT X
  obtain ⟨t, a, b⟩ := k T hT X
  refine ⟨t, ?_, b⟩
  jvm_step X.here [X.here.top, hexec, hb, hdg]
  first
    | exact a
    | (simpa using a)
end RD5
theorem Inv.r0 {i : Nat} {d r : Nat → Int32} {n : Nat} {ch pr : Int32} {Wd : Nat → Nat → Int32} (h : Inv i d r n ch pr Wd) : 0 ≤ r 0 ∧ r 0 ≤ 200 := by
  obtain ⟨-, ⟨a, b, c, ⟨ha, ha2⟩, -, -⟩, -⟩ := h
  rw [ha]
  exact in_200 ha2
theorem Inv.aff {i : Nat} {d r : Nat → Int32} {n : Nat} {ch pr : Int32} {Wd : Nat → Nat → Int32} (h : Inv i d r n ch pr Wd) {ka kb : Nat} {money : Int32} (h1 : 50 ≤ ka) : ∀ k : Nat, k < 999 → priceS (r 1) (nI (k + 1)) (wN d (r 0) (100 - ka) kb) ≤ money → priceS (r 1) (nI k) (wN d (r 0) (100 - ka) kb) ≤ money := by
  obtain ⟨⟨D, hD⟩, ⟨a, b, c, ⟨ha, ha2⟩, ⟨hb, hb2⟩, -⟩, -⟩ := h
  rw [ha, hb]
  exact affords_mono hD ha2 hb2 (by omega)
theorem Inv.evn {i : Nat} {d r : Nat → Int32} {n : Nat} {ch pr : Int32} {Wd : Nat → Nat → Int32} (h : Inv i d r n ch pr Wd) : ∀ i : Nat, i < 200 → sm (kptF d (nI i) Wd) n ≤ ch → sm (kptF d (nI (i + 1)) Wd) n ≤ ch := by
  obtain ⟨⟨D, hD⟩, -, h3, h4, -⟩ := h
  exact even_mono hD h3 h4
set_option maxHeartbeats 4000000 in
set_option maxRecDepth 100000 in
theorem pL0_setDeaths {p : Program} {l : Launch} {e : Env} {s : State} {m : MethodId} {below : List Frame} {meth : Method} {c : Code} {b L : Nat} {xs : Nat → Int32} {dC : Nat → ClassId} {dI : Nat → Nat → Nat} {cI cW cJ : ClassId} {t : Nat} {X Bk Br : Nat → Nat} {o : Nat} (C9 : LC p l s m c b L xs dC dI cI cW cJ t) (i : Nat) (hi9 : i < 512) (hL4 : 4 * i + 4 ≤ L) (hLm : L ≤ 2048) (ih : LOOP p l e s m below meth c b dC dI cI cW cJ X Bk Br o (i + 1)) (M : Nat → Nat) (f0 : Nat → Int64) (th : Int32) (d r : Nat → Int32) (n : Nat) (ch pd pr yr : Int32) (Wd : Nat → Nat → Int32) (n2 : Nat) (ch2 pd2 pr2 yr2 : Int32) (W2 : Nat → Nat → Int32) (hInv : Inv i d r n ch pr Wd) (H : Heap) (locs : List Loc) (hP : va_P (dC, dI) vwCl (tab cI X d r ++ (bk cW X Bk n ch pd pr yr Wd ++ (bk cW X Br n2 ch2 pd2 pr2 yr2 W2 ++ (obj X Bk Br :: (o, .inl (cJ, 1, .inr (.inl f0))) :: mw cI M th n d r Wd ch pd yr (WT d (r 0)))))) H) (hD : va_D (NEW s.heap.size) (tab cI X d r ++ (bk cW X Bk n ch pd pr yr Wd ++ (bk cW X Br n2 ch2 pd2 pr2 yr2 W2 ++ (obj X Bk Br :: (o, .inl (cJ, 1, .inr (.inl f0))) :: mw cI M th n d r Wd ch pd yr (WT d (r 0))))))) (hS : va_S (NEW s.heap.size) s.heap H locs) (ls : Array Slot) (hl : lv_has ls 9 [(4, .int (nI (4 * i))), (0, .ref b), (1, .ref (X 0)), (2, .ref (M 0)), (3, .ref o)]) (ka : Nat) (h1 : 50 ≤ ka) (h2 : ka ≤ 99) (x : Int32) (h4 : 0 ≤ x ∧ x ≤ 1000) (e1 : xs (4 * i + 1) = nI ka) (e2 : xs (4 * i + 2) = x) : W p l e room_1 s m #[Value.ref b] below meth c H locs (40 + 4 * i) (3000 + 100 * i) (lw_Z below #[Value.ref b] s) (F0 m 124 ls []) := by
  obtain ⟨hx, hb, hml, hown, hts, hX, hbl, hKK, hKJ, hKX0, hHG0, hl0⟩ := C9
  have hA : ∀ q, s.heap.size ≤ q → NEW s.heap.size q := fun q h => h
  have hn := hInv.2.2.1
  have hok := hInv.2.2.2.1
  have hi := hInv.hi.1
  have hi0 := hInv.hi.2
  refine lv_aload_n hx hb dL_law_124 rfl (lv_at hl 2 rfl) ?_
  refine lv_aload_n hx hb dL_law_125 rfl (lv_at hl 1 rfl) ?_
  refine lv_iload hx hb dL_law_126 (lv_at hl 0 rfl) ?_
  refine lv_iconst (v := 1) hx hb dL_law_128 (by decide) ?_
  refine lv_iadd hx hb dL_law_129 ?_
  rw [show ((nI (4 * i)) + 1 : Int32) = nI (4 * i + 1) from nI_add (4 * i) 1]
  refine va_sld hx hb hX hbl (fun h9 => absurd h9 (Nat.not_le.mpr hbl)) hS (vp_in_nI (by omega) (by omega)) dL_law_130 ?_
  rw [clamp_nI (show 4 * i + 1 < 2147483648 by omega)]
  rw [e1]
  refine lv_aload_n hx hb dL_law_131 rfl (lv_at hl 1 rfl) ?_
  refine lv_iload hx hb dL_law_132 (lv_at hl 0 rfl) ?_
  refine lv_iconst (v := 2) hx hb dL_law_134 (by decide) ?_
  refine lv_iadd hx hb dL_law_135 ?_
  rw [show ((nI (4 * i)) + 2 : Int32) = nI (4 * i + 2) from nI_add (4 * i) 2]
  refine va_sld hx hb hX hbl (fun h9 => absurd h9 (Nat.not_le.mpr hbl)) hS (vp_in_nI (by omega) (by omega)) dL_law_136 ?_
  rw [clamp_nI (show 4 * i + 2 < 2147483648 by omega)]
  rw [e2]
  refine lv_aload_n hx hb dL_law_137 rfl (lv_at hl 4 rfl) ?_
  refine wr_i (runSL (As := [.ref (X 0), .int (nI ka), .int x, .ref o]) (rest := []) ⟨hx, hb, hml, hown, hts⟩ (met_L_setDeaths l dC dI cI cW cJ o f0 X Bk Br d r n ch pd pr yr Wd n2 ch2 pd2 pr2 yr2 W2 (mw cI M th n d r Wd ch pd yr (WT d (r 0))) ka h1 h2 x h4 _) (vx_cwSW 4 hts gL_law_L_setDeaths rfl rfl rfl (by decide +kernel) ⟨Nat.le_of_ble_eq_true rfl, Nat.le_of_ble_eq_true rfl⟩) hKK hKJ (hKX0.at hS) hP hD rfl hl.1 (Nat.le_of_ble_eq_true rfl) rfl dL_law_138 ⟨(show 40 + 4 * i + 0 ≤ 601024 by omega), (show 3000 + 100 * i + 0 ≤ 7293034 by omega)⟩) hD hS hA (fun r_1 H locs hr_1 hP hD hS => ?_)
  subst hr_1
  have hP : va_P (dC, dI) vwCl (tab cI X (upd d (ka - 50) x) r ++ (bk cW X Bk n ch pd pr yr Wd ++ (bk cW X Br n2 ch2 pd2 pr2 yr2 W2 ++ (obj X Bk Br :: (o, .inl (cJ, 1, .inr (.inl (vp_updL f0 0 (d (ka - 50)).toInt64)))) :: (mw cI M th n d r Wd ch pd yr (WT d (r 0))))))) H := hP
  have hD : va_D (NEW s.heap.size) (tab cI X (upd d (ka - 50) x) r ++ (bk cW X Bk n ch pd pr yr Wd ++ (bk cW X Br n2 ch2 pd2 pr2 yr2 W2 ++ (obj X Bk Br :: (o, .inl (cJ, 1, .inr (.inl (vp_updL f0 0 (d (ka - 50)).toInt64)))) :: (mw cI M th n d r Wd ch pd yr (WT d (r 0))))))) := hD
  have hP := va_P_perm (law_perm _ _ _ _ _ _) hP
  have hD := va_D_perm (law_perm _ _ _ _ _ _) hD
  refine lv_istore (lv' := [(5, .int 0), (4, .int (nI (4 * i))), (0, .ref b), (1, .ref (X 0)), (2, .ref (M 0)), (3, .ref o)]) hx hb dL_law_141 hl (by decide) rfl (fun ls hl => ?_)
  refine lv_aload_n hx hb dL_law_143 rfl (lv_at hl 4 rfl) ?_
  refine lv_aload_n hx hb dL_law_144 rfl (lv_at hl 2 rfl) ?_
  refine lv_iload hx hb dL_law_145 (lv_at hl 1 rfl) ?_
  refine lv_iconst (v := 1) hx hb dL_law_147 (by decide) ?_
  refine lv_iadd hx hb dL_law_148 ?_
  rw [show ((nI (4 * i)) + 1 : Int32) = nI (4 * i + 1) from nI_add (4 * i) 1]
  refine va_sld hx hb hX hbl (fun h9 => absurd h9 (Nat.not_le.mpr hbl)) hS (vp_in_nI (by omega) (by omega)) dL_law_149 ?_
  rw [clamp_nI (show 4 * i + 1 < 2147483648 by omega)]
  rw [e1]
  refine lv_aload_n hx hb dL_law_150 rfl (lv_at hl 2 rfl) ?_
  refine lv_iload hx hb dL_law_151 (lv_at hl 1 rfl) ?_
  refine lv_iconst (v := 2) hx hb dL_law_153 (by decide) ?_
  refine lv_iadd hx hb dL_law_154 ?_
  rw [show ((nI (4 * i)) + 2 : Int32) = nI (4 * i + 2) from nI_add (4 * i) 2]
  refine va_sld hx hb hX hbl (fun h9 => absurd h9 (Nat.not_le.mpr hbl)) hS (vp_in_nI (by omega) (by omega)) dL_law_155 ?_
  rw [clamp_nI (show 4 * i + 2 < 2147483648 by omega)]
  rw [e2]
  refine wr_i (runV1 (As := [.int (nI ka), .int x]) (rest := []) ⟨hx, hb, hml, hown, hts⟩ (met_X4_setDeaths l dC dI cI cW M th n d r Wd ch pd yr _ ka h1 h2 x h4 hi _) (cwV 2 hts gL_law_X4_setDeaths rfl rfl rfl (by decide +kernel) ⟨Nat.le_of_ble_eq_true rfl, Nat.le_of_ble_eq_true rfl⟩) hKK hP hD 4 0 rfl rfl rfl hl.1 (Nat.le_of_ble_eq_true rfl) rfl dL_law_156 ⟨(show 40 + 4 * i + 0 + 0 ≤ 601024 by omega), (show 3000 + 100 * i + 0 + 0 ≤ 7293034 by omega)⟩) hD hS hA (fun r_2 H locs hr_2 hP hD hS => ?_)
  subst hr_2
  refine lv_istore (lv' := [(6, .int (d (ka - 50))), (5, .int 0), (4, .int (nI (4 * i))), (0, .ref b), (1, .ref (X 0)), (2, .ref (M 0)), (3, .ref o)]) hx hb dL_law_159 hl (by decide) rfl (fun ls hl => ?_)
  refine lv_aload_n hx hb dL_law_161 rfl (lv_at hl 5 rfl) ?_
  refine rd_i (runV0 (As := []) (rest := []) ⟨hx, hb, hml, hown, hts⟩ (met_X4_thrown l dC dI cI cW _ _ _ _ _ _ _ _ _ _) (cwV 0 hts gL_law_X4_thrown rfl rfl rfl (by decide +kernel) ⟨Nat.le_of_ble_eq_true rfl, Nat.le_of_ble_eq_true rfl⟩) hKK (ws_left hP) 4 0 rfl rfl rfl hl.1 (Nat.le_of_ble_eq_true rfl) rfl dL_law_162 ⟨(show 40 + 4 * i + 0 + 0 ≤ 601024 by omega), (show 3000 + 100 * i + 0 + 0 ≤ 7293034 by omega)⟩) (fun r_3 hr_3 => ?_)
  subst hr_3
  have hP := va_P_perm (law_back _ _ _ _ _ _) hP
  have hD := va_D_perm (law_back _ _ _ _ _ _) hD
  refine lv_iload hx hb dL_law_165 (lv_at hl 1 rfl) ?_
  refine lv_icmp_eq (tgt := 172) hx hb dL_law_167 (by decide) (fun c_5 => ?_) (fun c_5 => ?_)
  · refine lv_iload hx hb dL_law_172 (lv_at hl 1 rfl) ?_
    refine lv_if_ne (tgt := 189) hx hb dL_law_174 (by decide) (fun c_6 => ?_) (fun c_6 => ?_)
    · exact absurd rfl c_6
    · refine lv_aload_n hx hb dL_law_177 rfl (lv_at hl 6 rfl) ?_
      refine lv_iconst (v := 0) hx hb dL_law_178 (by decide) ?_
      refine va_lald hx hb hKJ hP (27 + 1) 0 (cw_at rfl) rfl (vp_in_nI (n := 0) (by omega) (by omega)) dL_law_179 ?_
      rw [show (vp_updL f0 0 (d (ka - 50)).toInt64) (0 : Int32).toNatClampNeg = (d (ka - 50)).toInt64 from rfl]
      refine lv_iload hx hb dL_law_180 (lv_at hl 0 rfl) ?_
      refine lv_i2l hx hb dL_law_182 rfl ?_
      refine lv_lcmpS hx hb dL_law_183 ?_
      refine lv_if_eq (tgt := 189) hx hb dL_law_184 (by decide) (fun c_7 => ?_) (fun c_7 => ?_)
      · refine lv_goto (tgt := 1133) hx hb dL_law_189 (by decide) ?_
        refine lv_iinc (v := (nI (4 * (i + 1)))) (lv' := [(4, .int (nI (4 * (i + 1)))), (6, .int (d (ka - 50))), (5, .int 0), (0, .ref b), (1, .ref (X 0)), (2, .ref (M 0)), (3, .ref o)]) hx hb dL_law_1133 hl (k := 2) rfl (nI_add (4 * i) 4) (by decide) rfl (fun ls hl => ?_)
        refine lv_goto (tgt := 23) hx hb dL_law_1136 (by decide) ?_
        refine W.widen (k := 40 + 4 * (i + 1)) (n := 3000 + 100 * (i + 1)) (by omega) (by omega) ?_
        exact ih _ _ _ _ _ _ _ _ _ _ _ _ _ _ _ _ _ ((hInv.deaths h4).mono (Nat.le_succ i)) H locs hP hD hS ls (lv_sub hl [0, 3, 4, 5, 6] rfl)
      · exact absurd rfl c_7
  · exact absurd rfl c_5
set_option maxHeartbeats 4000000 in
set_option maxRecDepth 100000 in
theorem pL1_setDeaths {p : Program} {l : Launch} {e : Env} {s : State} {m : MethodId} {below : List Frame} {meth : Method} {c : Code} {b L : Nat} {xs : Nat → Int32} {dC : Nat → ClassId} {dI : Nat → Nat → Nat} {cI cW cJ : ClassId} {t : Nat} {X Bk Br : Nat → Nat} {o : Nat} (C9 : LC p l s m c b L xs dC dI cI cW cJ t) (i : Nat) (hi9 : i < 512) (hL4 : 4 * i + 4 ≤ L) (hLm : L ≤ 2048) (ih : LOOP p l e s m below meth c b dC dI cI cW cJ X Bk Br o (i + 1)) (M : Nat → Nat) (f0 : Nat → Int64) (th : Int32) (d r : Nat → Int32) (n : Nat) (ch pd pr yr : Int32) (Wd : Nat → Nat → Int32) (n2 : Nat) (ch2 pd2 pr2 yr2 : Int32) (W2 : Nat → Nat → Int32) (hInv : Inv i d r n ch pr Wd) (H : Heap) (locs : List Loc) (hP : va_P (dC, dI) vwCl (tab cI X d r ++ (bk cW X Bk n ch pd pr yr Wd ++ (bk cW X Br n2 ch2 pd2 pr2 yr2 W2 ++ (obj X Bk Br :: (o, .inl (cJ, 1, .inr (.inl f0))) :: mw cI M th n d r Wd ch pd yr (WT d (r 0)))))) H) (hD : va_D (NEW s.heap.size) (tab cI X d r ++ (bk cW X Bk n ch pd pr yr Wd ++ (bk cW X Br n2 ch2 pd2 pr2 yr2 W2 ++ (obj X Bk Br :: (o, .inl (cJ, 1, .inr (.inl f0))) :: mw cI M th n d r Wd ch pd yr (WT d (r 0))))))) (hS : va_S (NEW s.heap.size) s.heap H locs) (ls : Array Slot) (hl : lv_has ls 9 [(4, .int (nI (4 * i))), (0, .ref b), (1, .ref (X 0)), (2, .ref (M 0)), (3, .ref o)]) (a x : Int32) (h9 : ¬ (50 ≤ a ∧ a ≤ 99)) (e1 : xs (4 * i + 1) = a) (e2 : xs (4 * i + 2) = x) : W p l e room_1 s m #[Value.ref b] below meth c H locs (40 + 4 * i) (3000 + 100 * i) (lw_Z below #[Value.ref b] s) (F0 m 124 ls []) := by
  obtain ⟨hx, hb, hml, hown, hts, hX, hbl, hKK, hKJ, hKX0, hHG0, hl0⟩ := C9
  have hA : ∀ q, s.heap.size ≤ q → NEW s.heap.size q := fun q h => h
  have hn := hInv.2.2.1
  have hok := hInv.2.2.2.1
  have hi := hInv.hi.1
  have hi0 := hInv.hi.2
  refine lv_aload_n hx hb dL_law_124 rfl (lv_at hl 2 rfl) ?_
  refine lv_aload_n hx hb dL_law_125 rfl (lv_at hl 1 rfl) ?_
  refine lv_iload hx hb dL_law_126 (lv_at hl 0 rfl) ?_
  refine lv_iconst (v := 1) hx hb dL_law_128 (by decide) ?_
  refine lv_iadd hx hb dL_law_129 ?_
  rw [show ((nI (4 * i)) + 1 : Int32) = nI (4 * i + 1) from nI_add (4 * i) 1]
  refine va_sld hx hb hX hbl (fun h9 => absurd h9 (Nat.not_le.mpr hbl)) hS (vp_in_nI (by omega) (by omega)) dL_law_130 ?_
  rw [clamp_nI (show 4 * i + 1 < 2147483648 by omega)]
  rw [e1]
  refine lv_aload_n hx hb dL_law_131 rfl (lv_at hl 1 rfl) ?_
  refine lv_iload hx hb dL_law_132 (lv_at hl 0 rfl) ?_
  refine lv_iconst (v := 2) hx hb dL_law_134 (by decide) ?_
  refine lv_iadd hx hb dL_law_135 ?_
  rw [show ((nI (4 * i)) + 2 : Int32) = nI (4 * i + 2) from nI_add (4 * i) 2]
  refine va_sld hx hb hX hbl (fun h9 => absurd h9 (Nat.not_le.mpr hbl)) hS (vp_in_nI (by omega) (by omega)) dL_law_136 ?_
  rw [clamp_nI (show 4 * i + 2 < 2147483648 by omega)]
  rw [e2]
  refine lv_aload_n hx hb dL_law_137 rfl (lv_at hl 4 rfl) ?_
  refine wr_i (runSL (As := [.ref (X 0), .int a, .int x, .ref o]) (rest := []) ⟨hx, hb, hml, hown, hts⟩ (bad1_L_setDeaths l dC dI cI cW hl0 cJ o f0 X Bk Br d r n ch pd pr yr Wd n2 ch2 pd2 pr2 yr2 W2 (mw cI M th n d r Wd ch pd yr (WT d (r 0))) a x h9 _) (vx_cwSW 4 hts gL_law_L_setDeaths rfl rfl rfl (by decide +kernel) ⟨Nat.le_of_ble_eq_true rfl, Nat.le_of_ble_eq_true rfl⟩) hKK hKJ (hKX0.at hS) hP hD rfl hl.1 (Nat.le_of_ble_eq_true rfl) rfl dL_law_138 ⟨(show 40 + 4 * i + 1 ≤ 601024 by omega), (show 3000 + 100 * i + 6 ≤ 7293034 by omega)⟩) hD hS hA (fun r_1 H locs hr_1 hP hD hS => ?_)
  subst hr_1
  have hP : va_P (dC, dI) vwCl (tab cI X d r ++ (bk cW X Bk n ch pd pr yr Wd ++ (bk cW X Br n2 ch2 pd2 pr2 yr2 W2 ++ (obj X Bk Br :: (o, .inl (cJ, 1, .inr (.inl f0))) :: (mw cI M th n d r Wd ch pd yr (WT d (r 0))))))) H := hP
  have hD : va_D (NEW s.heap.size) (tab cI X d r ++ (bk cW X Bk n ch pd pr yr Wd ++ (bk cW X Br n2 ch2 pd2 pr2 yr2 W2 ++ (obj X Bk Br :: (o, .inl (cJ, 1, .inr (.inl f0))) :: (mw cI M th n d r Wd ch pd yr (WT d (r 0))))))) := hD
  have hP := va_P_perm (law_perm _ _ _ _ _ _) hP
  have hD := va_D_perm (law_perm _ _ _ _ _ _) hD
  refine lv_istore (lv' := [(5, .int 1), (4, .int (nI (4 * i))), (0, .ref b), (1, .ref (X 0)), (2, .ref (M 0)), (3, .ref o)]) hx hb dL_law_141 hl (by decide) rfl (fun ls hl => ?_)
  refine lv_aload_n hx hb dL_law_143 rfl (lv_at hl 4 rfl) ?_
  refine lv_aload_n hx hb dL_law_144 rfl (lv_at hl 2 rfl) ?_
  refine lv_iload hx hb dL_law_145 (lv_at hl 1 rfl) ?_
  refine lv_iconst (v := 1) hx hb dL_law_147 (by decide) ?_
  refine lv_iadd hx hb dL_law_148 ?_
  rw [show ((nI (4 * i)) + 1 : Int32) = nI (4 * i + 1) from nI_add (4 * i) 1]
  refine va_sld hx hb hX hbl (fun h9 => absurd h9 (Nat.not_le.mpr hbl)) hS (vp_in_nI (by omega) (by omega)) dL_law_149 ?_
  rw [clamp_nI (show 4 * i + 1 < 2147483648 by omega)]
  rw [e1]
  refine lv_aload_n hx hb dL_law_150 rfl (lv_at hl 2 rfl) ?_
  refine lv_iload hx hb dL_law_151 (lv_at hl 1 rfl) ?_
  refine lv_iconst (v := 2) hx hb dL_law_153 (by decide) ?_
  refine lv_iadd hx hb dL_law_154 ?_
  rw [show ((nI (4 * i)) + 2 : Int32) = nI (4 * i + 2) from nI_add (4 * i) 2]
  refine va_sld hx hb hX hbl (fun h9 => absurd h9 (Nat.not_le.mpr hbl)) hS (vp_in_nI (by omega) (by omega)) dL_law_155 ?_
  rw [clamp_nI (show 4 * i + 2 < 2147483648 by omega)]
  rw [e2]
  refine wr_i (runV1 (As := [.int a, .int x]) (rest := []) ⟨hx, hb, hml, hown, hts⟩ (met1_X4_setDeaths l dC dI cI cW M th n d r Wd ch pd yr _ a x h9 _) (cwV 2 hts gL_law_X4_setDeaths rfl rfl rfl (by decide +kernel) ⟨Nat.le_of_ble_eq_true rfl, Nat.le_of_ble_eq_true rfl⟩) hKK hP hD 4 0 rfl rfl rfl hl.1 (Nat.le_of_ble_eq_true rfl) rfl dL_law_156 ⟨(show 40 + 4 * i + 1 + 0 ≤ 601024 by omega), (show 3000 + 100 * i + 6 + 0 ≤ 7293034 by omega)⟩) hD hS hA (fun r_2 H locs hr_2 hP hD hS => ?_)
  subst hr_2
  refine lv_istore (lv' := [(6, .int 0), (5, .int 1), (4, .int (nI (4 * i))), (0, .ref b), (1, .ref (X 0)), (2, .ref (M 0)), (3, .ref o)]) hx hb dL_law_159 hl (by decide) rfl (fun ls hl => ?_)
  refine lv_aload_n hx hb dL_law_161 rfl (lv_at hl 5 rfl) ?_
  refine rd_i (runV0 (As := []) (rest := []) ⟨hx, hb, hml, hown, hts⟩ (met_X4_thrown l dC dI cI cW _ _ _ _ _ _ _ _ _ _) (cwV 0 hts gL_law_X4_thrown rfl rfl rfl (by decide +kernel) ⟨Nat.le_of_ble_eq_true rfl, Nat.le_of_ble_eq_true rfl⟩) hKK (ws_left hP) 4 0 rfl rfl rfl hl.1 (Nat.le_of_ble_eq_true rfl) rfl dL_law_162 ⟨(show 40 + 4 * i + 1 + 0 ≤ 601024 by omega), (show 3000 + 100 * i + 6 + 0 ≤ 7293034 by omega)⟩) (fun r_3 hr_3 => ?_)
  subst hr_3
  have hP := va_P_perm (law_back _ _ _ _ _ _) hP
  have hD := va_D_perm (law_back _ _ _ _ _ _) hD
  refine lv_iload hx hb dL_law_165 (lv_at hl 1 rfl) ?_
  refine lv_icmp_eq (tgt := 172) hx hb dL_law_167 (by decide) (fun c_5 => ?_) (fun c_5 => ?_)
  · refine lv_iload hx hb dL_law_172 (lv_at hl 1 rfl) ?_
    refine lv_if_ne (tgt := 189) hx hb dL_law_174 (by decide) (fun c_6 => ?_) (fun c_6 => ?_)
    · refine lv_goto (tgt := 1133) hx hb dL_law_189 (by decide) ?_
      refine lv_iinc (v := (nI (4 * (i + 1)))) (lv' := [(4, .int (nI (4 * (i + 1)))), (6, .int 0), (5, .int 1), (0, .ref b), (1, .ref (X 0)), (2, .ref (M 0)), (3, .ref o)]) hx hb dL_law_1133 hl (k := 2) rfl (nI_add (4 * i) 4) (by decide) rfl (fun ls hl => ?_)
      refine lv_goto (tgt := 23) hx hb dL_law_1136 (by decide) ?_
      refine W.widen (k := 40 + 4 * (i + 1)) (n := 3000 + 100 * (i + 1)) (by omega) (by omega) ?_
      exact ih _ _ _ _ _ _ _ _ _ _ _ _ _ _ _ _ _ (hInv.mono (Nat.le_succ i)) H locs hP hD hS ls (lv_sub hl [0, 3, 4, 5, 6] rfl)
    · exact absurd c_6 (by decide)
  · exact absurd rfl c_5
set_option maxHeartbeats 4000000 in
set_option maxRecDepth 100000 in
theorem pL2_setDeaths {p : Program} {l : Launch} {e : Env} {s : State} {m : MethodId} {below : List Frame} {meth : Method} {c : Code} {b L : Nat} {xs : Nat → Int32} {dC : Nat → ClassId} {dI : Nat → Nat → Nat} {cI cW cJ : ClassId} {t : Nat} {X Bk Br : Nat → Nat} {o : Nat} (C9 : LC p l s m c b L xs dC dI cI cW cJ t) (i : Nat) (hi9 : i < 512) (hL4 : 4 * i + 4 ≤ L) (hLm : L ≤ 2048) (ih : LOOP p l e s m below meth c b dC dI cI cW cJ X Bk Br o (i + 1)) (M : Nat → Nat) (f0 : Nat → Int64) (th : Int32) (d r : Nat → Int32) (n : Nat) (ch pd pr yr : Int32) (Wd : Nat → Nat → Int32) (n2 : Nat) (ch2 pd2 pr2 yr2 : Int32) (W2 : Nat → Nat → Int32) (hInv : Inv i d r n ch pr Wd) (H : Heap) (locs : List Loc) (hP : va_P (dC, dI) vwCl (tab cI X d r ++ (bk cW X Bk n ch pd pr yr Wd ++ (bk cW X Br n2 ch2 pd2 pr2 yr2 W2 ++ (obj X Bk Br :: (o, .inl (cJ, 1, .inr (.inl f0))) :: mw cI M th n d r Wd ch pd yr (WT d (r 0)))))) H) (hD : va_D (NEW s.heap.size) (tab cI X d r ++ (bk cW X Bk n ch pd pr yr Wd ++ (bk cW X Br n2 ch2 pd2 pr2 yr2 W2 ++ (obj X Bk Br :: (o, .inl (cJ, 1, .inr (.inl f0))) :: mw cI M th n d r Wd ch pd yr (WT d (r 0))))))) (hS : va_S (NEW s.heap.size) s.heap H locs) (ls : Array Slot) (hl : lv_has ls 9 [(4, .int (nI (4 * i))), (0, .ref b), (1, .ref (X 0)), (2, .ref (M 0)), (3, .ref o)]) (a x : Int32) (h8 : 50 ≤ a ∧ a ≤ 99) (h9 : ¬ (0 ≤ x ∧ x ≤ 1000)) (e1 : xs (4 * i + 1) = a) (e2 : xs (4 * i + 2) = x) : W p l e room_1 s m #[Value.ref b] below meth c H locs (40 + 4 * i) (3000 + 100 * i) (lw_Z below #[Value.ref b] s) (F0 m 124 ls []) := by
  obtain ⟨hx, hb, hml, hown, hts, hX, hbl, hKK, hKJ, hKX0, hHG0, hl0⟩ := C9
  have hA : ∀ q, s.heap.size ≤ q → NEW s.heap.size q := fun q h => h
  have hn := hInv.2.2.1
  have hok := hInv.2.2.2.1
  have hi := hInv.hi.1
  have hi0 := hInv.hi.2
  refine lv_aload_n hx hb dL_law_124 rfl (lv_at hl 2 rfl) ?_
  refine lv_aload_n hx hb dL_law_125 rfl (lv_at hl 1 rfl) ?_
  refine lv_iload hx hb dL_law_126 (lv_at hl 0 rfl) ?_
  refine lv_iconst (v := 1) hx hb dL_law_128 (by decide) ?_
  refine lv_iadd hx hb dL_law_129 ?_
  rw [show ((nI (4 * i)) + 1 : Int32) = nI (4 * i + 1) from nI_add (4 * i) 1]
  refine va_sld hx hb hX hbl (fun h9 => absurd h9 (Nat.not_le.mpr hbl)) hS (vp_in_nI (by omega) (by omega)) dL_law_130 ?_
  rw [clamp_nI (show 4 * i + 1 < 2147483648 by omega)]
  rw [e1]
  refine lv_aload_n hx hb dL_law_131 rfl (lv_at hl 1 rfl) ?_
  refine lv_iload hx hb dL_law_132 (lv_at hl 0 rfl) ?_
  refine lv_iconst (v := 2) hx hb dL_law_134 (by decide) ?_
  refine lv_iadd hx hb dL_law_135 ?_
  rw [show ((nI (4 * i)) + 2 : Int32) = nI (4 * i + 2) from nI_add (4 * i) 2]
  refine va_sld hx hb hX hbl (fun h9 => absurd h9 (Nat.not_le.mpr hbl)) hS (vp_in_nI (by omega) (by omega)) dL_law_136 ?_
  rw [clamp_nI (show 4 * i + 2 < 2147483648 by omega)]
  rw [e2]
  refine lv_aload_n hx hb dL_law_137 rfl (lv_at hl 4 rfl) ?_
  refine wr_i (runSL (As := [.ref (X 0), .int a, .int x, .ref o]) (rest := []) ⟨hx, hb, hml, hown, hts⟩ (bad2_L_setDeaths l dC dI cI cW hl0 cJ o f0 X Bk Br d r n ch pd pr yr Wd n2 ch2 pd2 pr2 yr2 W2 (mw cI M th n d r Wd ch pd yr (WT d (r 0))) a x h8 h9 _) (vx_cwSW 4 hts gL_law_L_setDeaths rfl rfl rfl (by decide +kernel) ⟨Nat.le_of_ble_eq_true rfl, Nat.le_of_ble_eq_true rfl⟩) hKK hKJ (hKX0.at hS) hP hD rfl hl.1 (Nat.le_of_ble_eq_true rfl) rfl dL_law_138 ⟨(show 40 + 4 * i + 1 ≤ 601024 by omega), (show 3000 + 100 * i + 6 ≤ 7293034 by omega)⟩) hD hS hA (fun r_1 H locs hr_1 hP hD hS => ?_)
  subst hr_1
  have hP : va_P (dC, dI) vwCl (tab cI X d r ++ (bk cW X Bk n ch pd pr yr Wd ++ (bk cW X Br n2 ch2 pd2 pr2 yr2 W2 ++ (obj X Bk Br :: (o, .inl (cJ, 1, .inr (.inl f0))) :: (mw cI M th n d r Wd ch pd yr (WT d (r 0))))))) H := hP
  have hD : va_D (NEW s.heap.size) (tab cI X d r ++ (bk cW X Bk n ch pd pr yr Wd ++ (bk cW X Br n2 ch2 pd2 pr2 yr2 W2 ++ (obj X Bk Br :: (o, .inl (cJ, 1, .inr (.inl f0))) :: (mw cI M th n d r Wd ch pd yr (WT d (r 0))))))) := hD
  have hP := va_P_perm (law_perm _ _ _ _ _ _) hP
  have hD := va_D_perm (law_perm _ _ _ _ _ _) hD
  refine lv_istore (lv' := [(5, .int 2), (4, .int (nI (4 * i))), (0, .ref b), (1, .ref (X 0)), (2, .ref (M 0)), (3, .ref o)]) hx hb dL_law_141 hl (by decide) rfl (fun ls hl => ?_)
  refine lv_aload_n hx hb dL_law_143 rfl (lv_at hl 4 rfl) ?_
  refine lv_aload_n hx hb dL_law_144 rfl (lv_at hl 2 rfl) ?_
  refine lv_iload hx hb dL_law_145 (lv_at hl 1 rfl) ?_
  refine lv_iconst (v := 1) hx hb dL_law_147 (by decide) ?_
  refine lv_iadd hx hb dL_law_148 ?_
  rw [show ((nI (4 * i)) + 1 : Int32) = nI (4 * i + 1) from nI_add (4 * i) 1]
  refine va_sld hx hb hX hbl (fun h9 => absurd h9 (Nat.not_le.mpr hbl)) hS (vp_in_nI (by omega) (by omega)) dL_law_149 ?_
  rw [clamp_nI (show 4 * i + 1 < 2147483648 by omega)]
  rw [e1]
  refine lv_aload_n hx hb dL_law_150 rfl (lv_at hl 2 rfl) ?_
  refine lv_iload hx hb dL_law_151 (lv_at hl 1 rfl) ?_
  refine lv_iconst (v := 2) hx hb dL_law_153 (by decide) ?_
  refine lv_iadd hx hb dL_law_154 ?_
  rw [show ((nI (4 * i)) + 2 : Int32) = nI (4 * i + 2) from nI_add (4 * i) 2]
  refine va_sld hx hb hX hbl (fun h9 => absurd h9 (Nat.not_le.mpr hbl)) hS (vp_in_nI (by omega) (by omega)) dL_law_155 ?_
  rw [clamp_nI (show 4 * i + 2 < 2147483648 by omega)]
  rw [e2]
  refine wr_i (runV1 (As := [.int a, .int x]) (rest := []) ⟨hx, hb, hml, hown, hts⟩ (met2_X4_setDeaths l dC dI cI cW M th n d r Wd ch pd yr _ a x h8 h9 _) (cwV 2 hts gL_law_X4_setDeaths rfl rfl rfl (by decide +kernel) ⟨Nat.le_of_ble_eq_true rfl, Nat.le_of_ble_eq_true rfl⟩) hKK hP hD 4 0 rfl rfl rfl hl.1 (Nat.le_of_ble_eq_true rfl) rfl dL_law_156 ⟨(show 40 + 4 * i + 1 + 0 ≤ 601024 by omega), (show 3000 + 100 * i + 6 + 0 ≤ 7293034 by omega)⟩) hD hS hA (fun r_2 H locs hr_2 hP hD hS => ?_)
  subst hr_2
  refine lv_istore (lv' := [(6, .int 0), (5, .int 2), (4, .int (nI (4 * i))), (0, .ref b), (1, .ref (X 0)), (2, .ref (M 0)), (3, .ref o)]) hx hb dL_law_159 hl (by decide) rfl (fun ls hl => ?_)
  refine lv_aload_n hx hb dL_law_161 rfl (lv_at hl 5 rfl) ?_
  refine rd_i (runV0 (As := []) (rest := []) ⟨hx, hb, hml, hown, hts⟩ (met_X4_thrown l dC dI cI cW _ _ _ _ _ _ _ _ _ _) (cwV 0 hts gL_law_X4_thrown rfl rfl rfl (by decide +kernel) ⟨Nat.le_of_ble_eq_true rfl, Nat.le_of_ble_eq_true rfl⟩) hKK (ws_left hP) 4 0 rfl rfl rfl hl.1 (Nat.le_of_ble_eq_true rfl) rfl dL_law_162 ⟨(show 40 + 4 * i + 1 + 0 ≤ 601024 by omega), (show 3000 + 100 * i + 6 + 0 ≤ 7293034 by omega)⟩) (fun r_3 hr_3 => ?_)
  subst hr_3
  have hP := va_P_perm (law_back _ _ _ _ _ _) hP
  have hD := va_D_perm (law_back _ _ _ _ _ _) hD
  refine lv_iload hx hb dL_law_165 (lv_at hl 1 rfl) ?_
  refine lv_icmp_eq (tgt := 172) hx hb dL_law_167 (by decide) (fun c_5 => ?_) (fun c_5 => ?_)
  · refine lv_iload hx hb dL_law_172 (lv_at hl 1 rfl) ?_
    refine lv_if_ne (tgt := 189) hx hb dL_law_174 (by decide) (fun c_6 => ?_) (fun c_6 => ?_)
    · refine lv_goto (tgt := 1133) hx hb dL_law_189 (by decide) ?_
      refine lv_iinc (v := (nI (4 * (i + 1)))) (lv' := [(4, .int (nI (4 * (i + 1)))), (6, .int 0), (5, .int 2), (0, .ref b), (1, .ref (X 0)), (2, .ref (M 0)), (3, .ref o)]) hx hb dL_law_1133 hl (k := 2) rfl (nI_add (4 * i) 4) (by decide) rfl (fun ls hl => ?_)
      refine lv_goto (tgt := 23) hx hb dL_law_1136 (by decide) ?_
      refine W.widen (k := 40 + 4 * (i + 1)) (n := 3000 + 100 * (i + 1)) (by omega) (by omega) ?_
      exact ih _ _ _ _ _ _ _ _ _ _ _ _ _ _ _ _ _ (hInv.mono (Nat.le_succ i)) H locs hP hD hS ls (lv_sub hl [0, 3, 4, 5, 6] rfl)
    · exact absurd c_6 (by decide)
  · exact absurd rfl c_5
set_option maxHeartbeats 4000000 in
set_option maxRecDepth 100000 in
theorem pL0_setRate {p : Program} {l : Launch} {e : Env} {s : State} {m : MethodId} {below : List Frame} {meth : Method} {c : Code} {b L : Nat} {xs : Nat → Int32} {dC : Nat → ClassId} {dI : Nat → Nat → Nat} {cI cW cJ : ClassId} {t : Nat} {X Bk Br : Nat → Nat} {o : Nat} (C9 : LC p l s m c b L xs dC dI cI cW cJ t) (i : Nat) (hi9 : i < 512) (hL4 : 4 * i + 4 ≤ L) (hLm : L ≤ 2048) (ih : LOOP p l e s m below meth c b dC dI cI cW cJ X Bk Br o (i + 1)) (M : Nat → Nat) (f0 : Nat → Int64) (th : Int32) (d r : Nat → Int32) (n : Nat) (ch pd pr yr : Int32) (Wd : Nat → Nat → Int32) (n2 : Nat) (ch2 pd2 pr2 yr2 : Int32) (W2 : Nat → Nat → Int32) (hInv : Inv i d r n ch pr Wd) (H : Heap) (locs : List Loc) (hP : va_P (dC, dI) vwCl (tab cI X d r ++ (bk cW X Bk n ch pd pr yr Wd ++ (bk cW X Br n2 ch2 pd2 pr2 yr2 W2 ++ (obj X Bk Br :: (o, .inl (cJ, 1, .inr (.inl f0))) :: mw cI M th n d r Wd ch pd yr (WT d (r 0)))))) H) (hD : va_D (NEW s.heap.size) (tab cI X d r ++ (bk cW X Bk n ch pd pr yr Wd ++ (bk cW X Br n2 ch2 pd2 pr2 yr2 W2 ++ (obj X Bk Br :: (o, .inl (cJ, 1, .inr (.inl f0))) :: mw cI M th n d r Wd ch pd yr (WT d (r 0))))))) (hS : va_S (NEW s.heap.size) s.heap H locs) (ls : Array Slot) (hl : lv_has ls 9 [(4, .int (nI (4 * i))), (0, .ref b), (1, .ref (X 0)), (2, .ref (M 0)), (3, .ref o)]) (k : Nat) (hk : k < 3) (x : Int32) (h4 : 0 ≤ x ∧ x ≤ (if k = 0 then (200 : Int32) else 50)) (e1 : xs (4 * i + 1) = nI k) (e2 : xs (4 * i + 2) = x) : W p l e room_1 s m #[Value.ref b] below meth c H locs (40 + 4 * i) (3000 + 100 * i) (lw_Z below #[Value.ref b] s) (F0 m 192 ls []) := by
  obtain ⟨hx, hb, hml, hown, hts, hX, hbl, hKK, hKJ, hKX0, hHG0, hl0⟩ := C9
  have hA : ∀ q, s.heap.size ≤ q → NEW s.heap.size q := fun q h => h
  have hn := hInv.2.2.1
  have hok := hInv.2.2.2.1
  have hi := hInv.hi.1
  have hi0 := hInv.hi.2
  refine lv_aload_n hx hb dL_law_192 rfl (lv_at hl 2 rfl) ?_
  refine lv_aload_n hx hb dL_law_193 rfl (lv_at hl 1 rfl) ?_
  refine lv_iload hx hb dL_law_194 (lv_at hl 0 rfl) ?_
  refine lv_iconst (v := 1) hx hb dL_law_196 (by decide) ?_
  refine lv_iadd hx hb dL_law_197 ?_
  rw [show ((nI (4 * i)) + 1 : Int32) = nI (4 * i + 1) from nI_add (4 * i) 1]
  refine va_sld hx hb hX hbl (fun h9 => absurd h9 (Nat.not_le.mpr hbl)) hS (vp_in_nI (by omega) (by omega)) dL_law_198 ?_
  rw [clamp_nI (show 4 * i + 1 < 2147483648 by omega)]
  rw [e1]
  refine lv_aload_n hx hb dL_law_199 rfl (lv_at hl 1 rfl) ?_
  refine lv_iload hx hb dL_law_200 (lv_at hl 0 rfl) ?_
  refine lv_iconst (v := 2) hx hb dL_law_202 (by decide) ?_
  refine lv_iadd hx hb dL_law_203 ?_
  rw [show ((nI (4 * i)) + 2 : Int32) = nI (4 * i + 2) from nI_add (4 * i) 2]
  refine va_sld hx hb hX hbl (fun h9 => absurd h9 (Nat.not_le.mpr hbl)) hS (vp_in_nI (by omega) (by omega)) dL_law_204 ?_
  rw [clamp_nI (show 4 * i + 2 < 2147483648 by omega)]
  rw [e2]
  refine lv_aload_n hx hb dL_law_205 rfl (lv_at hl 4 rfl) ?_
  refine wr_i (runSL (As := [.ref (X 0), .int (nI k), .int x, .ref o]) (rest := []) ⟨hx, hb, hml, hown, hts⟩ (met_L_setRate l dC dI cI cW cJ o f0 X Bk Br d r n ch pd pr yr Wd n2 ch2 pd2 pr2 yr2 W2 (mw cI M th n d r Wd ch pd yr (WT d (r 0))) k hk x h4 _) (vx_cwSW 4 hts gL_law_L_setRate rfl rfl rfl (by decide +kernel) ⟨Nat.le_of_ble_eq_true rfl, Nat.le_of_ble_eq_true rfl⟩) hKK hKJ (hKX0.at hS) hP hD rfl hl.1 (Nat.le_of_ble_eq_true rfl) rfl dL_law_206 ⟨(show 40 + 4 * i + 0 ≤ 601024 by omega), (show 3000 + 100 * i + 0 ≤ 7293034 by omega)⟩) hD hS hA (fun r_1 H locs hr_1 hP hD hS => ?_)
  subst hr_1
  have hP : va_P (dC, dI) vwCl (tab cI X d (upd r k x) ++ (bk cW X Bk n ch pd pr yr Wd ++ (bk cW X Br n2 ch2 pd2 pr2 yr2 W2 ++ (obj X Bk Br :: (o, .inl (cJ, 1, .inr (.inl (vp_updL f0 0 (r k).toInt64)))) :: (mw cI M th n d r Wd ch pd yr (WT d (r 0))))))) H := hP
  have hD : va_D (NEW s.heap.size) (tab cI X d (upd r k x) ++ (bk cW X Bk n ch pd pr yr Wd ++ (bk cW X Br n2 ch2 pd2 pr2 yr2 W2 ++ (obj X Bk Br :: (o, .inl (cJ, 1, .inr (.inl (vp_updL f0 0 (r k).toInt64)))) :: (mw cI M th n d r Wd ch pd yr (WT d (r 0))))))) := hD
  have hP := va_P_perm (law_perm _ _ _ _ _ _) hP
  have hD := va_D_perm (law_perm _ _ _ _ _ _) hD
  refine lv_istore (lv' := [(5, .int 0), (4, .int (nI (4 * i))), (0, .ref b), (1, .ref (X 0)), (2, .ref (M 0)), (3, .ref o)]) hx hb dL_law_209 hl (by decide) rfl (fun ls hl => ?_)
  refine lv_aload_n hx hb dL_law_211 rfl (lv_at hl 4 rfl) ?_
  refine lv_aload_n hx hb dL_law_212 rfl (lv_at hl 2 rfl) ?_
  refine lv_iload hx hb dL_law_213 (lv_at hl 1 rfl) ?_
  refine lv_iconst (v := 1) hx hb dL_law_215 (by decide) ?_
  refine lv_iadd hx hb dL_law_216 ?_
  rw [show ((nI (4 * i)) + 1 : Int32) = nI (4 * i + 1) from nI_add (4 * i) 1]
  refine va_sld hx hb hX hbl (fun h9 => absurd h9 (Nat.not_le.mpr hbl)) hS (vp_in_nI (by omega) (by omega)) dL_law_217 ?_
  rw [clamp_nI (show 4 * i + 1 < 2147483648 by omega)]
  rw [e1]
  refine lv_aload_n hx hb dL_law_218 rfl (lv_at hl 2 rfl) ?_
  refine lv_iload hx hb dL_law_219 (lv_at hl 1 rfl) ?_
  refine lv_iconst (v := 2) hx hb dL_law_221 (by decide) ?_
  refine lv_iadd hx hb dL_law_222 ?_
  rw [show ((nI (4 * i)) + 2 : Int32) = nI (4 * i + 2) from nI_add (4 * i) 2]
  refine va_sld hx hb hX hbl (fun h9 => absurd h9 (Nat.not_le.mpr hbl)) hS (vp_in_nI (by omega) (by omega)) dL_law_223 ?_
  rw [clamp_nI (show 4 * i + 2 < 2147483648 by omega)]
  rw [e2]
  refine wr_i (runVH (As := [.int (nI k), .int x]) (rest := []) ⟨hx, hb, hml, hown, hts⟩ (met_X4_setRate l dC dI cI cW t M th n d r Wd ch pd yr _ k hk x h4 ((hInv.rates hk h4).hi.1) _) (cwV 2 hts gL_law_X4_setRate rfl rfl rfl (by decide +kernel) ⟨Nat.le_of_ble_eq_true rfl, Nat.le_of_ble_eq_true rfl⟩) hKK (hHG0.here hD hS) hP hD 4 0 rfl rfl rfl hl.1 (Nat.le_of_ble_eq_true rfl) rfl dL_law_224 ⟨(show 40 + 4 * i + 0 + 0 ≤ 601024 by omega), (show 3000 + 100 * i + 0 + 0 ≤ 7293034 by omega)⟩) hD hS hA (fun r_2 H locs hr_2 hP hD hS => ?_)
  subst hr_2
  refine lv_istore (lv' := [(6, .int (r k)), (5, .int 0), (4, .int (nI (4 * i))), (0, .ref b), (1, .ref (X 0)), (2, .ref (M 0)), (3, .ref o)]) hx hb dL_law_227 hl (by decide) rfl (fun ls hl => ?_)
  refine lv_aload_n hx hb dL_law_229 rfl (lv_at hl 5 rfl) ?_
  refine rd_i (runV0 (As := []) (rest := []) ⟨hx, hb, hml, hown, hts⟩ (met_X4_thrown l dC dI cI cW _ _ _ _ _ _ _ _ _ _) (cwV 0 hts gL_law_X4_thrown rfl rfl rfl (by decide +kernel) ⟨Nat.le_of_ble_eq_true rfl, Nat.le_of_ble_eq_true rfl⟩) hKK (ws_left hP) 4 0 rfl rfl rfl hl.1 (Nat.le_of_ble_eq_true rfl) rfl dL_law_230 ⟨(show 40 + 4 * i + 0 + 0 ≤ 601024 by omega), (show 3000 + 100 * i + 0 + 0 ≤ 7293034 by omega)⟩) (fun r_3 hr_3 => ?_)
  subst hr_3
  have hP := va_P_perm (law_back _ _ _ _ _ _) hP
  have hD := va_D_perm (law_back _ _ _ _ _ _) hD
  refine lv_iload hx hb dL_law_233 (lv_at hl 1 rfl) ?_
  refine lv_icmp_eq (tgt := 240) hx hb dL_law_235 (by decide) (fun c_5 => ?_) (fun c_5 => ?_)
  · refine lv_iload hx hb dL_law_240 (lv_at hl 1 rfl) ?_
    refine lv_if_ne (tgt := 257) hx hb dL_law_242 (by decide) (fun c_6 => ?_) (fun c_6 => ?_)
    · exact absurd rfl c_6
    · refine lv_aload_n hx hb dL_law_245 rfl (lv_at hl 6 rfl) ?_
      refine lv_iconst (v := 0) hx hb dL_law_246 (by decide) ?_
      refine va_lald hx hb hKJ hP (27 + 1) 0 (cw_at rfl) rfl (vp_in_nI (n := 0) (by omega) (by omega)) dL_law_247 ?_
      rw [show (vp_updL f0 0 (r k).toInt64) (0 : Int32).toNatClampNeg = (r k).toInt64 from rfl]
      refine lv_iload hx hb dL_law_248 (lv_at hl 0 rfl) ?_
      refine lv_i2l hx hb dL_law_250 rfl ?_
      refine lv_lcmpS hx hb dL_law_251 ?_
      refine lv_if_eq (tgt := 257) hx hb dL_law_252 (by decide) (fun c_7 => ?_) (fun c_7 => ?_)
      · refine lv_goto (tgt := 1133) hx hb dL_law_257 (by decide) ?_
        refine lv_iinc (v := (nI (4 * (i + 1)))) (lv' := [(4, .int (nI (4 * (i + 1)))), (6, .int (r k)), (5, .int 0), (0, .ref b), (1, .ref (X 0)), (2, .ref (M 0)), (3, .ref o)]) hx hb dL_law_1133 hl (k := 2) rfl (nI_add (4 * i) 4) (by decide) rfl (fun ls hl => ?_)
        refine lv_goto (tgt := 23) hx hb dL_law_1136 (by decide) ?_
        refine W.widen (k := 40 + 4 * (i + 1)) (n := 3000 + 100 * (i + 1)) (by omega) (by omega) ?_
        exact ih _ _ _ _ _ _ _ _ _ _ _ _ _ _ _ _ _ ((hInv.rates hk h4).mono (Nat.le_succ i)) H locs hP hD hS ls (lv_sub hl [0, 3, 4, 5, 6] rfl)
      · exact absurd rfl c_7
  · exact absurd rfl c_5
set_option maxHeartbeats 4000000 in
set_option maxRecDepth 100000 in
theorem pL1_setRate {p : Program} {l : Launch} {e : Env} {s : State} {m : MethodId} {below : List Frame} {meth : Method} {c : Code} {b L : Nat} {xs : Nat → Int32} {dC : Nat → ClassId} {dI : Nat → Nat → Nat} {cI cW cJ : ClassId} {t : Nat} {X Bk Br : Nat → Nat} {o : Nat} (C9 : LC p l s m c b L xs dC dI cI cW cJ t) (i : Nat) (hi9 : i < 512) (hL4 : 4 * i + 4 ≤ L) (hLm : L ≤ 2048) (ih : LOOP p l e s m below meth c b dC dI cI cW cJ X Bk Br o (i + 1)) (M : Nat → Nat) (f0 : Nat → Int64) (th : Int32) (d r : Nat → Int32) (n : Nat) (ch pd pr yr : Int32) (Wd : Nat → Nat → Int32) (n2 : Nat) (ch2 pd2 pr2 yr2 : Int32) (W2 : Nat → Nat → Int32) (hInv : Inv i d r n ch pr Wd) (H : Heap) (locs : List Loc) (hP : va_P (dC, dI) vwCl (tab cI X d r ++ (bk cW X Bk n ch pd pr yr Wd ++ (bk cW X Br n2 ch2 pd2 pr2 yr2 W2 ++ (obj X Bk Br :: (o, .inl (cJ, 1, .inr (.inl f0))) :: mw cI M th n d r Wd ch pd yr (WT d (r 0)))))) H) (hD : va_D (NEW s.heap.size) (tab cI X d r ++ (bk cW X Bk n ch pd pr yr Wd ++ (bk cW X Br n2 ch2 pd2 pr2 yr2 W2 ++ (obj X Bk Br :: (o, .inl (cJ, 1, .inr (.inl f0))) :: mw cI M th n d r Wd ch pd yr (WT d (r 0))))))) (hS : va_S (NEW s.heap.size) s.heap H locs) (ls : Array Slot) (hl : lv_has ls 9 [(4, .int (nI (4 * i))), (0, .ref b), (1, .ref (X 0)), (2, .ref (M 0)), (3, .ref o)]) (a x : Int32) (h9 : ¬ (0 ≤ a ∧ a ≤ 2)) (e1 : xs (4 * i + 1) = a) (e2 : xs (4 * i + 2) = x) : W p l e room_1 s m #[Value.ref b] below meth c H locs (40 + 4 * i) (3000 + 100 * i) (lw_Z below #[Value.ref b] s) (F0 m 192 ls []) := by
  obtain ⟨hx, hb, hml, hown, hts, hX, hbl, hKK, hKJ, hKX0, hHG0, hl0⟩ := C9
  have hA : ∀ q, s.heap.size ≤ q → NEW s.heap.size q := fun q h => h
  have hn := hInv.2.2.1
  have hok := hInv.2.2.2.1
  have hi := hInv.hi.1
  have hi0 := hInv.hi.2
  refine lv_aload_n hx hb dL_law_192 rfl (lv_at hl 2 rfl) ?_
  refine lv_aload_n hx hb dL_law_193 rfl (lv_at hl 1 rfl) ?_
  refine lv_iload hx hb dL_law_194 (lv_at hl 0 rfl) ?_
  refine lv_iconst (v := 1) hx hb dL_law_196 (by decide) ?_
  refine lv_iadd hx hb dL_law_197 ?_
  rw [show ((nI (4 * i)) + 1 : Int32) = nI (4 * i + 1) from nI_add (4 * i) 1]
  refine va_sld hx hb hX hbl (fun h9 => absurd h9 (Nat.not_le.mpr hbl)) hS (vp_in_nI (by omega) (by omega)) dL_law_198 ?_
  rw [clamp_nI (show 4 * i + 1 < 2147483648 by omega)]
  rw [e1]
  refine lv_aload_n hx hb dL_law_199 rfl (lv_at hl 1 rfl) ?_
  refine lv_iload hx hb dL_law_200 (lv_at hl 0 rfl) ?_
  refine lv_iconst (v := 2) hx hb dL_law_202 (by decide) ?_
  refine lv_iadd hx hb dL_law_203 ?_
  rw [show ((nI (4 * i)) + 2 : Int32) = nI (4 * i + 2) from nI_add (4 * i) 2]
  refine va_sld hx hb hX hbl (fun h9 => absurd h9 (Nat.not_le.mpr hbl)) hS (vp_in_nI (by omega) (by omega)) dL_law_204 ?_
  rw [clamp_nI (show 4 * i + 2 < 2147483648 by omega)]
  rw [e2]
  refine lv_aload_n hx hb dL_law_205 rfl (lv_at hl 4 rfl) ?_
  refine wr_i (runSL (As := [.ref (X 0), .int a, .int x, .ref o]) (rest := []) ⟨hx, hb, hml, hown, hts⟩ (bad1_L_setRate l dC dI cI cW hl0 cJ o f0 X Bk Br d r n ch pd pr yr Wd n2 ch2 pd2 pr2 yr2 W2 (mw cI M th n d r Wd ch pd yr (WT d (r 0))) a x h9 _) (vx_cwSW 4 hts gL_law_L_setRate rfl rfl rfl (by decide +kernel) ⟨Nat.le_of_ble_eq_true rfl, Nat.le_of_ble_eq_true rfl⟩) hKK hKJ (hKX0.at hS) hP hD rfl hl.1 (Nat.le_of_ble_eq_true rfl) rfl dL_law_206 ⟨(show 40 + 4 * i + 1 ≤ 601024 by omega), (show 3000 + 100 * i + 6 ≤ 7293034 by omega)⟩) hD hS hA (fun r_1 H locs hr_1 hP hD hS => ?_)
  subst hr_1
  have hP : va_P (dC, dI) vwCl (tab cI X d r ++ (bk cW X Bk n ch pd pr yr Wd ++ (bk cW X Br n2 ch2 pd2 pr2 yr2 W2 ++ (obj X Bk Br :: (o, .inl (cJ, 1, .inr (.inl f0))) :: (mw cI M th n d r Wd ch pd yr (WT d (r 0))))))) H := hP
  have hD : va_D (NEW s.heap.size) (tab cI X d r ++ (bk cW X Bk n ch pd pr yr Wd ++ (bk cW X Br n2 ch2 pd2 pr2 yr2 W2 ++ (obj X Bk Br :: (o, .inl (cJ, 1, .inr (.inl f0))) :: (mw cI M th n d r Wd ch pd yr (WT d (r 0))))))) := hD
  have hP := va_P_perm (law_perm _ _ _ _ _ _) hP
  have hD := va_D_perm (law_perm _ _ _ _ _ _) hD
  refine lv_istore (lv' := [(5, .int 1), (4, .int (nI (4 * i))), (0, .ref b), (1, .ref (X 0)), (2, .ref (M 0)), (3, .ref o)]) hx hb dL_law_209 hl (by decide) rfl (fun ls hl => ?_)
  refine lv_aload_n hx hb dL_law_211 rfl (lv_at hl 4 rfl) ?_
  refine lv_aload_n hx hb dL_law_212 rfl (lv_at hl 2 rfl) ?_
  refine lv_iload hx hb dL_law_213 (lv_at hl 1 rfl) ?_
  refine lv_iconst (v := 1) hx hb dL_law_215 (by decide) ?_
  refine lv_iadd hx hb dL_law_216 ?_
  rw [show ((nI (4 * i)) + 1 : Int32) = nI (4 * i + 1) from nI_add (4 * i) 1]
  refine va_sld hx hb hX hbl (fun h9 => absurd h9 (Nat.not_le.mpr hbl)) hS (vp_in_nI (by omega) (by omega)) dL_law_217 ?_
  rw [clamp_nI (show 4 * i + 1 < 2147483648 by omega)]
  rw [e1]
  refine lv_aload_n hx hb dL_law_218 rfl (lv_at hl 2 rfl) ?_
  refine lv_iload hx hb dL_law_219 (lv_at hl 1 rfl) ?_
  refine lv_iconst (v := 2) hx hb dL_law_221 (by decide) ?_
  refine lv_iadd hx hb dL_law_222 ?_
  rw [show ((nI (4 * i)) + 2 : Int32) = nI (4 * i + 2) from nI_add (4 * i) 2]
  refine va_sld hx hb hX hbl (fun h9 => absurd h9 (Nat.not_le.mpr hbl)) hS (vp_in_nI (by omega) (by omega)) dL_law_223 ?_
  rw [clamp_nI (show 4 * i + 2 < 2147483648 by omega)]
  rw [e2]
  refine wr_i (runV1 (As := [.int a, .int x]) (rest := []) ⟨hx, hb, hml, hown, hts⟩ (met1_X4_setRate l dC dI cI cW M th n d r Wd ch pd yr _ a x h9 _) (cwV 2 hts gL_law_X4_setRate rfl rfl rfl (by decide +kernel) ⟨Nat.le_of_ble_eq_true rfl, Nat.le_of_ble_eq_true rfl⟩) hKK hP hD 4 0 rfl rfl rfl hl.1 (Nat.le_of_ble_eq_true rfl) rfl dL_law_224 ⟨(show 40 + 4 * i + 1 + 0 ≤ 601024 by omega), (show 3000 + 100 * i + 6 + 0 ≤ 7293034 by omega)⟩) hD hS hA (fun r_2 H locs hr_2 hP hD hS => ?_)
  subst hr_2
  refine lv_istore (lv' := [(6, .int 0), (5, .int 1), (4, .int (nI (4 * i))), (0, .ref b), (1, .ref (X 0)), (2, .ref (M 0)), (3, .ref o)]) hx hb dL_law_227 hl (by decide) rfl (fun ls hl => ?_)
  refine lv_aload_n hx hb dL_law_229 rfl (lv_at hl 5 rfl) ?_
  refine rd_i (runV0 (As := []) (rest := []) ⟨hx, hb, hml, hown, hts⟩ (met_X4_thrown l dC dI cI cW _ _ _ _ _ _ _ _ _ _) (cwV 0 hts gL_law_X4_thrown rfl rfl rfl (by decide +kernel) ⟨Nat.le_of_ble_eq_true rfl, Nat.le_of_ble_eq_true rfl⟩) hKK (ws_left hP) 4 0 rfl rfl rfl hl.1 (Nat.le_of_ble_eq_true rfl) rfl dL_law_230 ⟨(show 40 + 4 * i + 1 + 0 ≤ 601024 by omega), (show 3000 + 100 * i + 6 + 0 ≤ 7293034 by omega)⟩) (fun r_3 hr_3 => ?_)
  subst hr_3
  have hP := va_P_perm (law_back _ _ _ _ _ _) hP
  have hD := va_D_perm (law_back _ _ _ _ _ _) hD
  refine lv_iload hx hb dL_law_233 (lv_at hl 1 rfl) ?_
  refine lv_icmp_eq (tgt := 240) hx hb dL_law_235 (by decide) (fun c_5 => ?_) (fun c_5 => ?_)
  · refine lv_iload hx hb dL_law_240 (lv_at hl 1 rfl) ?_
    refine lv_if_ne (tgt := 257) hx hb dL_law_242 (by decide) (fun c_6 => ?_) (fun c_6 => ?_)
    · refine lv_goto (tgt := 1133) hx hb dL_law_257 (by decide) ?_
      refine lv_iinc (v := (nI (4 * (i + 1)))) (lv' := [(4, .int (nI (4 * (i + 1)))), (6, .int 0), (5, .int 1), (0, .ref b), (1, .ref (X 0)), (2, .ref (M 0)), (3, .ref o)]) hx hb dL_law_1133 hl (k := 2) rfl (nI_add (4 * i) 4) (by decide) rfl (fun ls hl => ?_)
      refine lv_goto (tgt := 23) hx hb dL_law_1136 (by decide) ?_
      refine W.widen (k := 40 + 4 * (i + 1)) (n := 3000 + 100 * (i + 1)) (by omega) (by omega) ?_
      exact ih _ _ _ _ _ _ _ _ _ _ _ _ _ _ _ _ _ (hInv.mono (Nat.le_succ i)) H locs hP hD hS ls (lv_sub hl [0, 3, 4, 5, 6] rfl)
    · exact absurd c_6 (by decide)
  · exact absurd rfl c_5
set_option maxHeartbeats 4000000 in
set_option maxRecDepth 100000 in
theorem pL2_setRate {p : Program} {l : Launch} {e : Env} {s : State} {m : MethodId} {below : List Frame} {meth : Method} {c : Code} {b L : Nat} {xs : Nat → Int32} {dC : Nat → ClassId} {dI : Nat → Nat → Nat} {cI cW cJ : ClassId} {t : Nat} {X Bk Br : Nat → Nat} {o : Nat} (C9 : LC p l s m c b L xs dC dI cI cW cJ t) (i : Nat) (hi9 : i < 512) (hL4 : 4 * i + 4 ≤ L) (hLm : L ≤ 2048) (ih : LOOP p l e s m below meth c b dC dI cI cW cJ X Bk Br o (i + 1)) (M : Nat → Nat) (f0 : Nat → Int64) (th : Int32) (d r : Nat → Int32) (n : Nat) (ch pd pr yr : Int32) (Wd : Nat → Nat → Int32) (n2 : Nat) (ch2 pd2 pr2 yr2 : Int32) (W2 : Nat → Nat → Int32) (hInv : Inv i d r n ch pr Wd) (H : Heap) (locs : List Loc) (hP : va_P (dC, dI) vwCl (tab cI X d r ++ (bk cW X Bk n ch pd pr yr Wd ++ (bk cW X Br n2 ch2 pd2 pr2 yr2 W2 ++ (obj X Bk Br :: (o, .inl (cJ, 1, .inr (.inl f0))) :: mw cI M th n d r Wd ch pd yr (WT d (r 0)))))) H) (hD : va_D (NEW s.heap.size) (tab cI X d r ++ (bk cW X Bk n ch pd pr yr Wd ++ (bk cW X Br n2 ch2 pd2 pr2 yr2 W2 ++ (obj X Bk Br :: (o, .inl (cJ, 1, .inr (.inl f0))) :: mw cI M th n d r Wd ch pd yr (WT d (r 0))))))) (hS : va_S (NEW s.heap.size) s.heap H locs) (ls : Array Slot) (hl : lv_has ls 9 [(4, .int (nI (4 * i))), (0, .ref b), (1, .ref (X 0)), (2, .ref (M 0)), (3, .ref o)]) (k : Nat) (hk : k < 3) (x : Int32) (h9 : ¬ (0 ≤ x ∧ x ≤ (if k = 0 then (200 : Int32) else 50))) (e1 : xs (4 * i + 1) = nI k) (e2 : xs (4 * i + 2) = x) : W p l e room_1 s m #[Value.ref b] below meth c H locs (40 + 4 * i) (3000 + 100 * i) (lw_Z below #[Value.ref b] s) (F0 m 192 ls []) := by
  obtain ⟨hx, hb, hml, hown, hts, hX, hbl, hKK, hKJ, hKX0, hHG0, hl0⟩ := C9
  have hA : ∀ q, s.heap.size ≤ q → NEW s.heap.size q := fun q h => h
  have hn := hInv.2.2.1
  have hok := hInv.2.2.2.1
  have hi := hInv.hi.1
  have hi0 := hInv.hi.2
  refine lv_aload_n hx hb dL_law_192 rfl (lv_at hl 2 rfl) ?_
  refine lv_aload_n hx hb dL_law_193 rfl (lv_at hl 1 rfl) ?_
  refine lv_iload hx hb dL_law_194 (lv_at hl 0 rfl) ?_
  refine lv_iconst (v := 1) hx hb dL_law_196 (by decide) ?_
  refine lv_iadd hx hb dL_law_197 ?_
  rw [show ((nI (4 * i)) + 1 : Int32) = nI (4 * i + 1) from nI_add (4 * i) 1]
  refine va_sld hx hb hX hbl (fun h9 => absurd h9 (Nat.not_le.mpr hbl)) hS (vp_in_nI (by omega) (by omega)) dL_law_198 ?_
  rw [clamp_nI (show 4 * i + 1 < 2147483648 by omega)]
  rw [e1]
  refine lv_aload_n hx hb dL_law_199 rfl (lv_at hl 1 rfl) ?_
  refine lv_iload hx hb dL_law_200 (lv_at hl 0 rfl) ?_
  refine lv_iconst (v := 2) hx hb dL_law_202 (by decide) ?_
  refine lv_iadd hx hb dL_law_203 ?_
  rw [show ((nI (4 * i)) + 2 : Int32) = nI (4 * i + 2) from nI_add (4 * i) 2]
  refine va_sld hx hb hX hbl (fun h9 => absurd h9 (Nat.not_le.mpr hbl)) hS (vp_in_nI (by omega) (by omega)) dL_law_204 ?_
  rw [clamp_nI (show 4 * i + 2 < 2147483648 by omega)]
  rw [e2]
  refine lv_aload_n hx hb dL_law_205 rfl (lv_at hl 4 rfl) ?_
  refine wr_i (runSL (As := [.ref (X 0), .int (nI k), .int x, .ref o]) (rest := []) ⟨hx, hb, hml, hown, hts⟩ (bad2_L_setRate l dC dI cI cW hl0 cJ o f0 X Bk Br d r n ch pd pr yr Wd n2 ch2 pd2 pr2 yr2 W2 (mw cI M th n d r Wd ch pd yr (WT d (r 0))) k hk x h9 _) (vx_cwSW 4 hts gL_law_L_setRate rfl rfl rfl (by decide +kernel) ⟨Nat.le_of_ble_eq_true rfl, Nat.le_of_ble_eq_true rfl⟩) hKK hKJ (hKX0.at hS) hP hD rfl hl.1 (Nat.le_of_ble_eq_true rfl) rfl dL_law_206 ⟨(show 40 + 4 * i + 1 ≤ 601024 by omega), (show 3000 + 100 * i + 6 ≤ 7293034 by omega)⟩) hD hS hA (fun r_1 H locs hr_1 hP hD hS => ?_)
  subst hr_1
  have hP : va_P (dC, dI) vwCl (tab cI X d r ++ (bk cW X Bk n ch pd pr yr Wd ++ (bk cW X Br n2 ch2 pd2 pr2 yr2 W2 ++ (obj X Bk Br :: (o, .inl (cJ, 1, .inr (.inl f0))) :: (mw cI M th n d r Wd ch pd yr (WT d (r 0))))))) H := hP
  have hD : va_D (NEW s.heap.size) (tab cI X d r ++ (bk cW X Bk n ch pd pr yr Wd ++ (bk cW X Br n2 ch2 pd2 pr2 yr2 W2 ++ (obj X Bk Br :: (o, .inl (cJ, 1, .inr (.inl f0))) :: (mw cI M th n d r Wd ch pd yr (WT d (r 0))))))) := hD
  have hP := va_P_perm (law_perm _ _ _ _ _ _) hP
  have hD := va_D_perm (law_perm _ _ _ _ _ _) hD
  refine lv_istore (lv' := [(5, .int 2), (4, .int (nI (4 * i))), (0, .ref b), (1, .ref (X 0)), (2, .ref (M 0)), (3, .ref o)]) hx hb dL_law_209 hl (by decide) rfl (fun ls hl => ?_)
  refine lv_aload_n hx hb dL_law_211 rfl (lv_at hl 4 rfl) ?_
  refine lv_aload_n hx hb dL_law_212 rfl (lv_at hl 2 rfl) ?_
  refine lv_iload hx hb dL_law_213 (lv_at hl 1 rfl) ?_
  refine lv_iconst (v := 1) hx hb dL_law_215 (by decide) ?_
  refine lv_iadd hx hb dL_law_216 ?_
  rw [show ((nI (4 * i)) + 1 : Int32) = nI (4 * i + 1) from nI_add (4 * i) 1]
  refine va_sld hx hb hX hbl (fun h9 => absurd h9 (Nat.not_le.mpr hbl)) hS (vp_in_nI (by omega) (by omega)) dL_law_217 ?_
  rw [clamp_nI (show 4 * i + 1 < 2147483648 by omega)]
  rw [e1]
  refine lv_aload_n hx hb dL_law_218 rfl (lv_at hl 2 rfl) ?_
  refine lv_iload hx hb dL_law_219 (lv_at hl 1 rfl) ?_
  refine lv_iconst (v := 2) hx hb dL_law_221 (by decide) ?_
  refine lv_iadd hx hb dL_law_222 ?_
  rw [show ((nI (4 * i)) + 2 : Int32) = nI (4 * i + 2) from nI_add (4 * i) 2]
  refine va_sld hx hb hX hbl (fun h9 => absurd h9 (Nat.not_le.mpr hbl)) hS (vp_in_nI (by omega) (by omega)) dL_law_223 ?_
  rw [clamp_nI (show 4 * i + 2 < 2147483648 by omega)]
  rw [e2]
  refine wr_i (runVH (As := [.int (nI k), .int x]) (rest := []) ⟨hx, hb, hml, hown, hts⟩ (met2_X4_setRate l dC dI cI cW t M th n d r Wd ch pd yr _ k hk x h9 _) (cwV 2 hts gL_law_X4_setRate rfl rfl rfl (by decide +kernel) ⟨Nat.le_of_ble_eq_true rfl, Nat.le_of_ble_eq_true rfl⟩) hKK (hHG0.here hD hS) hP hD 4 0 rfl rfl rfl hl.1 (Nat.le_of_ble_eq_true rfl) rfl dL_law_224 ⟨(show 40 + 4 * i + 1 + 0 ≤ 601024 by omega), (show 3000 + 100 * i + 6 + 0 ≤ 7293034 by omega)⟩) hD hS hA (fun r_2 H locs hr_2 hP hD hS => ?_)
  subst hr_2
  refine lv_istore (lv' := [(6, .int 0), (5, .int 2), (4, .int (nI (4 * i))), (0, .ref b), (1, .ref (X 0)), (2, .ref (M 0)), (3, .ref o)]) hx hb dL_law_227 hl (by decide) rfl (fun ls hl => ?_)
  refine lv_aload_n hx hb dL_law_229 rfl (lv_at hl 5 rfl) ?_
  refine rd_i (runV0 (As := []) (rest := []) ⟨hx, hb, hml, hown, hts⟩ (met_X4_thrown l dC dI cI cW _ _ _ _ _ _ _ _ _ _) (cwV 0 hts gL_law_X4_thrown rfl rfl rfl (by decide +kernel) ⟨Nat.le_of_ble_eq_true rfl, Nat.le_of_ble_eq_true rfl⟩) hKK (ws_left hP) 4 0 rfl rfl rfl hl.1 (Nat.le_of_ble_eq_true rfl) rfl dL_law_230 ⟨(show 40 + 4 * i + 1 + 0 ≤ 601024 by omega), (show 3000 + 100 * i + 6 + 0 ≤ 7293034 by omega)⟩) (fun r_3 hr_3 => ?_)
  subst hr_3
  have hP := va_P_perm (law_back _ _ _ _ _ _) hP
  have hD := va_D_perm (law_back _ _ _ _ _ _) hD
  refine lv_iload hx hb dL_law_233 (lv_at hl 1 rfl) ?_
  refine lv_icmp_eq (tgt := 240) hx hb dL_law_235 (by decide) (fun c_5 => ?_) (fun c_5 => ?_)
  · refine lv_iload hx hb dL_law_240 (lv_at hl 1 rfl) ?_
    refine lv_if_ne (tgt := 257) hx hb dL_law_242 (by decide) (fun c_6 => ?_) (fun c_6 => ?_)
    · refine lv_goto (tgt := 1133) hx hb dL_law_257 (by decide) ?_
      refine lv_iinc (v := (nI (4 * (i + 1)))) (lv' := [(4, .int (nI (4 * (i + 1)))), (6, .int 0), (5, .int 2), (0, .ref b), (1, .ref (X 0)), (2, .ref (M 0)), (3, .ref o)]) hx hb dL_law_1133 hl (k := 2) rfl (nI_add (4 * i) 4) (by decide) rfl (fun ls hl => ?_)
      refine lv_goto (tgt := 23) hx hb dL_law_1136 (by decide) ?_
      refine W.widen (k := 40 + 4 * (i + 1)) (n := 3000 + 100 * (i + 1)) (by omega) (by omega) ?_
      exact ih _ _ _ _ _ _ _ _ _ _ _ _ _ _ _ _ _ (hInv.mono (Nat.le_succ i)) H locs hP hD hS ls (lv_sub hl [0, 3, 4, 5, 6] rfl)
    · exact absurd c_6 (by decide)
  · exact absurd rfl c_5
set_option maxHeartbeats 4000000 in
set_option maxRecDepth 100000 in
theorem pL0_buy {p : Program} {l : Launch} {e : Env} {s : State} {m : MethodId} {below : List Frame} {meth : Method} {c : Code} {b L : Nat} {xs : Nat → Int32} {dC : Nat → ClassId} {dI : Nat → Nat → Nat} {cI cW cJ : ClassId} {t : Nat} {X Bk Br : Nat → Nat} {o : Nat} (C9 : LC p l s m c b L xs dC dI cI cW cJ t) (i : Nat) (hi9 : i < 512) (hL4 : 4 * i + 4 ≤ L) (hLm : L ≤ 2048) (ih : LOOP p l e s m below meth c b dC dI cI cW cJ X Bk Br o (i + 1)) (M : Nat → Nat) (f0 : Nat → Int64) (th : Int32) (d r : Nat → Int32) (n : Nat) (ch pd pr yr : Int32) (Wd : Nat → Nat → Int32) (n2 : Nat) (ch2 pd2 pr2 yr2 : Int32) (W2 : Nat → Nat → Int32) (hInv : Inv i d r n ch pr Wd) (H : Heap) (locs : List Loc) (hP : va_P (dC, dI) vwCl (tab cI X d r ++ (bk cW X Bk n ch pd pr yr Wd ++ (bk cW X Br n2 ch2 pd2 pr2 yr2 W2 ++ (obj X Bk Br :: (o, .inl (cJ, 1, .inr (.inl f0))) :: mw cI M th n d r Wd ch pd yr (WT d (r 0)))))) H) (hD : va_D (NEW s.heap.size) (tab cI X d r ++ (bk cW X Bk n ch pd pr yr Wd ++ (bk cW X Br n2 ch2 pd2 pr2 yr2 W2 ++ (obj X Bk Br :: (o, .inl (cJ, 1, .inr (.inl f0))) :: mw cI M th n d r Wd ch pd yr (WT d (r 0))))))) (hS : va_S (NEW s.heap.size) s.heap H locs) (ls : Array Slot) (hl : lv_has ls 9 [(4, .int (nI (4 * i))), (0, .ref b), (1, .ref (X 0)), (2, .ref (M 0)), (3, .ref o)]) (hn10 : n < 10) (ka : Nat) (x : Int32) (kb : Nat) (h1 : 50 ≤ ka) (h2 : ka ≤ 99) (hx9 : 1 ≤ x ∧ x ≤ 999) (h3 : kb ≤ 30) (hw : ¬ wN d (r 0) (100 - ka) kb = 0) (e1 : xs (4 * i + 1) = nI ka) (e2 : xs (4 * i + 2) = x) (e3 : xs (4 * i + 3) = nI kb) : W p l e room_1 s m #[Value.ref b] below meth c H locs (40 + 4 * i) (3000 + 100 * i) (lw_Z below #[Value.ref b] s) (F0 m 260 ls []) := by
  obtain ⟨hx, hb, hml, hown, hts, hX, hbl, hKK, hKJ, hKX0, hHG0, hl0⟩ := C9
  have hA : ∀ q, s.heap.size ≤ q → NEW s.heap.size q := fun q h => h
  have hn := hInv.2.2.1
  have hok := hInv.2.2.2.1
  have hi := hInv.hi.1
  have hi0 := hInv.hi.2
  have hfx := (hInv.buy (Nat.le_of_lt hi9) hn10 h1 h2 hx9 h3).1
  refine lv_aload_n hx hb dL_law_260 rfl (lv_at hl 2 rfl) ?_
  refine lv_aload_n hx hb dL_law_261 rfl (lv_at hl 1 rfl) ?_
  refine lv_iload hx hb dL_law_262 (lv_at hl 0 rfl) ?_
  refine lv_iconst (v := 1) hx hb dL_law_264 (by decide) ?_
  refine lv_iadd hx hb dL_law_265 ?_
  rw [show ((nI (4 * i)) + 1 : Int32) = nI (4 * i + 1) from nI_add (4 * i) 1]
  refine va_sld hx hb hX hbl (fun h9 => absurd h9 (Nat.not_le.mpr hbl)) hS (vp_in_nI (by omega) (by omega)) dL_law_266 ?_
  rw [clamp_nI (show 4 * i + 1 < 2147483648 by omega)]
  rw [e1]
  refine lv_aload_n hx hb dL_law_267 rfl (lv_at hl 1 rfl) ?_
  refine lv_iload hx hb dL_law_268 (lv_at hl 0 rfl) ?_
  refine lv_iconst (v := 2) hx hb dL_law_270 (by decide) ?_
  refine lv_iadd hx hb dL_law_271 ?_
  rw [show ((nI (4 * i)) + 2 : Int32) = nI (4 * i + 2) from nI_add (4 * i) 2]
  refine va_sld hx hb hX hbl (fun h9 => absurd h9 (Nat.not_le.mpr hbl)) hS (vp_in_nI (by omega) (by omega)) dL_law_272 ?_
  rw [clamp_nI (show 4 * i + 2 < 2147483648 by omega)]
  rw [e2]
  refine lv_aload_n hx hb dL_law_273 rfl (lv_at hl 1 rfl) ?_
  refine lv_iload hx hb dL_law_274 (lv_at hl 0 rfl) ?_
  refine lv_iconst (v := 3) hx hb dL_law_276 (by decide) ?_
  refine lv_iadd hx hb dL_law_277 ?_
  rw [show ((nI (4 * i)) + 3 : Int32) = nI (4 * i + 3) from nI_add (4 * i) 3]
  refine va_sld hx hb hX hbl (fun h9 => absurd h9 (Nat.not_le.mpr hbl)) hS (vp_in_nI (by omega) (by omega)) dL_law_278 ?_
  rw [clamp_nI (show 4 * i + 3 < 2147483648 by omega)]
  rw [e3]
  refine lv_aload_n hx hb dL_law_279 rfl (lv_at hl 4 rfl) ?_
  refine wr_i (runSL (As := [.ref (X 0), .int (nI ka), .int x, .int (nI kb), .ref o]) (rest := []) ⟨hx, hb, hml, hown, hts⟩ (met_L_buy l dC dI cI cW cJ o f0 X Bk Br d r n ch pd pr yr Wd n2 ch2 pd2 pr2 yr2 W2 (mw cI M th n d r Wd ch pd yr (WT d (r 0))) hn10 ka x kb h1 h2 hx9 h3 hw hi hi0 _) (vx_cwSW 5 hts gL_law_L_buy rfl rfl rfl (by decide +kernel) ⟨Nat.le_of_ble_eq_true rfl, Nat.le_of_ble_eq_true rfl⟩) hKK hKJ (hKX0.at hS) hP hD rfl hl.1 (Nat.le_of_ble_eq_true rfl) rfl dL_law_280 ⟨(show 40 + 4 * i + 0 ≤ 601024 by omega), (show 3000 + 100 * i + 0 ≤ 7293034 by omega)⟩) hD hS hA (fun r_1 H locs hr_1 hP hD hS => ?_)
  subst hr_1
  have hP : va_P (dC, dI) vwCl (tab cI X d r ++ (bk cW X Bk (n + 1) (takeS ch (priceS (r 1) x (wN d (r 0) (100 - ka) kb))) pd (pr + priceS (r 1) x (wN d (r 0) (100 - ka) kb)) yr (upW Wd n (mkW (nI ka) x (nI kb) (priceS (r 1) x (wN d (r 0) (100 - ka) kb)))) ++ (bk cW X Br n2 ch2 pd2 pr2 yr2 W2 ++ (obj X Bk Br :: (o, .inl (cJ, 1, .inr (.inl (vp_updL f0 0 (nI n).toInt64)))) :: (mw cI M th n d r Wd ch pd yr (WT d (r 0))))))) H := hP
  have hD : va_D (NEW s.heap.size) (tab cI X d r ++ (bk cW X Bk (n + 1) (takeS ch (priceS (r 1) x (wN d (r 0) (100 - ka) kb))) pd (pr + priceS (r 1) x (wN d (r 0) (100 - ka) kb)) yr (upW Wd n (mkW (nI ka) x (nI kb) (priceS (r 1) x (wN d (r 0) (100 - ka) kb)))) ++ (bk cW X Br n2 ch2 pd2 pr2 yr2 W2 ++ (obj X Bk Br :: (o, .inl (cJ, 1, .inr (.inl (vp_updL f0 0 (nI n).toInt64)))) :: (mw cI M th n d r Wd ch pd yr (WT d (r 0))))))) := hD
  have hP := va_P_perm (law_perm _ _ _ _ _ _) hP
  have hD := va_D_perm (law_perm _ _ _ _ _ _) hD
  refine lv_istore (lv' := [(5, .int 0), (4, .int (nI (4 * i))), (0, .ref b), (1, .ref (X 0)), (2, .ref (M 0)), (3, .ref o)]) hx hb dL_law_283 hl (by decide) rfl (fun ls hl => ?_)
  refine lv_aload_n hx hb dL_law_285 rfl (lv_at hl 4 rfl) ?_
  refine lv_aload_n hx hb dL_law_286 rfl (lv_at hl 2 rfl) ?_
  refine lv_iload hx hb dL_law_287 (lv_at hl 1 rfl) ?_
  refine lv_iconst (v := 1) hx hb dL_law_289 (by decide) ?_
  refine lv_iadd hx hb dL_law_290 ?_
  rw [show ((nI (4 * i)) + 1 : Int32) = nI (4 * i + 1) from nI_add (4 * i) 1]
  refine va_sld hx hb hX hbl (fun h9 => absurd h9 (Nat.not_le.mpr hbl)) hS (vp_in_nI (by omega) (by omega)) dL_law_291 ?_
  rw [clamp_nI (show 4 * i + 1 < 2147483648 by omega)]
  rw [e1]
  refine lv_aload_n hx hb dL_law_292 rfl (lv_at hl 2 rfl) ?_
  refine lv_iload hx hb dL_law_293 (lv_at hl 1 rfl) ?_
  refine lv_iconst (v := 2) hx hb dL_law_295 (by decide) ?_
  refine lv_iadd hx hb dL_law_296 ?_
  rw [show ((nI (4 * i)) + 2 : Int32) = nI (4 * i + 2) from nI_add (4 * i) 2]
  refine va_sld hx hb hX hbl (fun h9 => absurd h9 (Nat.not_le.mpr hbl)) hS (vp_in_nI (by omega) (by omega)) dL_law_297 ?_
  rw [clamp_nI (show 4 * i + 2 < 2147483648 by omega)]
  rw [e2]
  refine lv_aload_n hx hb dL_law_298 rfl (lv_at hl 2 rfl) ?_
  refine lv_iload hx hb dL_law_299 (lv_at hl 1 rfl) ?_
  refine lv_iconst (v := 3) hx hb dL_law_301 (by decide) ?_
  refine lv_iadd hx hb dL_law_302 ?_
  rw [show ((nI (4 * i)) + 3 : Int32) = nI (4 * i + 3) from nI_add (4 * i) 3]
  refine va_sld hx hb hX hbl (fun h9 => absurd h9 (Nat.not_le.mpr hbl)) hS (vp_in_nI (by omega) (by omega)) dL_law_303 ?_
  rw [clamp_nI (show 4 * i + 3 < 2147483648 by omega)]
  rw [e3]
  refine wr_i (runV1 (As := [.int (nI ka), .int x, .int (nI kb)]) (rest := []) ⟨hx, hb, hml, hown, hts⟩ (met_X4_buy l dC dI cI cW M th n d r Wd ch pd yr _ hn10 ka x kb h1 h2 hx9 h3 hw _) (cwV 3 hts gL_law_X4_buy rfl rfl rfl (by decide +kernel) ⟨Nat.le_of_ble_eq_true rfl, Nat.le_of_ble_eq_true rfl⟩) hKK hP hD 4 0 rfl rfl rfl hl.1 (Nat.le_of_ble_eq_true rfl) rfl dL_law_304 ⟨(show 40 + 4 * i + 0 + 1 ≤ 601024 by omega), (show 3000 + 100 * i + 0 + 7 ≤ 7293034 by omega)⟩) hD hS hA (fun r_2 H locs hr_2 hP hD hS => ?_)
  subst hr_2
  refine lv_istore (lv' := [(6, .int (nI n)), (5, .int 0), (4, .int (nI (4 * i))), (0, .ref b), (1, .ref (X 0)), (2, .ref (M 0)), (3, .ref o)]) hx hb dL_law_307 hl (by decide) rfl (fun ls hl => ?_)
  refine lv_aload_n hx hb dL_law_309 rfl (lv_at hl 5 rfl) ?_
  refine rd_i (runV0 (As := []) (rest := []) ⟨hx, hb, hml, hown, hts⟩ (met_X4_thrown l dC dI cI cW _ _ _ _ _ _ _ _ _ _) (cwV 0 hts gL_law_X4_thrown rfl rfl rfl (by decide +kernel) ⟨Nat.le_of_ble_eq_true rfl, Nat.le_of_ble_eq_true rfl⟩) hKK (ws_left hP) 4 0 rfl rfl rfl hl.1 (Nat.le_of_ble_eq_true rfl) rfl dL_law_310 ⟨(show 40 + 4 * i + 0 + 1 ≤ 601024 by omega), (show 3000 + 100 * i + 0 + 7 ≤ 7293034 by omega)⟩) (fun r_3 hr_3 => ?_)
  subst hr_3
  have hP := va_P_perm (law_back _ _ _ _ _ _) hP
  have hD := va_D_perm (law_back _ _ _ _ _ _) hD
  refine lv_iload hx hb dL_law_313 (lv_at hl 1 rfl) ?_
  refine lv_icmp_eq (tgt := 320) hx hb dL_law_315 (by decide) (fun c_7 => ?_) (fun c_7 => ?_)
  · refine lv_iload hx hb dL_law_320 (lv_at hl 1 rfl) ?_
    refine lv_if_ne (tgt := 337) hx hb dL_law_322 (by decide) (fun c_8 => ?_) (fun c_8 => ?_)
    · exact absurd rfl c_8
    · refine lv_aload_n hx hb dL_law_325 rfl (lv_at hl 6 rfl) ?_
      refine lv_iconst (v := 0) hx hb dL_law_326 (by decide) ?_
      refine va_lald hx hb hKJ hP (27 + 1) 0 (cw_at rfl) rfl (vp_in_nI (n := 0) (by omega) (by omega)) dL_law_327 ?_
      rw [show (vp_updL f0 0 (nI n).toInt64) (0 : Int32).toNatClampNeg = (nI n).toInt64 from rfl]
      refine lv_iload hx hb dL_law_328 (lv_at hl 0 rfl) ?_
      refine lv_i2l hx hb dL_law_330 rfl ?_
      refine lv_lcmpS hx hb dL_law_331 ?_
      refine lv_if_eq (tgt := 337) hx hb dL_law_332 (by decide) (fun c_9 => ?_) (fun c_9 => ?_)
      · refine lv_goto (tgt := 1133) hx hb dL_law_337 (by decide) ?_
        refine lv_iinc (v := (nI (4 * (i + 1)))) (lv' := [(4, .int (nI (4 * (i + 1)))), (6, .int (nI n)), (5, .int 0), (0, .ref b), (1, .ref (X 0)), (2, .ref (M 0)), (3, .ref o)]) hx hb dL_law_1133 hl (k := 2) rfl (nI_add (4 * i) 4) (by decide) rfl (fun ls hl => ?_)
        refine lv_goto (tgt := 23) hx hb dL_law_1136 (by decide) ?_
        rw [hfx] at hP hD
        refine W.widen (k := 40 + 4 * (i + 1)) (n := 3000 + 100 * (i + 1)) (by omega) (by omega) ?_
        exact ih _ _ _ _ _ _ _ _ _ _ _ _ _ _ _ _ _ ((hInv.buy (Nat.le_of_lt hi9) hn10 h1 h2 hx9 h3).2) H locs hP hD hS ls (lv_sub hl [0, 3, 4, 5, 6] rfl)
      · exact absurd rfl c_9
  · exact absurd rfl c_7
set_option maxHeartbeats 4000000 in
set_option maxRecDepth 100000 in
theorem pL1_buy {p : Program} {l : Launch} {e : Env} {s : State} {m : MethodId} {below : List Frame} {meth : Method} {c : Code} {b L : Nat} {xs : Nat → Int32} {dC : Nat → ClassId} {dI : Nat → Nat → Nat} {cI cW cJ : ClassId} {t : Nat} {X Bk Br : Nat → Nat} {o : Nat} (C9 : LC p l s m c b L xs dC dI cI cW cJ t) (i : Nat) (hi9 : i < 512) (hL4 : 4 * i + 4 ≤ L) (hLm : L ≤ 2048) (ih : LOOP p l e s m below meth c b dC dI cI cW cJ X Bk Br o (i + 1)) (M : Nat → Nat) (f0 : Nat → Int64) (th : Int32) (d r : Nat → Int32) (n : Nat) (ch pd pr yr : Int32) (Wd : Nat → Nat → Int32) (n2 : Nat) (ch2 pd2 pr2 yr2 : Int32) (W2 : Nat → Nat → Int32) (hInv : Inv i d r n ch pr Wd) (H : Heap) (locs : List Loc) (hP : va_P (dC, dI) vwCl (tab cI X d r ++ (bk cW X Bk n ch pd pr yr Wd ++ (bk cW X Br n2 ch2 pd2 pr2 yr2 W2 ++ (obj X Bk Br :: (o, .inl (cJ, 1, .inr (.inl f0))) :: mw cI M th n d r Wd ch pd yr (WT d (r 0)))))) H) (hD : va_D (NEW s.heap.size) (tab cI X d r ++ (bk cW X Bk n ch pd pr yr Wd ++ (bk cW X Br n2 ch2 pd2 pr2 yr2 W2 ++ (obj X Bk Br :: (o, .inl (cJ, 1, .inr (.inl f0))) :: mw cI M th n d r Wd ch pd yr (WT d (r 0))))))) (hS : va_S (NEW s.heap.size) s.heap H locs) (ls : Array Slot) (hl : lv_has ls 9 [(4, .int (nI (4 * i))), (0, .ref b), (1, .ref (X 0)), (2, .ref (M 0)), (3, .ref o)]) (a x p9 : Int32) (h9 : ¬ ((50 ≤ a ∧ a ≤ 99) ∧ (1 ≤ x ∧ x ≤ 999) ∧ (0 ≤ p9 ∧ p9 ≤ 30))) (e1 : xs (4 * i + 1) = a) (e2 : xs (4 * i + 2) = x) (e3 : xs (4 * i + 3) = p9) : W p l e room_1 s m #[Value.ref b] below meth c H locs (40 + 4 * i) (3000 + 100 * i) (lw_Z below #[Value.ref b] s) (F0 m 260 ls []) := by
  obtain ⟨hx, hb, hml, hown, hts, hX, hbl, hKK, hKJ, hKX0, hHG0, hl0⟩ := C9
  have hA : ∀ q, s.heap.size ≤ q → NEW s.heap.size q := fun q h => h
  have hn := hInv.2.2.1
  have hok := hInv.2.2.2.1
  have hi := hInv.hi.1
  have hi0 := hInv.hi.2
  refine lv_aload_n hx hb dL_law_260 rfl (lv_at hl 2 rfl) ?_
  refine lv_aload_n hx hb dL_law_261 rfl (lv_at hl 1 rfl) ?_
  refine lv_iload hx hb dL_law_262 (lv_at hl 0 rfl) ?_
  refine lv_iconst (v := 1) hx hb dL_law_264 (by decide) ?_
  refine lv_iadd hx hb dL_law_265 ?_
  rw [show ((nI (4 * i)) + 1 : Int32) = nI (4 * i + 1) from nI_add (4 * i) 1]
  refine va_sld hx hb hX hbl (fun h9 => absurd h9 (Nat.not_le.mpr hbl)) hS (vp_in_nI (by omega) (by omega)) dL_law_266 ?_
  rw [clamp_nI (show 4 * i + 1 < 2147483648 by omega)]
  rw [e1]
  refine lv_aload_n hx hb dL_law_267 rfl (lv_at hl 1 rfl) ?_
  refine lv_iload hx hb dL_law_268 (lv_at hl 0 rfl) ?_
  refine lv_iconst (v := 2) hx hb dL_law_270 (by decide) ?_
  refine lv_iadd hx hb dL_law_271 ?_
  rw [show ((nI (4 * i)) + 2 : Int32) = nI (4 * i + 2) from nI_add (4 * i) 2]
  refine va_sld hx hb hX hbl (fun h9 => absurd h9 (Nat.not_le.mpr hbl)) hS (vp_in_nI (by omega) (by omega)) dL_law_272 ?_
  rw [clamp_nI (show 4 * i + 2 < 2147483648 by omega)]
  rw [e2]
  refine lv_aload_n hx hb dL_law_273 rfl (lv_at hl 1 rfl) ?_
  refine lv_iload hx hb dL_law_274 (lv_at hl 0 rfl) ?_
  refine lv_iconst (v := 3) hx hb dL_law_276 (by decide) ?_
  refine lv_iadd hx hb dL_law_277 ?_
  rw [show ((nI (4 * i)) + 3 : Int32) = nI (4 * i + 3) from nI_add (4 * i) 3]
  refine va_sld hx hb hX hbl (fun h9 => absurd h9 (Nat.not_le.mpr hbl)) hS (vp_in_nI (by omega) (by omega)) dL_law_278 ?_
  rw [clamp_nI (show 4 * i + 3 < 2147483648 by omega)]
  rw [e3]
  refine lv_aload_n hx hb dL_law_279 rfl (lv_at hl 4 rfl) ?_
  refine wr_i (runSL (As := [.ref (X 0), .int a, .int x, .int p9, .ref o]) (rest := []) ⟨hx, hb, hml, hown, hts⟩ (bad1_L_buy l dC dI cI cW hl0 cJ o f0 X Bk Br d r n ch pd pr yr Wd n2 ch2 pd2 pr2 yr2 W2 (mw cI M th n d r Wd ch pd yr (WT d (r 0))) a x p9 h9 _) (vx_cwSW 5 hts gL_law_L_buy rfl rfl rfl (by decide +kernel) ⟨Nat.le_of_ble_eq_true rfl, Nat.le_of_ble_eq_true rfl⟩) hKK hKJ (hKX0.at hS) hP hD rfl hl.1 (Nat.le_of_ble_eq_true rfl) rfl dL_law_280 ⟨(show 40 + 4 * i + 1 ≤ 601024 by omega), (show 3000 + 100 * i + 6 ≤ 7293034 by omega)⟩) hD hS hA (fun r_1 H locs hr_1 hP hD hS => ?_)
  subst hr_1
  have hP : va_P (dC, dI) vwCl (tab cI X d r ++ (bk cW X Bk n ch pd pr yr Wd ++ (bk cW X Br n2 ch2 pd2 pr2 yr2 W2 ++ (obj X Bk Br :: (o, .inl (cJ, 1, .inr (.inl f0))) :: (mw cI M th n d r Wd ch pd yr (WT d (r 0))))))) H := hP
  have hD : va_D (NEW s.heap.size) (tab cI X d r ++ (bk cW X Bk n ch pd pr yr Wd ++ (bk cW X Br n2 ch2 pd2 pr2 yr2 W2 ++ (obj X Bk Br :: (o, .inl (cJ, 1, .inr (.inl f0))) :: (mw cI M th n d r Wd ch pd yr (WT d (r 0))))))) := hD
  have hP := va_P_perm (law_perm _ _ _ _ _ _) hP
  have hD := va_D_perm (law_perm _ _ _ _ _ _) hD
  refine lv_istore (lv' := [(5, .int 1), (4, .int (nI (4 * i))), (0, .ref b), (1, .ref (X 0)), (2, .ref (M 0)), (3, .ref o)]) hx hb dL_law_283 hl (by decide) rfl (fun ls hl => ?_)
  refine lv_aload_n hx hb dL_law_285 rfl (lv_at hl 4 rfl) ?_
  refine lv_aload_n hx hb dL_law_286 rfl (lv_at hl 2 rfl) ?_
  refine lv_iload hx hb dL_law_287 (lv_at hl 1 rfl) ?_
  refine lv_iconst (v := 1) hx hb dL_law_289 (by decide) ?_
  refine lv_iadd hx hb dL_law_290 ?_
  rw [show ((nI (4 * i)) + 1 : Int32) = nI (4 * i + 1) from nI_add (4 * i) 1]
  refine va_sld hx hb hX hbl (fun h9 => absurd h9 (Nat.not_le.mpr hbl)) hS (vp_in_nI (by omega) (by omega)) dL_law_291 ?_
  rw [clamp_nI (show 4 * i + 1 < 2147483648 by omega)]
  rw [e1]
  refine lv_aload_n hx hb dL_law_292 rfl (lv_at hl 2 rfl) ?_
  refine lv_iload hx hb dL_law_293 (lv_at hl 1 rfl) ?_
  refine lv_iconst (v := 2) hx hb dL_law_295 (by decide) ?_
  refine lv_iadd hx hb dL_law_296 ?_
  rw [show ((nI (4 * i)) + 2 : Int32) = nI (4 * i + 2) from nI_add (4 * i) 2]
  refine va_sld hx hb hX hbl (fun h9 => absurd h9 (Nat.not_le.mpr hbl)) hS (vp_in_nI (by omega) (by omega)) dL_law_297 ?_
  rw [clamp_nI (show 4 * i + 2 < 2147483648 by omega)]
  rw [e2]
  refine lv_aload_n hx hb dL_law_298 rfl (lv_at hl 2 rfl) ?_
  refine lv_iload hx hb dL_law_299 (lv_at hl 1 rfl) ?_
  refine lv_iconst (v := 3) hx hb dL_law_301 (by decide) ?_
  refine lv_iadd hx hb dL_law_302 ?_
  rw [show ((nI (4 * i)) + 3 : Int32) = nI (4 * i + 3) from nI_add (4 * i) 3]
  refine va_sld hx hb hX hbl (fun h9 => absurd h9 (Nat.not_le.mpr hbl)) hS (vp_in_nI (by omega) (by omega)) dL_law_303 ?_
  rw [clamp_nI (show 4 * i + 3 < 2147483648 by omega)]
  rw [e3]
  refine wr_i (runV1 (As := [.int a, .int x, .int p9]) (rest := []) ⟨hx, hb, hml, hown, hts⟩ (met1_X4_buy l dC dI cI cW M th n d r Wd ch pd yr _ a x p9 h9 _) (cwV 3 hts gL_law_X4_buy rfl rfl rfl (by decide +kernel) ⟨Nat.le_of_ble_eq_true rfl, Nat.le_of_ble_eq_true rfl⟩) hKK hP hD 4 0 rfl rfl rfl hl.1 (Nat.le_of_ble_eq_true rfl) rfl dL_law_304 ⟨(show 40 + 4 * i + 1 + 0 ≤ 601024 by omega), (show 3000 + 100 * i + 6 + 0 ≤ 7293034 by omega)⟩) hD hS hA (fun r_2 H locs hr_2 hP hD hS => ?_)
  subst hr_2
  refine lv_istore (lv' := [(6, .int 0), (5, .int 1), (4, .int (nI (4 * i))), (0, .ref b), (1, .ref (X 0)), (2, .ref (M 0)), (3, .ref o)]) hx hb dL_law_307 hl (by decide) rfl (fun ls hl => ?_)
  refine lv_aload_n hx hb dL_law_309 rfl (lv_at hl 5 rfl) ?_
  refine rd_i (runV0 (As := []) (rest := []) ⟨hx, hb, hml, hown, hts⟩ (met_X4_thrown l dC dI cI cW _ _ _ _ _ _ _ _ _ _) (cwV 0 hts gL_law_X4_thrown rfl rfl rfl (by decide +kernel) ⟨Nat.le_of_ble_eq_true rfl, Nat.le_of_ble_eq_true rfl⟩) hKK (ws_left hP) 4 0 rfl rfl rfl hl.1 (Nat.le_of_ble_eq_true rfl) rfl dL_law_310 ⟨(show 40 + 4 * i + 1 + 0 ≤ 601024 by omega), (show 3000 + 100 * i + 6 + 0 ≤ 7293034 by omega)⟩) (fun r_3 hr_3 => ?_)
  subst hr_3
  have hP := va_P_perm (law_back _ _ _ _ _ _) hP
  have hD := va_D_perm (law_back _ _ _ _ _ _) hD
  refine lv_iload hx hb dL_law_313 (lv_at hl 1 rfl) ?_
  refine lv_icmp_eq (tgt := 320) hx hb dL_law_315 (by decide) (fun c_7 => ?_) (fun c_7 => ?_)
  · refine lv_iload hx hb dL_law_320 (lv_at hl 1 rfl) ?_
    refine lv_if_ne (tgt := 337) hx hb dL_law_322 (by decide) (fun c_8 => ?_) (fun c_8 => ?_)
    · refine lv_goto (tgt := 1133) hx hb dL_law_337 (by decide) ?_
      refine lv_iinc (v := (nI (4 * (i + 1)))) (lv' := [(4, .int (nI (4 * (i + 1)))), (6, .int 0), (5, .int 1), (0, .ref b), (1, .ref (X 0)), (2, .ref (M 0)), (3, .ref o)]) hx hb dL_law_1133 hl (k := 2) rfl (nI_add (4 * i) 4) (by decide) rfl (fun ls hl => ?_)
      refine lv_goto (tgt := 23) hx hb dL_law_1136 (by decide) ?_
      refine W.widen (k := 40 + 4 * (i + 1)) (n := 3000 + 100 * (i + 1)) (by omega) (by omega) ?_
      exact ih _ _ _ _ _ _ _ _ _ _ _ _ _ _ _ _ _ (hInv.mono (Nat.le_succ i)) H locs hP hD hS ls (lv_sub hl [0, 3, 4, 5, 6] rfl)
    · exact absurd c_8 (by decide)
  · exact absurd rfl c_7
set_option maxHeartbeats 4000000 in
set_option maxRecDepth 100000 in
theorem pL2_buy {p : Program} {l : Launch} {e : Env} {s : State} {m : MethodId} {below : List Frame} {meth : Method} {c : Code} {b L : Nat} {xs : Nat → Int32} {dC : Nat → ClassId} {dI : Nat → Nat → Nat} {cI cW cJ : ClassId} {t : Nat} {X Bk Br : Nat → Nat} {o : Nat} (C9 : LC p l s m c b L xs dC dI cI cW cJ t) (i : Nat) (hi9 : i < 512) (hL4 : 4 * i + 4 ≤ L) (hLm : L ≤ 2048) (ih : LOOP p l e s m below meth c b dC dI cI cW cJ X Bk Br o (i + 1)) (M : Nat → Nat) (f0 : Nat → Int64) (th : Int32) (d r : Nat → Int32) (n : Nat) (ch pd pr yr : Int32) (Wd : Nat → Nat → Int32) (n2 : Nat) (ch2 pd2 pr2 yr2 : Int32) (W2 : Nat → Nat → Int32) (hInv : Inv i d r n ch pr Wd) (H : Heap) (locs : List Loc) (hP : va_P (dC, dI) vwCl (tab cI X d r ++ (bk cW X Bk n ch pd pr yr Wd ++ (bk cW X Br n2 ch2 pd2 pr2 yr2 W2 ++ (obj X Bk Br :: (o, .inl (cJ, 1, .inr (.inl f0))) :: mw cI M th n d r Wd ch pd yr (WT d (r 0)))))) H) (hD : va_D (NEW s.heap.size) (tab cI X d r ++ (bk cW X Bk n ch pd pr yr Wd ++ (bk cW X Br n2 ch2 pd2 pr2 yr2 W2 ++ (obj X Bk Br :: (o, .inl (cJ, 1, .inr (.inl f0))) :: mw cI M th n d r Wd ch pd yr (WT d (r 0))))))) (hS : va_S (NEW s.heap.size) s.heap H locs) (ls : Array Slot) (hl : lv_has ls 9 [(4, .int (nI (4 * i))), (0, .ref b), (1, .ref (X 0)), (2, .ref (M 0)), (3, .ref o)]) (ka : Nat) (x : Int32) (kb : Nat) (h1 : 50 ≤ ka) (h2 : ka ≤ 99) (hx9 : 1 ≤ x ∧ x ≤ 999) (h3 : kb ≤ 30) (h9 : n = 10 ∨ wN d (r 0) (100 - ka) kb = 0) (e1 : xs (4 * i + 1) = nI ka) (e2 : xs (4 * i + 2) = x) (e3 : xs (4 * i + 3) = nI kb) : W p l e room_1 s m #[Value.ref b] below meth c H locs (40 + 4 * i) (3000 + 100 * i) (lw_Z below #[Value.ref b] s) (F0 m 260 ls []) := by
  obtain ⟨hx, hb, hml, hown, hts, hX, hbl, hKK, hKJ, hKX0, hHG0, hl0⟩ := C9
  have hA : ∀ q, s.heap.size ≤ q → NEW s.heap.size q := fun q h => h
  have hn := hInv.2.2.1
  have hok := hInv.2.2.2.1
  have hi := hInv.hi.1
  have hi0 := hInv.hi.2
  refine lv_aload_n hx hb dL_law_260 rfl (lv_at hl 2 rfl) ?_
  refine lv_aload_n hx hb dL_law_261 rfl (lv_at hl 1 rfl) ?_
  refine lv_iload hx hb dL_law_262 (lv_at hl 0 rfl) ?_
  refine lv_iconst (v := 1) hx hb dL_law_264 (by decide) ?_
  refine lv_iadd hx hb dL_law_265 ?_
  rw [show ((nI (4 * i)) + 1 : Int32) = nI (4 * i + 1) from nI_add (4 * i) 1]
  refine va_sld hx hb hX hbl (fun h9 => absurd h9 (Nat.not_le.mpr hbl)) hS (vp_in_nI (by omega) (by omega)) dL_law_266 ?_
  rw [clamp_nI (show 4 * i + 1 < 2147483648 by omega)]
  rw [e1]
  refine lv_aload_n hx hb dL_law_267 rfl (lv_at hl 1 rfl) ?_
  refine lv_iload hx hb dL_law_268 (lv_at hl 0 rfl) ?_
  refine lv_iconst (v := 2) hx hb dL_law_270 (by decide) ?_
  refine lv_iadd hx hb dL_law_271 ?_
  rw [show ((nI (4 * i)) + 2 : Int32) = nI (4 * i + 2) from nI_add (4 * i) 2]
  refine va_sld hx hb hX hbl (fun h9 => absurd h9 (Nat.not_le.mpr hbl)) hS (vp_in_nI (by omega) (by omega)) dL_law_272 ?_
  rw [clamp_nI (show 4 * i + 2 < 2147483648 by omega)]
  rw [e2]
  refine lv_aload_n hx hb dL_law_273 rfl (lv_at hl 1 rfl) ?_
  refine lv_iload hx hb dL_law_274 (lv_at hl 0 rfl) ?_
  refine lv_iconst (v := 3) hx hb dL_law_276 (by decide) ?_
  refine lv_iadd hx hb dL_law_277 ?_
  rw [show ((nI (4 * i)) + 3 : Int32) = nI (4 * i + 3) from nI_add (4 * i) 3]
  refine va_sld hx hb hX hbl (fun h9 => absurd h9 (Nat.not_le.mpr hbl)) hS (vp_in_nI (by omega) (by omega)) dL_law_278 ?_
  rw [clamp_nI (show 4 * i + 3 < 2147483648 by omega)]
  rw [e3]
  refine lv_aload_n hx hb dL_law_279 rfl (lv_at hl 4 rfl) ?_
  refine wr_i (runSL (As := [.ref (X 0), .int (nI ka), .int x, .int (nI kb), .ref o]) (rest := []) ⟨hx, hb, hml, hown, hts⟩ (bad2_L_buy l dC dI cI cW hl0 cJ o f0 X Bk Br d r n ch pd pr yr Wd n2 ch2 pd2 pr2 yr2 W2 (mw cI M th n d r Wd ch pd yr (WT d (r 0))) hn ka x kb h1 h2 hx9 h3 h9 hi hi0 _) (vx_cwSW 5 hts gL_law_L_buy rfl rfl rfl (by decide +kernel) ⟨Nat.le_of_ble_eq_true rfl, Nat.le_of_ble_eq_true rfl⟩) hKK hKJ (hKX0.at hS) hP hD rfl hl.1 (Nat.le_of_ble_eq_true rfl) rfl dL_law_280 ⟨(show 40 + 4 * i + 1 ≤ 601024 by omega), (show 3000 + 100 * i + 6 ≤ 7293034 by omega)⟩) hD hS hA (fun r_1 H locs hr_1 hP hD hS => ?_)
  subst hr_1
  have hP : va_P (dC, dI) vwCl (tab cI X d r ++ (bk cW X Bk n ch pd pr yr Wd ++ (bk cW X Br n2 ch2 pd2 pr2 yr2 W2 ++ (obj X Bk Br :: (o, .inl (cJ, 1, .inr (.inl f0))) :: (mw cI M th n d r Wd ch pd yr (WT d (r 0))))))) H := hP
  have hD : va_D (NEW s.heap.size) (tab cI X d r ++ (bk cW X Bk n ch pd pr yr Wd ++ (bk cW X Br n2 ch2 pd2 pr2 yr2 W2 ++ (obj X Bk Br :: (o, .inl (cJ, 1, .inr (.inl f0))) :: (mw cI M th n d r Wd ch pd yr (WT d (r 0))))))) := hD
  have hP := va_P_perm (law_perm _ _ _ _ _ _) hP
  have hD := va_D_perm (law_perm _ _ _ _ _ _) hD
  refine lv_istore (lv' := [(5, .int 2), (4, .int (nI (4 * i))), (0, .ref b), (1, .ref (X 0)), (2, .ref (M 0)), (3, .ref o)]) hx hb dL_law_283 hl (by decide) rfl (fun ls hl => ?_)
  refine lv_aload_n hx hb dL_law_285 rfl (lv_at hl 4 rfl) ?_
  refine lv_aload_n hx hb dL_law_286 rfl (lv_at hl 2 rfl) ?_
  refine lv_iload hx hb dL_law_287 (lv_at hl 1 rfl) ?_
  refine lv_iconst (v := 1) hx hb dL_law_289 (by decide) ?_
  refine lv_iadd hx hb dL_law_290 ?_
  rw [show ((nI (4 * i)) + 1 : Int32) = nI (4 * i + 1) from nI_add (4 * i) 1]
  refine va_sld hx hb hX hbl (fun h9 => absurd h9 (Nat.not_le.mpr hbl)) hS (vp_in_nI (by omega) (by omega)) dL_law_291 ?_
  rw [clamp_nI (show 4 * i + 1 < 2147483648 by omega)]
  rw [e1]
  refine lv_aload_n hx hb dL_law_292 rfl (lv_at hl 2 rfl) ?_
  refine lv_iload hx hb dL_law_293 (lv_at hl 1 rfl) ?_
  refine lv_iconst (v := 2) hx hb dL_law_295 (by decide) ?_
  refine lv_iadd hx hb dL_law_296 ?_
  rw [show ((nI (4 * i)) + 2 : Int32) = nI (4 * i + 2) from nI_add (4 * i) 2]
  refine va_sld hx hb hX hbl (fun h9 => absurd h9 (Nat.not_le.mpr hbl)) hS (vp_in_nI (by omega) (by omega)) dL_law_297 ?_
  rw [clamp_nI (show 4 * i + 2 < 2147483648 by omega)]
  rw [e2]
  refine lv_aload_n hx hb dL_law_298 rfl (lv_at hl 2 rfl) ?_
  refine lv_iload hx hb dL_law_299 (lv_at hl 1 rfl) ?_
  refine lv_iconst (v := 3) hx hb dL_law_301 (by decide) ?_
  refine lv_iadd hx hb dL_law_302 ?_
  rw [show ((nI (4 * i)) + 3 : Int32) = nI (4 * i + 3) from nI_add (4 * i) 3]
  refine va_sld hx hb hX hbl (fun h9 => absurd h9 (Nat.not_le.mpr hbl)) hS (vp_in_nI (by omega) (by omega)) dL_law_303 ?_
  rw [clamp_nI (show 4 * i + 3 < 2147483648 by omega)]
  rw [e3]
  refine wr_i (runV1 (As := [.int (nI ka), .int x, .int (nI kb)]) (rest := []) ⟨hx, hb, hml, hown, hts⟩ (met2_X4_buy l dC dI cI cW M th n d r Wd ch pd yr _ ka x kb h1 h2 hx9 h3 h9 _) (cwV 3 hts gL_law_X4_buy rfl rfl rfl (by decide +kernel) ⟨Nat.le_of_ble_eq_true rfl, Nat.le_of_ble_eq_true rfl⟩) hKK hP hD 4 0 rfl rfl rfl hl.1 (Nat.le_of_ble_eq_true rfl) rfl dL_law_304 ⟨(show 40 + 4 * i + 1 + 0 ≤ 601024 by omega), (show 3000 + 100 * i + 6 + 0 ≤ 7293034 by omega)⟩) hD hS hA (fun r_2 H locs hr_2 hP hD hS => ?_)
  subst hr_2
  refine lv_istore (lv' := [(6, .int 0), (5, .int 2), (4, .int (nI (4 * i))), (0, .ref b), (1, .ref (X 0)), (2, .ref (M 0)), (3, .ref o)]) hx hb dL_law_307 hl (by decide) rfl (fun ls hl => ?_)
  refine lv_aload_n hx hb dL_law_309 rfl (lv_at hl 5 rfl) ?_
  refine rd_i (runV0 (As := []) (rest := []) ⟨hx, hb, hml, hown, hts⟩ (met_X4_thrown l dC dI cI cW _ _ _ _ _ _ _ _ _ _) (cwV 0 hts gL_law_X4_thrown rfl rfl rfl (by decide +kernel) ⟨Nat.le_of_ble_eq_true rfl, Nat.le_of_ble_eq_true rfl⟩) hKK (ws_left hP) 4 0 rfl rfl rfl hl.1 (Nat.le_of_ble_eq_true rfl) rfl dL_law_310 ⟨(show 40 + 4 * i + 1 + 0 ≤ 601024 by omega), (show 3000 + 100 * i + 6 + 0 ≤ 7293034 by omega)⟩) (fun r_3 hr_3 => ?_)
  subst hr_3
  have hP := va_P_perm (law_back _ _ _ _ _ _) hP
  have hD := va_D_perm (law_back _ _ _ _ _ _) hD
  refine lv_iload hx hb dL_law_313 (lv_at hl 1 rfl) ?_
  refine lv_icmp_eq (tgt := 320) hx hb dL_law_315 (by decide) (fun c_7 => ?_) (fun c_7 => ?_)
  · refine lv_iload hx hb dL_law_320 (lv_at hl 1 rfl) ?_
    refine lv_if_ne (tgt := 337) hx hb dL_law_322 (by decide) (fun c_8 => ?_) (fun c_8 => ?_)
    · refine lv_goto (tgt := 1133) hx hb dL_law_337 (by decide) ?_
      refine lv_iinc (v := (nI (4 * (i + 1)))) (lv' := [(4, .int (nI (4 * (i + 1)))), (6, .int 0), (5, .int 2), (0, .ref b), (1, .ref (X 0)), (2, .ref (M 0)), (3, .ref o)]) hx hb dL_law_1133 hl (k := 2) rfl (nI_add (4 * i) 4) (by decide) rfl (fun ls hl => ?_)
      refine lv_goto (tgt := 23) hx hb dL_law_1136 (by decide) ?_
      refine W.widen (k := 40 + 4 * (i + 1)) (n := 3000 + 100 * (i + 1)) (by omega) (by omega) ?_
      exact ih _ _ _ _ _ _ _ _ _ _ _ _ _ _ _ _ _ (hInv.mono (Nat.le_succ i)) H locs hP hD hS ls (lv_sub hl [0, 3, 4, 5, 6] rfl)
    · exact absurd c_8 (by decide)
  · exact absurd rfl c_7
set_option maxHeartbeats 4000000 in
set_option maxRecDepth 100000 in
theorem pL0_die {p : Program} {l : Launch} {e : Env} {s : State} {m : MethodId} {below : List Frame} {meth : Method} {c : Code} {b L : Nat} {xs : Nat → Int32} {dC : Nat → ClassId} {dI : Nat → Nat → Nat} {cI cW cJ : ClassId} {t : Nat} {X Bk Br : Nat → Nat} {o : Nat} (C9 : LC p l s m c b L xs dC dI cI cW cJ t) (i : Nat) (hi9 : i < 512) (hL4 : 4 * i + 4 ≤ L) (hLm : L ≤ 2048) (ih : LOOP p l e s m below meth c b dC dI cI cW cJ X Bk Br o (i + 1)) (M : Nat → Nat) (f0 : Nat → Int64) (th : Int32) (d r : Nat → Int32) (n : Nat) (ch pd pr yr : Int32) (Wd : Nat → Nat → Int32) (n2 : Nat) (ch2 pd2 pr2 yr2 : Int32) (W2 : Nat → Nat → Int32) (hInv : Inv i d r n ch pr Wd) (H : Heap) (locs : List Loc) (hP : va_P (dC, dI) vwCl (tab cI X d r ++ (bk cW X Bk n ch pd pr yr Wd ++ (bk cW X Br n2 ch2 pd2 pr2 yr2 W2 ++ (obj X Bk Br :: (o, .inl (cJ, 1, .inr (.inl f0))) :: mw cI M th n d r Wd ch pd yr (WT d (r 0)))))) H) (hD : va_D (NEW s.heap.size) (tab cI X d r ++ (bk cW X Bk n ch pd pr yr Wd ++ (bk cW X Br n2 ch2 pd2 pr2 yr2 W2 ++ (obj X Bk Br :: (o, .inl (cJ, 1, .inr (.inl f0))) :: mw cI M th n d r Wd ch pd yr (WT d (r 0))))))) (hS : va_S (NEW s.heap.size) s.heap H locs) (ls : Array Slot) (hl : lv_has ls 9 [(4, .int (nI (4 * i))), (0, .ref b), (1, .ref (X 0)), (2, .ref (M 0)), (3, .ref o)]) (k : Nat) (hk : k < n) (hal : Wd k 4 = 0) (e1 : xs (4 * i + 1) = nI k) : W p l e room_1 s m #[Value.ref b] below meth c H locs (40 + 4 * i) (3000 + 100 * i) (lw_Z below #[Value.ref b] s) (F0 m 340 ls []) := by
  obtain ⟨hx, hb, hml, hown, hts, hX, hbl, hKK, hKJ, hKX0, hHG0, hl0⟩ := C9
  have hA : ∀ q, s.heap.size ≤ q → NEW s.heap.size q := fun q h => h
  have hn := hInv.2.2.1
  have hok := hInv.2.2.2.1
  have hi := hInv.hi.1
  have hi0 := hInv.hi.2
  refine lv_aload_n hx hb dL_law_340 rfl (lv_at hl 2 rfl) ?_
  refine lv_aload_n hx hb dL_law_341 rfl (lv_at hl 1 rfl) ?_
  refine lv_iload hx hb dL_law_342 (lv_at hl 0 rfl) ?_
  refine lv_iconst (v := 1) hx hb dL_law_344 (by decide) ?_
  refine lv_iadd hx hb dL_law_345 ?_
  rw [show ((nI (4 * i)) + 1 : Int32) = nI (4 * i + 1) from nI_add (4 * i) 1]
  refine va_sld hx hb hX hbl (fun h9 => absurd h9 (Nat.not_le.mpr hbl)) hS (vp_in_nI (by omega) (by omega)) dL_law_346 ?_
  rw [clamp_nI (show 4 * i + 1 < 2147483648 by omega)]
  rw [e1]
  refine lv_aload_n hx hb dL_law_347 rfl (lv_at hl 4 rfl) ?_
  refine wr_i (runSL (As := [.ref (X 0), .int (nI k), .ref o]) (rest := []) ⟨hx, hb, hml, hown, hts⟩ (met_L_die l dC dI cI cW cJ o f0 X Bk Br d r n ch pd pr yr Wd n2 ch2 pd2 pr2 yr2 W2 (mw cI M th n d r Wd ch pd yr (WT d (r 0))) hn hok k hk hal hi hi0 _) (vx_cwSW 3 hts gL_law_L_die rfl rfl rfl (by decide +kernel) ⟨Nat.le_of_ble_eq_true rfl, Nat.le_of_ble_eq_true rfl⟩) hKK hKJ (hKX0.at hS) hP hD rfl hl.1 (Nat.le_of_ble_eq_true rfl) rfl dL_law_348 ⟨(show 40 + 4 * i + 0 ≤ 601024 by omega), (show 3000 + 100 * i + 0 ≤ 7293034 by omega)⟩) hD hS hA (fun r_1 H locs hr_1 hP hD hS => ?_)
  subst hr_1
  have hP : va_P (dC, dI) vwCl (tab cI X d r ++ (bk cW X Bk n ch pd pr yr (upW Wd k (upd (Wd k) 4 1)) ++ (bk cW X Br n2 ch2 pd2 pr2 yr2 W2 ++ (obj X Bk Br :: (o, .inl (cJ, 1, .inr (.inl (vp_updL f0 0 (keptS d (r 0) (Wd k)).toInt64)))) :: (mw cI M th n d r Wd ch pd yr (WT d (r 0))))))) H := hP
  have hD : va_D (NEW s.heap.size) (tab cI X d r ++ (bk cW X Bk n ch pd pr yr (upW Wd k (upd (Wd k) 4 1)) ++ (bk cW X Br n2 ch2 pd2 pr2 yr2 W2 ++ (obj X Bk Br :: (o, .inl (cJ, 1, .inr (.inl (vp_updL f0 0 (keptS d (r 0) (Wd k)).toInt64)))) :: (mw cI M th n d r Wd ch pd yr (WT d (r 0))))))) := hD
  have hP := va_P_perm (law_perm _ _ _ _ _ _) hP
  have hD := va_D_perm (law_perm _ _ _ _ _ _) hD
  refine lv_istore (lv' := [(5, .int 0), (4, .int (nI (4 * i))), (0, .ref b), (1, .ref (X 0)), (2, .ref (M 0)), (3, .ref o)]) hx hb dL_law_351 hl (by decide) rfl (fun ls hl => ?_)
  refine lv_aload_n hx hb dL_law_353 rfl (lv_at hl 4 rfl) ?_
  refine lv_aload_n hx hb dL_law_354 rfl (lv_at hl 2 rfl) ?_
  refine lv_iload hx hb dL_law_355 (lv_at hl 1 rfl) ?_
  refine lv_iconst (v := 1) hx hb dL_law_357 (by decide) ?_
  refine lv_iadd hx hb dL_law_358 ?_
  rw [show ((nI (4 * i)) + 1 : Int32) = nI (4 * i + 1) from nI_add (4 * i) 1]
  refine va_sld hx hb hX hbl (fun h9 => absurd h9 (Nat.not_le.mpr hbl)) hS (vp_in_nI (by omega) (by omega)) dL_law_359 ?_
  rw [clamp_nI (show 4 * i + 1 < 2147483648 by omega)]
  rw [e1]
  refine wr_i (runV1 (As := [.int (nI k)]) (rest := []) ⟨hx, hb, hml, hown, hts⟩ (met_X4_die l dC dI cI cW M th n d r Wd ch pd yr _ hn hok k hk hal _) (cwV 1 hts gL_law_X4_die rfl rfl rfl (by decide +kernel) ⟨Nat.le_of_ble_eq_true rfl, Nat.le_of_ble_eq_true rfl⟩) hKK hP hD 4 0 rfl rfl rfl hl.1 (Nat.le_of_ble_eq_true rfl) rfl dL_law_360 ⟨(show 40 + 4 * i + 0 + 0 ≤ 601024 by omega), (show 3000 + 100 * i + 0 + 0 ≤ 7293034 by omega)⟩) hD hS hA (fun r_2 H locs hr_2 hP hD hS => ?_)
  subst hr_2
  refine lv_istore (lv' := [(6, .int (keptS d (r 0) (Wd k))), (5, .int 0), (4, .int (nI (4 * i))), (0, .ref b), (1, .ref (X 0)), (2, .ref (M 0)), (3, .ref o)]) hx hb dL_law_363 hl (by decide) rfl (fun ls hl => ?_)
  refine lv_aload_n hx hb dL_law_365 rfl (lv_at hl 5 rfl) ?_
  refine rd_i (runV0 (As := []) (rest := []) ⟨hx, hb, hml, hown, hts⟩ (met_X4_thrown l dC dI cI cW _ _ _ _ _ _ _ _ _ _) (cwV 0 hts gL_law_X4_thrown rfl rfl rfl (by decide +kernel) ⟨Nat.le_of_ble_eq_true rfl, Nat.le_of_ble_eq_true rfl⟩) hKK (ws_left hP) 4 0 rfl rfl rfl hl.1 (Nat.le_of_ble_eq_true rfl) rfl dL_law_366 ⟨(show 40 + 4 * i + 0 + 0 ≤ 601024 by omega), (show 3000 + 100 * i + 0 + 0 ≤ 7293034 by omega)⟩) (fun r_3 hr_3 => ?_)
  subst hr_3
  have hP := va_P_perm (law_back _ _ _ _ _ _) hP
  have hD := va_D_perm (law_back _ _ _ _ _ _) hD
  refine lv_iload hx hb dL_law_369 (lv_at hl 1 rfl) ?_
  refine lv_icmp_eq (tgt := 376) hx hb dL_law_371 (by decide) (fun c_3 => ?_) (fun c_3 => ?_)
  · refine lv_iload hx hb dL_law_376 (lv_at hl 1 rfl) ?_
    refine lv_if_ne (tgt := 393) hx hb dL_law_378 (by decide) (fun c_4 => ?_) (fun c_4 => ?_)
    · exact absurd rfl c_4
    · refine lv_aload_n hx hb dL_law_381 rfl (lv_at hl 6 rfl) ?_
      refine lv_iconst (v := 0) hx hb dL_law_382 (by decide) ?_
      refine va_lald hx hb hKJ hP (27 + 1) 0 (cw_at rfl) rfl (vp_in_nI (n := 0) (by omega) (by omega)) dL_law_383 ?_
      rw [show (vp_updL f0 0 (keptS d (r 0) (Wd k)).toInt64) (0 : Int32).toNatClampNeg = (keptS d (r 0) (Wd k)).toInt64 from rfl]
      refine lv_iload hx hb dL_law_384 (lv_at hl 0 rfl) ?_
      refine lv_i2l hx hb dL_law_386 rfl ?_
      refine lv_lcmpS hx hb dL_law_387 ?_
      refine lv_if_eq (tgt := 393) hx hb dL_law_388 (by decide) (fun c_5 => ?_) (fun c_5 => ?_)
      · refine lv_goto (tgt := 1133) hx hb dL_law_393 (by decide) ?_
        refine lv_iinc (v := (nI (4 * (i + 1)))) (lv' := [(4, .int (nI (4 * (i + 1)))), (6, .int (keptS d (r 0) (Wd k))), (5, .int 0), (0, .ref b), (1, .ref (X 0)), (2, .ref (M 0)), (3, .ref o)]) hx hb dL_law_1133 hl (k := 2) rfl (nI_add (4 * i) 4) (by decide) rfl (fun ls hl => ?_)
        refine lv_goto (tgt := 23) hx hb dL_law_1136 (by decide) ?_
        refine W.widen (k := 40 + 4 * (i + 1)) (n := 3000 + 100 * (i + 1)) (by omega) (by omega) ?_
        exact ih _ _ _ _ _ _ _ _ _ _ _ _ _ _ _ _ _ ((hInv.die k).mono (Nat.le_succ i)) H locs hP hD hS ls (lv_sub hl [0, 3, 4, 5, 6] rfl)
      · exact absurd rfl c_5
  · exact absurd rfl c_3
set_option maxHeartbeats 4000000 in
set_option maxRecDepth 100000 in
theorem pL1_die {p : Program} {l : Launch} {e : Env} {s : State} {m : MethodId} {below : List Frame} {meth : Method} {c : Code} {b L : Nat} {xs : Nat → Int32} {dC : Nat → ClassId} {dI : Nat → Nat → Nat} {cI cW cJ : ClassId} {t : Nat} {X Bk Br : Nat → Nat} {o : Nat} (C9 : LC p l s m c b L xs dC dI cI cW cJ t) (i : Nat) (hi9 : i < 512) (hL4 : 4 * i + 4 ≤ L) (hLm : L ≤ 2048) (ih : LOOP p l e s m below meth c b dC dI cI cW cJ X Bk Br o (i + 1)) (M : Nat → Nat) (f0 : Nat → Int64) (th : Int32) (d r : Nat → Int32) (n : Nat) (ch pd pr yr : Int32) (Wd : Nat → Nat → Int32) (n2 : Nat) (ch2 pd2 pr2 yr2 : Int32) (W2 : Nat → Nat → Int32) (hInv : Inv i d r n ch pr Wd) (H : Heap) (locs : List Loc) (hP : va_P (dC, dI) vwCl (tab cI X d r ++ (bk cW X Bk n ch pd pr yr Wd ++ (bk cW X Br n2 ch2 pd2 pr2 yr2 W2 ++ (obj X Bk Br :: (o, .inl (cJ, 1, .inr (.inl f0))) :: mw cI M th n d r Wd ch pd yr (WT d (r 0)))))) H) (hD : va_D (NEW s.heap.size) (tab cI X d r ++ (bk cW X Bk n ch pd pr yr Wd ++ (bk cW X Br n2 ch2 pd2 pr2 yr2 W2 ++ (obj X Bk Br :: (o, .inl (cJ, 1, .inr (.inl f0))) :: mw cI M th n d r Wd ch pd yr (WT d (r 0))))))) (hS : va_S (NEW s.heap.size) s.heap H locs) (ls : Array Slot) (hl : lv_has ls 9 [(4, .int (nI (4 * i))), (0, .ref b), (1, .ref (X 0)), (2, .ref (M 0)), (3, .ref o)]) (a : Int32) (h9 : ¬ (0 ≤ a ∧ a < nI n)) (e1 : xs (4 * i + 1) = a) : W p l e room_1 s m #[Value.ref b] below meth c H locs (40 + 4 * i) (3000 + 100 * i) (lw_Z below #[Value.ref b] s) (F0 m 340 ls []) := by
  obtain ⟨hx, hb, hml, hown, hts, hX, hbl, hKK, hKJ, hKX0, hHG0, hl0⟩ := C9
  have hA : ∀ q, s.heap.size ≤ q → NEW s.heap.size q := fun q h => h
  have hn := hInv.2.2.1
  have hok := hInv.2.2.2.1
  have hi := hInv.hi.1
  have hi0 := hInv.hi.2
  refine lv_aload_n hx hb dL_law_340 rfl (lv_at hl 2 rfl) ?_
  refine lv_aload_n hx hb dL_law_341 rfl (lv_at hl 1 rfl) ?_
  refine lv_iload hx hb dL_law_342 (lv_at hl 0 rfl) ?_
  refine lv_iconst (v := 1) hx hb dL_law_344 (by decide) ?_
  refine lv_iadd hx hb dL_law_345 ?_
  rw [show ((nI (4 * i)) + 1 : Int32) = nI (4 * i + 1) from nI_add (4 * i) 1]
  refine va_sld hx hb hX hbl (fun h9 => absurd h9 (Nat.not_le.mpr hbl)) hS (vp_in_nI (by omega) (by omega)) dL_law_346 ?_
  rw [clamp_nI (show 4 * i + 1 < 2147483648 by omega)]
  rw [e1]
  refine lv_aload_n hx hb dL_law_347 rfl (lv_at hl 4 rfl) ?_
  refine wr_i (runSL (As := [.ref (X 0), .int a, .ref o]) (rest := []) ⟨hx, hb, hml, hown, hts⟩ (bad1_L_die l dC dI cI cW hl0 cJ o f0 X Bk Br d r n ch pd pr yr Wd n2 ch2 pd2 pr2 yr2 W2 (mw cI M th n d r Wd ch pd yr (WT d (r 0))) a h9 _) (vx_cwSW 3 hts gL_law_L_die rfl rfl rfl (by decide +kernel) ⟨Nat.le_of_ble_eq_true rfl, Nat.le_of_ble_eq_true rfl⟩) hKK hKJ (hKX0.at hS) hP hD rfl hl.1 (Nat.le_of_ble_eq_true rfl) rfl dL_law_348 ⟨(show 40 + 4 * i + 1 ≤ 601024 by omega), (show 3000 + 100 * i + 6 ≤ 7293034 by omega)⟩) hD hS hA (fun r_1 H locs hr_1 hP hD hS => ?_)
  subst hr_1
  have hP : va_P (dC, dI) vwCl (tab cI X d r ++ (bk cW X Bk n ch pd pr yr Wd ++ (bk cW X Br n2 ch2 pd2 pr2 yr2 W2 ++ (obj X Bk Br :: (o, .inl (cJ, 1, .inr (.inl f0))) :: (mw cI M th n d r Wd ch pd yr (WT d (r 0))))))) H := hP
  have hD : va_D (NEW s.heap.size) (tab cI X d r ++ (bk cW X Bk n ch pd pr yr Wd ++ (bk cW X Br n2 ch2 pd2 pr2 yr2 W2 ++ (obj X Bk Br :: (o, .inl (cJ, 1, .inr (.inl f0))) :: (mw cI M th n d r Wd ch pd yr (WT d (r 0))))))) := hD
  have hP := va_P_perm (law_perm _ _ _ _ _ _) hP
  have hD := va_D_perm (law_perm _ _ _ _ _ _) hD
  refine lv_istore (lv' := [(5, .int 1), (4, .int (nI (4 * i))), (0, .ref b), (1, .ref (X 0)), (2, .ref (M 0)), (3, .ref o)]) hx hb dL_law_351 hl (by decide) rfl (fun ls hl => ?_)
  refine lv_aload_n hx hb dL_law_353 rfl (lv_at hl 4 rfl) ?_
  refine lv_aload_n hx hb dL_law_354 rfl (lv_at hl 2 rfl) ?_
  refine lv_iload hx hb dL_law_355 (lv_at hl 1 rfl) ?_
  refine lv_iconst (v := 1) hx hb dL_law_357 (by decide) ?_
  refine lv_iadd hx hb dL_law_358 ?_
  rw [show ((nI (4 * i)) + 1 : Int32) = nI (4 * i + 1) from nI_add (4 * i) 1]
  refine va_sld hx hb hX hbl (fun h9 => absurd h9 (Nat.not_le.mpr hbl)) hS (vp_in_nI (by omega) (by omega)) dL_law_359 ?_
  rw [clamp_nI (show 4 * i + 1 < 2147483648 by omega)]
  rw [e1]
  refine wr_i (runV1 (As := [.int a]) (rest := []) ⟨hx, hb, hml, hown, hts⟩ (met1_X4_die l dC dI cI cW M th n d r Wd ch pd yr _ hn a h9 _) (cwV 1 hts gL_law_X4_die rfl rfl rfl (by decide +kernel) ⟨Nat.le_of_ble_eq_true rfl, Nat.le_of_ble_eq_true rfl⟩) hKK hP hD 4 0 rfl rfl rfl hl.1 (Nat.le_of_ble_eq_true rfl) rfl dL_law_360 ⟨(show 40 + 4 * i + 1 + 0 ≤ 601024 by omega), (show 3000 + 100 * i + 6 + 0 ≤ 7293034 by omega)⟩) hD hS hA (fun r_2 H locs hr_2 hP hD hS => ?_)
  subst hr_2
  refine lv_istore (lv' := [(6, .int 0), (5, .int 1), (4, .int (nI (4 * i))), (0, .ref b), (1, .ref (X 0)), (2, .ref (M 0)), (3, .ref o)]) hx hb dL_law_363 hl (by decide) rfl (fun ls hl => ?_)
  refine lv_aload_n hx hb dL_law_365 rfl (lv_at hl 5 rfl) ?_
  refine rd_i (runV0 (As := []) (rest := []) ⟨hx, hb, hml, hown, hts⟩ (met_X4_thrown l dC dI cI cW _ _ _ _ _ _ _ _ _ _) (cwV 0 hts gL_law_X4_thrown rfl rfl rfl (by decide +kernel) ⟨Nat.le_of_ble_eq_true rfl, Nat.le_of_ble_eq_true rfl⟩) hKK (ws_left hP) 4 0 rfl rfl rfl hl.1 (Nat.le_of_ble_eq_true rfl) rfl dL_law_366 ⟨(show 40 + 4 * i + 1 + 0 ≤ 601024 by omega), (show 3000 + 100 * i + 6 + 0 ≤ 7293034 by omega)⟩) (fun r_3 hr_3 => ?_)
  subst hr_3
  have hP := va_P_perm (law_back _ _ _ _ _ _) hP
  have hD := va_D_perm (law_back _ _ _ _ _ _) hD
  refine lv_iload hx hb dL_law_369 (lv_at hl 1 rfl) ?_
  refine lv_icmp_eq (tgt := 376) hx hb dL_law_371 (by decide) (fun c_3 => ?_) (fun c_3 => ?_)
  · refine lv_iload hx hb dL_law_376 (lv_at hl 1 rfl) ?_
    refine lv_if_ne (tgt := 393) hx hb dL_law_378 (by decide) (fun c_4 => ?_) (fun c_4 => ?_)
    · refine lv_goto (tgt := 1133) hx hb dL_law_393 (by decide) ?_
      refine lv_iinc (v := (nI (4 * (i + 1)))) (lv' := [(4, .int (nI (4 * (i + 1)))), (6, .int 0), (5, .int 1), (0, .ref b), (1, .ref (X 0)), (2, .ref (M 0)), (3, .ref o)]) hx hb dL_law_1133 hl (k := 2) rfl (nI_add (4 * i) 4) (by decide) rfl (fun ls hl => ?_)
      refine lv_goto (tgt := 23) hx hb dL_law_1136 (by decide) ?_
      refine W.widen (k := 40 + 4 * (i + 1)) (n := 3000 + 100 * (i + 1)) (by omega) (by omega) ?_
      exact ih _ _ _ _ _ _ _ _ _ _ _ _ _ _ _ _ _ (hInv.mono (Nat.le_succ i)) H locs hP hD hS ls (lv_sub hl [0, 3, 4, 5, 6] rfl)
    · exact absurd c_4 (by decide)
  · exact absurd rfl c_3
set_option maxHeartbeats 4000000 in
set_option maxRecDepth 100000 in
theorem pL2_die {p : Program} {l : Launch} {e : Env} {s : State} {m : MethodId} {below : List Frame} {meth : Method} {c : Code} {b L : Nat} {xs : Nat → Int32} {dC : Nat → ClassId} {dI : Nat → Nat → Nat} {cI cW cJ : ClassId} {t : Nat} {X Bk Br : Nat → Nat} {o : Nat} (C9 : LC p l s m c b L xs dC dI cI cW cJ t) (i : Nat) (hi9 : i < 512) (hL4 : 4 * i + 4 ≤ L) (hLm : L ≤ 2048) (ih : LOOP p l e s m below meth c b dC dI cI cW cJ X Bk Br o (i + 1)) (M : Nat → Nat) (f0 : Nat → Int64) (th : Int32) (d r : Nat → Int32) (n : Nat) (ch pd pr yr : Int32) (Wd : Nat → Nat → Int32) (n2 : Nat) (ch2 pd2 pr2 yr2 : Int32) (W2 : Nat → Nat → Int32) (hInv : Inv i d r n ch pr Wd) (H : Heap) (locs : List Loc) (hP : va_P (dC, dI) vwCl (tab cI X d r ++ (bk cW X Bk n ch pd pr yr Wd ++ (bk cW X Br n2 ch2 pd2 pr2 yr2 W2 ++ (obj X Bk Br :: (o, .inl (cJ, 1, .inr (.inl f0))) :: mw cI M th n d r Wd ch pd yr (WT d (r 0)))))) H) (hD : va_D (NEW s.heap.size) (tab cI X d r ++ (bk cW X Bk n ch pd pr yr Wd ++ (bk cW X Br n2 ch2 pd2 pr2 yr2 W2 ++ (obj X Bk Br :: (o, .inl (cJ, 1, .inr (.inl f0))) :: mw cI M th n d r Wd ch pd yr (WT d (r 0))))))) (hS : va_S (NEW s.heap.size) s.heap H locs) (ls : Array Slot) (hl : lv_has ls 9 [(4, .int (nI (4 * i))), (0, .ref b), (1, .ref (X 0)), (2, .ref (M 0)), (3, .ref o)]) (k : Nat) (hk : k < n) (h9 : ¬ Wd k 4 = 0) (e1 : xs (4 * i + 1) = nI k) : W p l e room_1 s m #[Value.ref b] below meth c H locs (40 + 4 * i) (3000 + 100 * i) (lw_Z below #[Value.ref b] s) (F0 m 340 ls []) := by
  obtain ⟨hx, hb, hml, hown, hts, hX, hbl, hKK, hKJ, hKX0, hHG0, hl0⟩ := C9
  have hA : ∀ q, s.heap.size ≤ q → NEW s.heap.size q := fun q h => h
  have hn := hInv.2.2.1
  have hok := hInv.2.2.2.1
  have hi := hInv.hi.1
  have hi0 := hInv.hi.2
  refine lv_aload_n hx hb dL_law_340 rfl (lv_at hl 2 rfl) ?_
  refine lv_aload_n hx hb dL_law_341 rfl (lv_at hl 1 rfl) ?_
  refine lv_iload hx hb dL_law_342 (lv_at hl 0 rfl) ?_
  refine lv_iconst (v := 1) hx hb dL_law_344 (by decide) ?_
  refine lv_iadd hx hb dL_law_345 ?_
  rw [show ((nI (4 * i)) + 1 : Int32) = nI (4 * i + 1) from nI_add (4 * i) 1]
  refine va_sld hx hb hX hbl (fun h9 => absurd h9 (Nat.not_le.mpr hbl)) hS (vp_in_nI (by omega) (by omega)) dL_law_346 ?_
  rw [clamp_nI (show 4 * i + 1 < 2147483648 by omega)]
  rw [e1]
  refine lv_aload_n hx hb dL_law_347 rfl (lv_at hl 4 rfl) ?_
  refine wr_i (runSL (As := [.ref (X 0), .int (nI k), .ref o]) (rest := []) ⟨hx, hb, hml, hown, hts⟩ (bad2_L_die l dC dI cI cW hl0 cJ o f0 X Bk Br d r n ch pd pr yr Wd n2 ch2 pd2 pr2 yr2 W2 (mw cI M th n d r Wd ch pd yr (WT d (r 0))) hn k hk h9 _) (vx_cwSW 3 hts gL_law_L_die rfl rfl rfl (by decide +kernel) ⟨Nat.le_of_ble_eq_true rfl, Nat.le_of_ble_eq_true rfl⟩) hKK hKJ (hKX0.at hS) hP hD rfl hl.1 (Nat.le_of_ble_eq_true rfl) rfl dL_law_348 ⟨(show 40 + 4 * i + 1 ≤ 601024 by omega), (show 3000 + 100 * i + 6 ≤ 7293034 by omega)⟩) hD hS hA (fun r_1 H locs hr_1 hP hD hS => ?_)
  subst hr_1
  have hP : va_P (dC, dI) vwCl (tab cI X d r ++ (bk cW X Bk n ch pd pr yr Wd ++ (bk cW X Br n2 ch2 pd2 pr2 yr2 W2 ++ (obj X Bk Br :: (o, .inl (cJ, 1, .inr (.inl f0))) :: (mw cI M th n d r Wd ch pd yr (WT d (r 0))))))) H := hP
  have hD : va_D (NEW s.heap.size) (tab cI X d r ++ (bk cW X Bk n ch pd pr yr Wd ++ (bk cW X Br n2 ch2 pd2 pr2 yr2 W2 ++ (obj X Bk Br :: (o, .inl (cJ, 1, .inr (.inl f0))) :: (mw cI M th n d r Wd ch pd yr (WT d (r 0))))))) := hD
  have hP := va_P_perm (law_perm _ _ _ _ _ _) hP
  have hD := va_D_perm (law_perm _ _ _ _ _ _) hD
  refine lv_istore (lv' := [(5, .int 2), (4, .int (nI (4 * i))), (0, .ref b), (1, .ref (X 0)), (2, .ref (M 0)), (3, .ref o)]) hx hb dL_law_351 hl (by decide) rfl (fun ls hl => ?_)
  refine lv_aload_n hx hb dL_law_353 rfl (lv_at hl 4 rfl) ?_
  refine lv_aload_n hx hb dL_law_354 rfl (lv_at hl 2 rfl) ?_
  refine lv_iload hx hb dL_law_355 (lv_at hl 1 rfl) ?_
  refine lv_iconst (v := 1) hx hb dL_law_357 (by decide) ?_
  refine lv_iadd hx hb dL_law_358 ?_
  rw [show ((nI (4 * i)) + 1 : Int32) = nI (4 * i + 1) from nI_add (4 * i) 1]
  refine va_sld hx hb hX hbl (fun h9 => absurd h9 (Nat.not_le.mpr hbl)) hS (vp_in_nI (by omega) (by omega)) dL_law_359 ?_
  rw [clamp_nI (show 4 * i + 1 < 2147483648 by omega)]
  rw [e1]
  refine wr_i (runV1 (As := [.int (nI k)]) (rest := []) ⟨hx, hb, hml, hown, hts⟩ (met2_X4_die l dC dI cI cW M th n d r Wd ch pd yr _ hn k hk h9 _) (cwV 1 hts gL_law_X4_die rfl rfl rfl (by decide +kernel) ⟨Nat.le_of_ble_eq_true rfl, Nat.le_of_ble_eq_true rfl⟩) hKK hP hD 4 0 rfl rfl rfl hl.1 (Nat.le_of_ble_eq_true rfl) rfl dL_law_360 ⟨(show 40 + 4 * i + 1 + 0 ≤ 601024 by omega), (show 3000 + 100 * i + 6 + 0 ≤ 7293034 by omega)⟩) hD hS hA (fun r_2 H locs hr_2 hP hD hS => ?_)
  subst hr_2
  refine lv_istore (lv' := [(6, .int 0), (5, .int 2), (4, .int (nI (4 * i))), (0, .ref b), (1, .ref (X 0)), (2, .ref (M 0)), (3, .ref o)]) hx hb dL_law_363 hl (by decide) rfl (fun ls hl => ?_)
  refine lv_aload_n hx hb dL_law_365 rfl (lv_at hl 5 rfl) ?_
  refine rd_i (runV0 (As := []) (rest := []) ⟨hx, hb, hml, hown, hts⟩ (met_X4_thrown l dC dI cI cW _ _ _ _ _ _ _ _ _ _) (cwV 0 hts gL_law_X4_thrown rfl rfl rfl (by decide +kernel) ⟨Nat.le_of_ble_eq_true rfl, Nat.le_of_ble_eq_true rfl⟩) hKK (ws_left hP) 4 0 rfl rfl rfl hl.1 (Nat.le_of_ble_eq_true rfl) rfl dL_law_366 ⟨(show 40 + 4 * i + 1 + 0 ≤ 601024 by omega), (show 3000 + 100 * i + 6 + 0 ≤ 7293034 by omega)⟩) (fun r_3 hr_3 => ?_)
  subst hr_3
  have hP := va_P_perm (law_back _ _ _ _ _ _) hP
  have hD := va_D_perm (law_back _ _ _ _ _ _) hD
  refine lv_iload hx hb dL_law_369 (lv_at hl 1 rfl) ?_
  refine lv_icmp_eq (tgt := 376) hx hb dL_law_371 (by decide) (fun c_3 => ?_) (fun c_3 => ?_)
  · refine lv_iload hx hb dL_law_376 (lv_at hl 1 rfl) ?_
    refine lv_if_ne (tgt := 393) hx hb dL_law_378 (by decide) (fun c_4 => ?_) (fun c_4 => ?_)
    · refine lv_goto (tgt := 1133) hx hb dL_law_393 (by decide) ?_
      refine lv_iinc (v := (nI (4 * (i + 1)))) (lv' := [(4, .int (nI (4 * (i + 1)))), (6, .int 0), (5, .int 2), (0, .ref b), (1, .ref (X 0)), (2, .ref (M 0)), (3, .ref o)]) hx hb dL_law_1133 hl (k := 2) rfl (nI_add (4 * i) 4) (by decide) rfl (fun ls hl => ?_)
      refine lv_goto (tgt := 23) hx hb dL_law_1136 (by decide) ?_
      refine W.widen (k := 40 + 4 * (i + 1)) (n := 3000 + 100 * (i + 1)) (by omega) (by omega) ?_
      exact ih _ _ _ _ _ _ _ _ _ _ _ _ _ _ _ _ _ (hInv.mono (Nat.le_succ i)) H locs hP hD hS ls (lv_sub hl [0, 3, 4, 5, 6] rfl)
    · exact absurd c_4 (by decide)
  · exact absurd rfl c_3
set_option maxHeartbeats 4000000 in
set_option maxRecDepth 100000 in
theorem pL0_giveUp {p : Program} {l : Launch} {e : Env} {s : State} {m : MethodId} {below : List Frame} {meth : Method} {c : Code} {b L : Nat} {xs : Nat → Int32} {dC : Nat → ClassId} {dI : Nat → Nat → Nat} {cI cW cJ : ClassId} {t : Nat} {X Bk Br : Nat → Nat} {o : Nat} (C9 : LC p l s m c b L xs dC dI cI cW cJ t) (i : Nat) (hi9 : i < 512) (hL4 : 4 * i + 4 ≤ L) (hLm : L ≤ 2048) (ih : LOOP p l e s m below meth c b dC dI cI cW cJ X Bk Br o (i + 1)) (M : Nat → Nat) (f0 : Nat → Int64) (th : Int32) (d r : Nat → Int32) (n : Nat) (ch pd pr yr : Int32) (Wd : Nat → Nat → Int32) (n2 : Nat) (ch2 pd2 pr2 yr2 : Int32) (W2 : Nat → Nat → Int32) (hInv : Inv i d r n ch pr Wd) (H : Heap) (locs : List Loc) (hP : va_P (dC, dI) vwCl (tab cI X d r ++ (bk cW X Bk n ch pd pr yr Wd ++ (bk cW X Br n2 ch2 pd2 pr2 yr2 W2 ++ (obj X Bk Br :: (o, .inl (cJ, 1, .inr (.inl f0))) :: mw cI M th n d r Wd ch pd yr (WT d (r 0)))))) H) (hD : va_D (NEW s.heap.size) (tab cI X d r ++ (bk cW X Bk n ch pd pr yr Wd ++ (bk cW X Br n2 ch2 pd2 pr2 yr2 W2 ++ (obj X Bk Br :: (o, .inl (cJ, 1, .inr (.inl f0))) :: mw cI M th n d r Wd ch pd yr (WT d (r 0))))))) (hS : va_S (NEW s.heap.size) s.heap H locs) (ls : Array Slot) (hl : lv_has ls 9 [(4, .int (nI (4 * i))), (0, .ref b), (1, .ref (X 0)), (2, .ref (M 0)), (3, .ref o)]) (k : Nat) (hk : k < n) (hcan : Wd k 4 = 0 ∧ 2 ≤ Wd k 3) (e1 : xs (4 * i + 1) = nI k) : W p l e room_1 s m #[Value.ref b] below meth c H locs (40 + 4 * i) (3000 + 100 * i) (lw_Z below #[Value.ref b] s) (F0 m 396 ls []) := by
  obtain ⟨hx, hb, hml, hown, hts, hX, hbl, hKK, hKJ, hKX0, hHG0, hl0⟩ := C9
  have hA : ∀ q, s.heap.size ≤ q → NEW s.heap.size q := fun q h => h
  have hn := hInv.2.2.1
  have hok := hInv.2.2.2.1
  have hi := hInv.hi.1
  have hi0 := hInv.hi.2
  refine lv_aload_n hx hb dL_law_396 rfl (lv_at hl 2 rfl) ?_
  refine lv_aload_n hx hb dL_law_397 rfl (lv_at hl 1 rfl) ?_
  refine lv_iload hx hb dL_law_398 (lv_at hl 0 rfl) ?_
  refine lv_iconst (v := 1) hx hb dL_law_400 (by decide) ?_
  refine lv_iadd hx hb dL_law_401 ?_
  rw [show ((nI (4 * i)) + 1 : Int32) = nI (4 * i + 1) from nI_add (4 * i) 1]
  refine va_sld hx hb hX hbl (fun h9 => absurd h9 (Nat.not_le.mpr hbl)) hS (vp_in_nI (by omega) (by omega)) dL_law_402 ?_
  rw [clamp_nI (show 4 * i + 1 < 2147483648 by omega)]
  rw [e1]
  refine lv_aload_n hx hb dL_law_403 rfl (lv_at hl 4 rfl) ?_
  refine wr_i (runSL (As := [.ref (X 0), .int (nI k), .ref o]) (rest := []) ⟨hx, hb, hml, hown, hts⟩ (met_L_giveUp l dC dI cI cW cJ o f0 X Bk Br d r n ch pd pr yr Wd n2 ch2 pd2 pr2 yr2 W2 (mw cI M th n d r Wd ch pd yr (WT d (r 0))) hn hok k hk hcan hi hi0 _) (vx_cwSW 3 hts gL_law_L_giveUp rfl rfl rfl (by decide +kernel) ⟨Nat.le_of_ble_eq_true rfl, Nat.le_of_ble_eq_true rfl⟩) hKK hKJ (hKX0.at hS) hP hD rfl hl.1 (Nat.le_of_ble_eq_true rfl) rfl dL_law_404 ⟨(show 40 + 4 * i + 0 ≤ 601024 by omega), (show 3000 + 100 * i + 0 ≤ 7293034 by omega)⟩) hD hS hA (fun r_1 H locs hr_1 hP hD hS => ?_)
  subst hr_1
  have hP : va_P (dC, dI) vwCl (tab cI X d r ++ (bk cW X Bk n (ch - backS d r (Wd k)) (pd + backS d r (Wd k)) pr yr (upW Wd k (upd (upd (Wd k) 4 2) 5 (Wd k 5 + backS d r (Wd k)))) ++ (bk cW X Br n2 ch2 pd2 pr2 yr2 W2 ++ (obj X Bk Br :: (o, .inl (cJ, 1, .inr (.inl (vp_updL f0 0 (backS d r (Wd k)).toInt64)))) :: (mw cI M th n d r Wd ch pd yr (WT d (r 0))))))) H := hP
  have hD : va_D (NEW s.heap.size) (tab cI X d r ++ (bk cW X Bk n (ch - backS d r (Wd k)) (pd + backS d r (Wd k)) pr yr (upW Wd k (upd (upd (Wd k) 4 2) 5 (Wd k 5 + backS d r (Wd k)))) ++ (bk cW X Br n2 ch2 pd2 pr2 yr2 W2 ++ (obj X Bk Br :: (o, .inl (cJ, 1, .inr (.inl (vp_updL f0 0 (backS d r (Wd k)).toInt64)))) :: (mw cI M th n d r Wd ch pd yr (WT d (r 0))))))) := hD
  have hP := va_P_perm (law_perm _ _ _ _ _ _) hP
  have hD := va_D_perm (law_perm _ _ _ _ _ _) hD
  refine lv_istore (lv' := [(5, .int 0), (4, .int (nI (4 * i))), (0, .ref b), (1, .ref (X 0)), (2, .ref (M 0)), (3, .ref o)]) hx hb dL_law_407 hl (by decide) rfl (fun ls hl => ?_)
  refine lv_aload_n hx hb dL_law_409 rfl (lv_at hl 4 rfl) ?_
  refine lv_aload_n hx hb dL_law_410 rfl (lv_at hl 2 rfl) ?_
  refine lv_iload hx hb dL_law_411 (lv_at hl 1 rfl) ?_
  refine lv_iconst (v := 1) hx hb dL_law_413 (by decide) ?_
  refine lv_iadd hx hb dL_law_414 ?_
  rw [show ((nI (4 * i)) + 1 : Int32) = nI (4 * i + 1) from nI_add (4 * i) 1]
  refine va_sld hx hb hX hbl (fun h9 => absurd h9 (Nat.not_le.mpr hbl)) hS (vp_in_nI (by omega) (by omega)) dL_law_415 ?_
  rw [clamp_nI (show 4 * i + 1 < 2147483648 by omega)]
  rw [e1]
  refine wr_i (runV1 (As := [.int (nI k)]) (rest := []) ⟨hx, hb, hml, hown, hts⟩ (met_X4_giveUp l dC dI cI cW M th n d r Wd ch pd yr _ hn hok k hk hcan _) (cwV 1 hts gL_law_X4_giveUp rfl rfl rfl (by decide +kernel) ⟨Nat.le_of_ble_eq_true rfl, Nat.le_of_ble_eq_true rfl⟩) hKK hP hD 4 0 rfl rfl rfl hl.1 (Nat.le_of_ble_eq_true rfl) rfl dL_law_416 ⟨(show 40 + 4 * i + 0 + 0 ≤ 601024 by omega), (show 3000 + 100 * i + 0 + 0 ≤ 7293034 by omega)⟩) hD hS hA (fun r_2 H locs hr_2 hP hD hS => ?_)
  subst hr_2
  refine lv_istore (lv' := [(6, .int (backS d r (Wd k))), (5, .int 0), (4, .int (nI (4 * i))), (0, .ref b), (1, .ref (X 0)), (2, .ref (M 0)), (3, .ref o)]) hx hb dL_law_419 hl (by decide) rfl (fun ls hl => ?_)
  refine lv_aload_n hx hb dL_law_421 rfl (lv_at hl 5 rfl) ?_
  refine rd_i (runV0 (As := []) (rest := []) ⟨hx, hb, hml, hown, hts⟩ (met_X4_thrown l dC dI cI cW _ _ _ _ _ _ _ _ _ _) (cwV 0 hts gL_law_X4_thrown rfl rfl rfl (by decide +kernel) ⟨Nat.le_of_ble_eq_true rfl, Nat.le_of_ble_eq_true rfl⟩) hKK (ws_left hP) 4 0 rfl rfl rfl hl.1 (Nat.le_of_ble_eq_true rfl) rfl dL_law_422 ⟨(show 40 + 4 * i + 0 + 0 ≤ 601024 by omega), (show 3000 + 100 * i + 0 + 0 ≤ 7293034 by omega)⟩) (fun r_3 hr_3 => ?_)
  subst hr_3
  have hP := va_P_perm (law_back _ _ _ _ _ _) hP
  have hD := va_D_perm (law_back _ _ _ _ _ _) hD
  refine lv_iload hx hb dL_law_425 (lv_at hl 1 rfl) ?_
  refine lv_icmp_eq (tgt := 432) hx hb dL_law_427 (by decide) (fun c_3 => ?_) (fun c_3 => ?_)
  · refine lv_iload hx hb dL_law_432 (lv_at hl 1 rfl) ?_
    refine lv_if_ne (tgt := 449) hx hb dL_law_434 (by decide) (fun c_4 => ?_) (fun c_4 => ?_)
    · exact absurd rfl c_4
    · refine lv_aload_n hx hb dL_law_437 rfl (lv_at hl 6 rfl) ?_
      refine lv_iconst (v := 0) hx hb dL_law_438 (by decide) ?_
      refine va_lald hx hb hKJ hP (27 + 1) 0 (cw_at rfl) rfl (vp_in_nI (n := 0) (by omega) (by omega)) dL_law_439 ?_
      rw [show (vp_updL f0 0 (backS d r (Wd k)).toInt64) (0 : Int32).toNatClampNeg = (backS d r (Wd k)).toInt64 from rfl]
      refine lv_iload hx hb dL_law_440 (lv_at hl 0 rfl) ?_
      refine lv_i2l hx hb dL_law_442 rfl ?_
      refine lv_lcmpS hx hb dL_law_443 ?_
      refine lv_if_eq (tgt := 449) hx hb dL_law_444 (by decide) (fun c_5 => ?_) (fun c_5 => ?_)
      · refine lv_goto (tgt := 1133) hx hb dL_law_449 (by decide) ?_
        refine lv_iinc (v := (nI (4 * (i + 1)))) (lv' := [(4, .int (nI (4 * (i + 1)))), (6, .int (backS d r (Wd k))), (5, .int 0), (0, .ref b), (1, .ref (X 0)), (2, .ref (M 0)), (3, .ref o)]) hx hb dL_law_1133 hl (k := 2) rfl (nI_add (4 * i) 4) (by decide) rfl (fun ls hl => ?_)
        refine lv_goto (tgt := 23) hx hb dL_law_1136 (by decide) ?_
        refine W.widen (k := 40 + 4 * (i + 1)) (n := 3000 + 100 * (i + 1)) (by omega) (by omega) ?_
        exact ih _ _ _ _ _ _ _ _ _ _ _ _ _ _ _ _ _ (hInv.giveUp (Nat.le_of_lt hi9) k hk) H locs hP hD hS ls (lv_sub hl [0, 3, 4, 5, 6] rfl)
      · exact absurd rfl c_5
  · exact absurd rfl c_3
set_option maxHeartbeats 4000000 in
set_option maxRecDepth 100000 in
theorem pL1_giveUp {p : Program} {l : Launch} {e : Env} {s : State} {m : MethodId} {below : List Frame} {meth : Method} {c : Code} {b L : Nat} {xs : Nat → Int32} {dC : Nat → ClassId} {dI : Nat → Nat → Nat} {cI cW cJ : ClassId} {t : Nat} {X Bk Br : Nat → Nat} {o : Nat} (C9 : LC p l s m c b L xs dC dI cI cW cJ t) (i : Nat) (hi9 : i < 512) (hL4 : 4 * i + 4 ≤ L) (hLm : L ≤ 2048) (ih : LOOP p l e s m below meth c b dC dI cI cW cJ X Bk Br o (i + 1)) (M : Nat → Nat) (f0 : Nat → Int64) (th : Int32) (d r : Nat → Int32) (n : Nat) (ch pd pr yr : Int32) (Wd : Nat → Nat → Int32) (n2 : Nat) (ch2 pd2 pr2 yr2 : Int32) (W2 : Nat → Nat → Int32) (hInv : Inv i d r n ch pr Wd) (H : Heap) (locs : List Loc) (hP : va_P (dC, dI) vwCl (tab cI X d r ++ (bk cW X Bk n ch pd pr yr Wd ++ (bk cW X Br n2 ch2 pd2 pr2 yr2 W2 ++ (obj X Bk Br :: (o, .inl (cJ, 1, .inr (.inl f0))) :: mw cI M th n d r Wd ch pd yr (WT d (r 0)))))) H) (hD : va_D (NEW s.heap.size) (tab cI X d r ++ (bk cW X Bk n ch pd pr yr Wd ++ (bk cW X Br n2 ch2 pd2 pr2 yr2 W2 ++ (obj X Bk Br :: (o, .inl (cJ, 1, .inr (.inl f0))) :: mw cI M th n d r Wd ch pd yr (WT d (r 0))))))) (hS : va_S (NEW s.heap.size) s.heap H locs) (ls : Array Slot) (hl : lv_has ls 9 [(4, .int (nI (4 * i))), (0, .ref b), (1, .ref (X 0)), (2, .ref (M 0)), (3, .ref o)]) (a : Int32) (h9 : ¬ (0 ≤ a ∧ a < nI n)) (e1 : xs (4 * i + 1) = a) : W p l e room_1 s m #[Value.ref b] below meth c H locs (40 + 4 * i) (3000 + 100 * i) (lw_Z below #[Value.ref b] s) (F0 m 396 ls []) := by
  obtain ⟨hx, hb, hml, hown, hts, hX, hbl, hKK, hKJ, hKX0, hHG0, hl0⟩ := C9
  have hA : ∀ q, s.heap.size ≤ q → NEW s.heap.size q := fun q h => h
  have hn := hInv.2.2.1
  have hok := hInv.2.2.2.1
  have hi := hInv.hi.1
  have hi0 := hInv.hi.2
  refine lv_aload_n hx hb dL_law_396 rfl (lv_at hl 2 rfl) ?_
  refine lv_aload_n hx hb dL_law_397 rfl (lv_at hl 1 rfl) ?_
  refine lv_iload hx hb dL_law_398 (lv_at hl 0 rfl) ?_
  refine lv_iconst (v := 1) hx hb dL_law_400 (by decide) ?_
  refine lv_iadd hx hb dL_law_401 ?_
  rw [show ((nI (4 * i)) + 1 : Int32) = nI (4 * i + 1) from nI_add (4 * i) 1]
  refine va_sld hx hb hX hbl (fun h9 => absurd h9 (Nat.not_le.mpr hbl)) hS (vp_in_nI (by omega) (by omega)) dL_law_402 ?_
  rw [clamp_nI (show 4 * i + 1 < 2147483648 by omega)]
  rw [e1]
  refine lv_aload_n hx hb dL_law_403 rfl (lv_at hl 4 rfl) ?_
  refine wr_i (runSL (As := [.ref (X 0), .int a, .ref o]) (rest := []) ⟨hx, hb, hml, hown, hts⟩ (bad1_L_giveUp l dC dI cI cW hl0 cJ o f0 X Bk Br d r n ch pd pr yr Wd n2 ch2 pd2 pr2 yr2 W2 (mw cI M th n d r Wd ch pd yr (WT d (r 0))) a h9 _) (vx_cwSW 3 hts gL_law_L_giveUp rfl rfl rfl (by decide +kernel) ⟨Nat.le_of_ble_eq_true rfl, Nat.le_of_ble_eq_true rfl⟩) hKK hKJ (hKX0.at hS) hP hD rfl hl.1 (Nat.le_of_ble_eq_true rfl) rfl dL_law_404 ⟨(show 40 + 4 * i + 1 ≤ 601024 by omega), (show 3000 + 100 * i + 6 ≤ 7293034 by omega)⟩) hD hS hA (fun r_1 H locs hr_1 hP hD hS => ?_)
  subst hr_1
  have hP : va_P (dC, dI) vwCl (tab cI X d r ++ (bk cW X Bk n ch pd pr yr Wd ++ (bk cW X Br n2 ch2 pd2 pr2 yr2 W2 ++ (obj X Bk Br :: (o, .inl (cJ, 1, .inr (.inl f0))) :: (mw cI M th n d r Wd ch pd yr (WT d (r 0))))))) H := hP
  have hD : va_D (NEW s.heap.size) (tab cI X d r ++ (bk cW X Bk n ch pd pr yr Wd ++ (bk cW X Br n2 ch2 pd2 pr2 yr2 W2 ++ (obj X Bk Br :: (o, .inl (cJ, 1, .inr (.inl f0))) :: (mw cI M th n d r Wd ch pd yr (WT d (r 0))))))) := hD
  have hP := va_P_perm (law_perm _ _ _ _ _ _) hP
  have hD := va_D_perm (law_perm _ _ _ _ _ _) hD
  refine lv_istore (lv' := [(5, .int 1), (4, .int (nI (4 * i))), (0, .ref b), (1, .ref (X 0)), (2, .ref (M 0)), (3, .ref o)]) hx hb dL_law_407 hl (by decide) rfl (fun ls hl => ?_)
  refine lv_aload_n hx hb dL_law_409 rfl (lv_at hl 4 rfl) ?_
  refine lv_aload_n hx hb dL_law_410 rfl (lv_at hl 2 rfl) ?_
  refine lv_iload hx hb dL_law_411 (lv_at hl 1 rfl) ?_
  refine lv_iconst (v := 1) hx hb dL_law_413 (by decide) ?_
  refine lv_iadd hx hb dL_law_414 ?_
  rw [show ((nI (4 * i)) + 1 : Int32) = nI (4 * i + 1) from nI_add (4 * i) 1]
  refine va_sld hx hb hX hbl (fun h9 => absurd h9 (Nat.not_le.mpr hbl)) hS (vp_in_nI (by omega) (by omega)) dL_law_415 ?_
  rw [clamp_nI (show 4 * i + 1 < 2147483648 by omega)]
  rw [e1]
  refine wr_i (runV1 (As := [.int a]) (rest := []) ⟨hx, hb, hml, hown, hts⟩ (met1_X4_giveUp l dC dI cI cW M th n d r Wd ch pd yr _ hn a h9 _) (cwV 1 hts gL_law_X4_giveUp rfl rfl rfl (by decide +kernel) ⟨Nat.le_of_ble_eq_true rfl, Nat.le_of_ble_eq_true rfl⟩) hKK hP hD 4 0 rfl rfl rfl hl.1 (Nat.le_of_ble_eq_true rfl) rfl dL_law_416 ⟨(show 40 + 4 * i + 1 + 0 ≤ 601024 by omega), (show 3000 + 100 * i + 6 + 0 ≤ 7293034 by omega)⟩) hD hS hA (fun r_2 H locs hr_2 hP hD hS => ?_)
  subst hr_2
  refine lv_istore (lv' := [(6, .int 0), (5, .int 1), (4, .int (nI (4 * i))), (0, .ref b), (1, .ref (X 0)), (2, .ref (M 0)), (3, .ref o)]) hx hb dL_law_419 hl (by decide) rfl (fun ls hl => ?_)
  refine lv_aload_n hx hb dL_law_421 rfl (lv_at hl 5 rfl) ?_
  refine rd_i (runV0 (As := []) (rest := []) ⟨hx, hb, hml, hown, hts⟩ (met_X4_thrown l dC dI cI cW _ _ _ _ _ _ _ _ _ _) (cwV 0 hts gL_law_X4_thrown rfl rfl rfl (by decide +kernel) ⟨Nat.le_of_ble_eq_true rfl, Nat.le_of_ble_eq_true rfl⟩) hKK (ws_left hP) 4 0 rfl rfl rfl hl.1 (Nat.le_of_ble_eq_true rfl) rfl dL_law_422 ⟨(show 40 + 4 * i + 1 + 0 ≤ 601024 by omega), (show 3000 + 100 * i + 6 + 0 ≤ 7293034 by omega)⟩) (fun r_3 hr_3 => ?_)
  subst hr_3
  have hP := va_P_perm (law_back _ _ _ _ _ _) hP
  have hD := va_D_perm (law_back _ _ _ _ _ _) hD
  refine lv_iload hx hb dL_law_425 (lv_at hl 1 rfl) ?_
  refine lv_icmp_eq (tgt := 432) hx hb dL_law_427 (by decide) (fun c_3 => ?_) (fun c_3 => ?_)
  · refine lv_iload hx hb dL_law_432 (lv_at hl 1 rfl) ?_
    refine lv_if_ne (tgt := 449) hx hb dL_law_434 (by decide) (fun c_4 => ?_) (fun c_4 => ?_)
    · refine lv_goto (tgt := 1133) hx hb dL_law_449 (by decide) ?_
      refine lv_iinc (v := (nI (4 * (i + 1)))) (lv' := [(4, .int (nI (4 * (i + 1)))), (6, .int 0), (5, .int 1), (0, .ref b), (1, .ref (X 0)), (2, .ref (M 0)), (3, .ref o)]) hx hb dL_law_1133 hl (k := 2) rfl (nI_add (4 * i) 4) (by decide) rfl (fun ls hl => ?_)
      refine lv_goto (tgt := 23) hx hb dL_law_1136 (by decide) ?_
      refine W.widen (k := 40 + 4 * (i + 1)) (n := 3000 + 100 * (i + 1)) (by omega) (by omega) ?_
      exact ih _ _ _ _ _ _ _ _ _ _ _ _ _ _ _ _ _ (hInv.mono (Nat.le_succ i)) H locs hP hD hS ls (lv_sub hl [0, 3, 4, 5, 6] rfl)
    · exact absurd c_4 (by decide)
  · exact absurd rfl c_3
set_option maxHeartbeats 4000000 in
set_option maxRecDepth 100000 in
theorem pL2_giveUp {p : Program} {l : Launch} {e : Env} {s : State} {m : MethodId} {below : List Frame} {meth : Method} {c : Code} {b L : Nat} {xs : Nat → Int32} {dC : Nat → ClassId} {dI : Nat → Nat → Nat} {cI cW cJ : ClassId} {t : Nat} {X Bk Br : Nat → Nat} {o : Nat} (C9 : LC p l s m c b L xs dC dI cI cW cJ t) (i : Nat) (hi9 : i < 512) (hL4 : 4 * i + 4 ≤ L) (hLm : L ≤ 2048) (ih : LOOP p l e s m below meth c b dC dI cI cW cJ X Bk Br o (i + 1)) (M : Nat → Nat) (f0 : Nat → Int64) (th : Int32) (d r : Nat → Int32) (n : Nat) (ch pd pr yr : Int32) (Wd : Nat → Nat → Int32) (n2 : Nat) (ch2 pd2 pr2 yr2 : Int32) (W2 : Nat → Nat → Int32) (hInv : Inv i d r n ch pr Wd) (H : Heap) (locs : List Loc) (hP : va_P (dC, dI) vwCl (tab cI X d r ++ (bk cW X Bk n ch pd pr yr Wd ++ (bk cW X Br n2 ch2 pd2 pr2 yr2 W2 ++ (obj X Bk Br :: (o, .inl (cJ, 1, .inr (.inl f0))) :: mw cI M th n d r Wd ch pd yr (WT d (r 0)))))) H) (hD : va_D (NEW s.heap.size) (tab cI X d r ++ (bk cW X Bk n ch pd pr yr Wd ++ (bk cW X Br n2 ch2 pd2 pr2 yr2 W2 ++ (obj X Bk Br :: (o, .inl (cJ, 1, .inr (.inl f0))) :: mw cI M th n d r Wd ch pd yr (WT d (r 0))))))) (hS : va_S (NEW s.heap.size) s.heap H locs) (ls : Array Slot) (hl : lv_has ls 9 [(4, .int (nI (4 * i))), (0, .ref b), (1, .ref (X 0)), (2, .ref (M 0)), (3, .ref o)]) (k : Nat) (hk : k < n) (h9 : ¬ (Wd k 4 = 0 ∧ 2 ≤ Wd k 3)) (e1 : xs (4 * i + 1) = nI k) : W p l e room_1 s m #[Value.ref b] below meth c H locs (40 + 4 * i) (3000 + 100 * i) (lw_Z below #[Value.ref b] s) (F0 m 396 ls []) := by
  obtain ⟨hx, hb, hml, hown, hts, hX, hbl, hKK, hKJ, hKX0, hHG0, hl0⟩ := C9
  have hA : ∀ q, s.heap.size ≤ q → NEW s.heap.size q := fun q h => h
  have hn := hInv.2.2.1
  have hok := hInv.2.2.2.1
  have hi := hInv.hi.1
  have hi0 := hInv.hi.2
  refine lv_aload_n hx hb dL_law_396 rfl (lv_at hl 2 rfl) ?_
  refine lv_aload_n hx hb dL_law_397 rfl (lv_at hl 1 rfl) ?_
  refine lv_iload hx hb dL_law_398 (lv_at hl 0 rfl) ?_
  refine lv_iconst (v := 1) hx hb dL_law_400 (by decide) ?_
  refine lv_iadd hx hb dL_law_401 ?_
  rw [show ((nI (4 * i)) + 1 : Int32) = nI (4 * i + 1) from nI_add (4 * i) 1]
  refine va_sld hx hb hX hbl (fun h9 => absurd h9 (Nat.not_le.mpr hbl)) hS (vp_in_nI (by omega) (by omega)) dL_law_402 ?_
  rw [clamp_nI (show 4 * i + 1 < 2147483648 by omega)]
  rw [e1]
  refine lv_aload_n hx hb dL_law_403 rfl (lv_at hl 4 rfl) ?_
  refine wr_i (runSL (As := [.ref (X 0), .int (nI k), .ref o]) (rest := []) ⟨hx, hb, hml, hown, hts⟩ (bad2_L_giveUp l dC dI cI cW hl0 cJ o f0 X Bk Br d r n ch pd pr yr Wd n2 ch2 pd2 pr2 yr2 W2 (mw cI M th n d r Wd ch pd yr (WT d (r 0))) hn k hk h9 _) (vx_cwSW 3 hts gL_law_L_giveUp rfl rfl rfl (by decide +kernel) ⟨Nat.le_of_ble_eq_true rfl, Nat.le_of_ble_eq_true rfl⟩) hKK hKJ (hKX0.at hS) hP hD rfl hl.1 (Nat.le_of_ble_eq_true rfl) rfl dL_law_404 ⟨(show 40 + 4 * i + 1 ≤ 601024 by omega), (show 3000 + 100 * i + 6 ≤ 7293034 by omega)⟩) hD hS hA (fun r_1 H locs hr_1 hP hD hS => ?_)
  subst hr_1
  have hP : va_P (dC, dI) vwCl (tab cI X d r ++ (bk cW X Bk n ch pd pr yr Wd ++ (bk cW X Br n2 ch2 pd2 pr2 yr2 W2 ++ (obj X Bk Br :: (o, .inl (cJ, 1, .inr (.inl f0))) :: (mw cI M th n d r Wd ch pd yr (WT d (r 0))))))) H := hP
  have hD : va_D (NEW s.heap.size) (tab cI X d r ++ (bk cW X Bk n ch pd pr yr Wd ++ (bk cW X Br n2 ch2 pd2 pr2 yr2 W2 ++ (obj X Bk Br :: (o, .inl (cJ, 1, .inr (.inl f0))) :: (mw cI M th n d r Wd ch pd yr (WT d (r 0))))))) := hD
  have hP := va_P_perm (law_perm _ _ _ _ _ _) hP
  have hD := va_D_perm (law_perm _ _ _ _ _ _) hD
  refine lv_istore (lv' := [(5, .int 2), (4, .int (nI (4 * i))), (0, .ref b), (1, .ref (X 0)), (2, .ref (M 0)), (3, .ref o)]) hx hb dL_law_407 hl (by decide) rfl (fun ls hl => ?_)
  refine lv_aload_n hx hb dL_law_409 rfl (lv_at hl 4 rfl) ?_
  refine lv_aload_n hx hb dL_law_410 rfl (lv_at hl 2 rfl) ?_
  refine lv_iload hx hb dL_law_411 (lv_at hl 1 rfl) ?_
  refine lv_iconst (v := 1) hx hb dL_law_413 (by decide) ?_
  refine lv_iadd hx hb dL_law_414 ?_
  rw [show ((nI (4 * i)) + 1 : Int32) = nI (4 * i + 1) from nI_add (4 * i) 1]
  refine va_sld hx hb hX hbl (fun h9 => absurd h9 (Nat.not_le.mpr hbl)) hS (vp_in_nI (by omega) (by omega)) dL_law_415 ?_
  rw [clamp_nI (show 4 * i + 1 < 2147483648 by omega)]
  rw [e1]
  refine wr_i (runV1 (As := [.int (nI k)]) (rest := []) ⟨hx, hb, hml, hown, hts⟩ (met2_X4_giveUp l dC dI cI cW M th n d r Wd ch pd yr _ hn k hk h9 _) (cwV 1 hts gL_law_X4_giveUp rfl rfl rfl (by decide +kernel) ⟨Nat.le_of_ble_eq_true rfl, Nat.le_of_ble_eq_true rfl⟩) hKK hP hD 4 0 rfl rfl rfl hl.1 (Nat.le_of_ble_eq_true rfl) rfl dL_law_416 ⟨(show 40 + 4 * i + 1 + 0 ≤ 601024 by omega), (show 3000 + 100 * i + 6 + 0 ≤ 7293034 by omega)⟩) hD hS hA (fun r_2 H locs hr_2 hP hD hS => ?_)
  subst hr_2
  refine lv_istore (lv' := [(6, .int 0), (5, .int 2), (4, .int (nI (4 * i))), (0, .ref b), (1, .ref (X 0)), (2, .ref (M 0)), (3, .ref o)]) hx hb dL_law_419 hl (by decide) rfl (fun ls hl => ?_)
  refine lv_aload_n hx hb dL_law_421 rfl (lv_at hl 5 rfl) ?_
  refine rd_i (runV0 (As := []) (rest := []) ⟨hx, hb, hml, hown, hts⟩ (met_X4_thrown l dC dI cI cW _ _ _ _ _ _ _ _ _ _) (cwV 0 hts gL_law_X4_thrown rfl rfl rfl (by decide +kernel) ⟨Nat.le_of_ble_eq_true rfl, Nat.le_of_ble_eq_true rfl⟩) hKK (ws_left hP) 4 0 rfl rfl rfl hl.1 (Nat.le_of_ble_eq_true rfl) rfl dL_law_422 ⟨(show 40 + 4 * i + 1 + 0 ≤ 601024 by omega), (show 3000 + 100 * i + 6 + 0 ≤ 7293034 by omega)⟩) (fun r_3 hr_3 => ?_)
  subst hr_3
  have hP := va_P_perm (law_back _ _ _ _ _ _) hP
  have hD := va_D_perm (law_back _ _ _ _ _ _) hD
  refine lv_iload hx hb dL_law_425 (lv_at hl 1 rfl) ?_
  refine lv_icmp_eq (tgt := 432) hx hb dL_law_427 (by decide) (fun c_3 => ?_) (fun c_3 => ?_)
  · refine lv_iload hx hb dL_law_432 (lv_at hl 1 rfl) ?_
    refine lv_if_ne (tgt := 449) hx hb dL_law_434 (by decide) (fun c_4 => ?_) (fun c_4 => ?_)
    · refine lv_goto (tgt := 1133) hx hb dL_law_449 (by decide) ?_
      refine lv_iinc (v := (nI (4 * (i + 1)))) (lv' := [(4, .int (nI (4 * (i + 1)))), (6, .int 0), (5, .int 2), (0, .ref b), (1, .ref (X 0)), (2, .ref (M 0)), (3, .ref o)]) hx hb dL_law_1133 hl (k := 2) rfl (nI_add (4 * i) 4) (by decide) rfl (fun ls hl => ?_)
      refine lv_goto (tgt := 23) hx hb dL_law_1136 (by decide) ?_
      refine W.widen (k := 40 + 4 * (i + 1)) (n := 3000 + 100 * (i + 1)) (by omega) (by omega) ?_
      exact ih _ _ _ _ _ _ _ _ _ _ _ _ _ _ _ _ _ (hInv.mono (Nat.le_succ i)) H locs hP hD hS ls (lv_sub hl [0, 3, 4, 5, 6] rfl)
    · exact absurd c_4 (by decide)
  · exact absurd rfl c_3
set_option maxHeartbeats 4000000 in
set_option maxRecDepth 100000 in
theorem pL0_put {p : Program} {l : Launch} {e : Env} {s : State} {m : MethodId} {below : List Frame} {meth : Method} {c : Code} {b L : Nat} {xs : Nat → Int32} {dC : Nat → ClassId} {dI : Nat → Nat → Nat} {cI cW cJ : ClassId} {t : Nat} {X Bk Br : Nat → Nat} {o : Nat} (C9 : LC p l s m c b L xs dC dI cI cW cJ t) (i : Nat) (hi9 : i < 512) (hL4 : 4 * i + 4 ≤ L) (hLm : L ≤ 2048) (ih : LOOP p l e s m below meth c b dC dI cI cW cJ X Bk Br o (i + 1)) (M : Nat → Nat) (f0 : Nat → Int64) (th : Int32) (d r : Nat → Int32) (n : Nat) (ch pd pr yr : Int32) (Wd : Nat → Nat → Int32) (n2 : Nat) (ch2 pd2 pr2 yr2 : Int32) (W2 : Nat → Nat → Int32) (hInv : Inv i d r n ch pr Wd) (H : Heap) (locs : List Loc) (hP : va_P (dC, dI) vwCl (tab cI X d r ++ (bk cW X Bk n ch pd pr yr Wd ++ (bk cW X Br n2 ch2 pd2 pr2 yr2 W2 ++ (obj X Bk Br :: (o, .inl (cJ, 1, .inr (.inl f0))) :: mw cI M th n d r Wd ch pd yr (WT d (r 0)))))) H) (hD : va_D (NEW s.heap.size) (tab cI X d r ++ (bk cW X Bk n ch pd pr yr Wd ++ (bk cW X Br n2 ch2 pd2 pr2 yr2 W2 ++ (obj X Bk Br :: (o, .inl (cJ, 1, .inr (.inl f0))) :: mw cI M th n d r Wd ch pd yr (WT d (r 0))))))) (hS : va_S (NEW s.heap.size) s.heap H locs) (ls : Array Slot) (hl : lv_has ls 9 [(4, .int (nI (4 * i))), (0, .ref b), (1, .ref (X 0)), (2, .ref (M 0)), (3, .ref o)]) (x : Int32) (h4 : -99999 ≤ x ∧ x ≤ 99999) (e1 : xs (4 * i + 1) = x) : W p l e room_1 s m #[Value.ref b] below meth c H locs (40 + 4 * i) (3000 + 100 * i) (lw_Z below #[Value.ref b] s) (F0 m 452 ls []) := by
  obtain ⟨hx, hb, hml, hown, hts, hX, hbl, hKK, hKJ, hKX0, hHG0, hl0⟩ := C9
  have hA : ∀ q, s.heap.size ≤ q → NEW s.heap.size q := fun q h => h
  have hn := hInv.2.2.1
  have hok := hInv.2.2.2.1
  have hi := hInv.hi.1
  have hi0 := hInv.hi.2
  have hfx := (hInv.put (Nat.le_of_lt hi9) h4).1
  refine lv_aload_n hx hb dL_law_452 rfl (lv_at hl 2 rfl) ?_
  refine lv_aload_n hx hb dL_law_453 rfl (lv_at hl 1 rfl) ?_
  refine lv_iload hx hb dL_law_454 (lv_at hl 0 rfl) ?_
  refine lv_iconst (v := 1) hx hb dL_law_456 (by decide) ?_
  refine lv_iadd hx hb dL_law_457 ?_
  rw [show ((nI (4 * i)) + 1 : Int32) = nI (4 * i + 1) from nI_add (4 * i) 1]
  refine va_sld hx hb hX hbl (fun h9 => absurd h9 (Nat.not_le.mpr hbl)) hS (vp_in_nI (by omega) (by omega)) dL_law_458 ?_
  rw [clamp_nI (show 4 * i + 1 < 2147483648 by omega)]
  rw [e1]
  refine lv_aload_n hx hb dL_law_459 rfl (lv_at hl 4 rfl) ?_
  refine wr_i (runSL (As := [.ref (X 0), .int x, .ref o]) (rest := []) ⟨hx, hb, hml, hown, hts⟩ (met_L_put l dC dI cI cW cJ o f0 X Bk Br d r n ch pd pr yr Wd n2 ch2 pd2 pr2 yr2 W2 (mw cI M th n d r Wd ch pd yr (WT d (r 0))) x h4 _) (vx_cwSW 3 hts gL_law_L_put rfl rfl rfl (by decide +kernel) ⟨Nat.le_of_ble_eq_true rfl, Nat.le_of_ble_eq_true rfl⟩) hKK hKJ (hKX0.at hS) hP hD rfl hl.1 (Nat.le_of_ble_eq_true rfl) rfl dL_law_460 ⟨(show 40 + 4 * i + 0 ≤ 601024 by omega), (show 3000 + 100 * i + 0 ≤ 7293034 by omega)⟩) hD hS hA (fun r_1 H locs hr_1 hP hD hS => ?_)
  subst hr_1
  have hP : va_P (dC, dI) vwCl (tab cI X d r ++ (bk cW X Bk n (takeS ch x) pd pr yr Wd ++ (bk cW X Br n2 ch2 pd2 pr2 yr2 W2 ++ (obj X Bk Br :: (o, .inl (cJ, 1, .inr (.inl (vp_updL f0 0 (takeS ch x).toInt64)))) :: (mw cI M th n d r Wd ch pd yr (WT d (r 0))))))) H := hP
  have hD : va_D (NEW s.heap.size) (tab cI X d r ++ (bk cW X Bk n (takeS ch x) pd pr yr Wd ++ (bk cW X Br n2 ch2 pd2 pr2 yr2 W2 ++ (obj X Bk Br :: (o, .inl (cJ, 1, .inr (.inl (vp_updL f0 0 (takeS ch x).toInt64)))) :: (mw cI M th n d r Wd ch pd yr (WT d (r 0))))))) := hD
  have hP := va_P_perm (law_perm _ _ _ _ _ _) hP
  have hD := va_D_perm (law_perm _ _ _ _ _ _) hD
  refine lv_istore (lv' := [(5, .int 0), (4, .int (nI (4 * i))), (0, .ref b), (1, .ref (X 0)), (2, .ref (M 0)), (3, .ref o)]) hx hb dL_law_463 hl (by decide) rfl (fun ls hl => ?_)
  refine lv_aload_n hx hb dL_law_465 rfl (lv_at hl 4 rfl) ?_
  refine lv_aload_n hx hb dL_law_466 rfl (lv_at hl 2 rfl) ?_
  refine lv_iload hx hb dL_law_467 (lv_at hl 1 rfl) ?_
  refine lv_iconst (v := 1) hx hb dL_law_469 (by decide) ?_
  refine lv_iadd hx hb dL_law_470 ?_
  rw [show ((nI (4 * i)) + 1 : Int32) = nI (4 * i + 1) from nI_add (4 * i) 1]
  refine va_sld hx hb hX hbl (fun h9 => absurd h9 (Nat.not_le.mpr hbl)) hS (vp_in_nI (by omega) (by omega)) dL_law_471 ?_
  rw [clamp_nI (show 4 * i + 1 < 2147483648 by omega)]
  rw [e1]
  refine wr_i (runV1 (As := [.int x]) (rest := []) ⟨hx, hb, hml, hown, hts⟩ (met_X4_put l dC dI cI cW M th n d r Wd ch pd yr _ x h4 _) (cwV 1 hts gL_law_X4_put rfl rfl rfl (by decide +kernel) ⟨Nat.le_of_ble_eq_true rfl, Nat.le_of_ble_eq_true rfl⟩) hKK hP hD 4 0 rfl rfl rfl hl.1 (Nat.le_of_ble_eq_true rfl) rfl dL_law_472 ⟨(show 40 + 4 * i + 0 + 0 ≤ 601024 by omega), (show 3000 + 100 * i + 0 + 0 ≤ 7293034 by omega)⟩) hD hS hA (fun r_2 H locs hr_2 hP hD hS => ?_)
  subst hr_2
  rw [show (comeS ch x.toInt64 : Int32) = takeS ch x from hfx]
  refine lv_istore (lv' := [(6, .int (takeS ch x)), (5, .int 0), (4, .int (nI (4 * i))), (0, .ref b), (1, .ref (X 0)), (2, .ref (M 0)), (3, .ref o)]) hx hb dL_law_475 hl (by decide) rfl (fun ls hl => ?_)
  refine lv_aload_n hx hb dL_law_477 rfl (lv_at hl 5 rfl) ?_
  refine rd_i (runV0 (As := []) (rest := []) ⟨hx, hb, hml, hown, hts⟩ (met_X4_thrown l dC dI cI cW _ _ _ _ _ _ _ _ _ _) (cwV 0 hts gL_law_X4_thrown rfl rfl rfl (by decide +kernel) ⟨Nat.le_of_ble_eq_true rfl, Nat.le_of_ble_eq_true rfl⟩) hKK (ws_left hP) 4 0 rfl rfl rfl hl.1 (Nat.le_of_ble_eq_true rfl) rfl dL_law_478 ⟨(show 40 + 4 * i + 0 + 0 ≤ 601024 by omega), (show 3000 + 100 * i + 0 + 0 ≤ 7293034 by omega)⟩) (fun r_3 hr_3 => ?_)
  subst hr_3
  have hP := va_P_perm (law_back _ _ _ _ _ _) hP
  have hD := va_D_perm (law_back _ _ _ _ _ _) hD
  refine lv_iload hx hb dL_law_481 (lv_at hl 1 rfl) ?_
  refine lv_icmp_eq (tgt := 488) hx hb dL_law_483 (by decide) (fun c_4 => ?_) (fun c_4 => ?_)
  · refine lv_iload hx hb dL_law_488 (lv_at hl 1 rfl) ?_
    refine lv_if_ne (tgt := 505) hx hb dL_law_490 (by decide) (fun c_5 => ?_) (fun c_5 => ?_)
    · exact absurd rfl c_5
    · refine lv_aload_n hx hb dL_law_493 rfl (lv_at hl 6 rfl) ?_
      refine lv_iconst (v := 0) hx hb dL_law_494 (by decide) ?_
      refine va_lald hx hb hKJ hP (27 + 1) 0 (cw_at rfl) rfl (vp_in_nI (n := 0) (by omega) (by omega)) dL_law_495 ?_
      rw [show (vp_updL f0 0 (takeS ch x).toInt64) (0 : Int32).toNatClampNeg = (takeS ch x).toInt64 from rfl]
      refine lv_iload hx hb dL_law_496 (lv_at hl 0 rfl) ?_
      refine lv_i2l hx hb dL_law_498 rfl ?_
      refine lv_lcmpS hx hb dL_law_499 ?_
      refine lv_if_eq (tgt := 505) hx hb dL_law_500 (by decide) (fun c_6 => ?_) (fun c_6 => ?_)
      · refine lv_goto (tgt := 1133) hx hb dL_law_505 (by decide) ?_
        refine lv_iinc (v := (nI (4 * (i + 1)))) (lv' := [(4, .int (nI (4 * (i + 1)))), (6, .int (takeS ch x)), (5, .int 0), (0, .ref b), (1, .ref (X 0)), (2, .ref (M 0)), (3, .ref o)]) hx hb dL_law_1133 hl (k := 2) rfl (nI_add (4 * i) 4) (by decide) rfl (fun ls hl => ?_)
        refine lv_goto (tgt := 23) hx hb dL_law_1136 (by decide) ?_
        rw [hfx] at hP hD
        refine W.widen (k := 40 + 4 * (i + 1)) (n := 3000 + 100 * (i + 1)) (by omega) (by omega) ?_
        exact ih _ _ _ _ _ _ _ _ _ _ _ _ _ _ _ _ _ ((hInv.put (Nat.le_of_lt hi9) h4).2) H locs hP hD hS ls (lv_sub hl [0, 3, 4, 5, 6] rfl)
      · exact absurd rfl c_6
  · exact absurd rfl c_4
set_option maxHeartbeats 4000000 in
set_option maxRecDepth 100000 in
theorem pL1_put {p : Program} {l : Launch} {e : Env} {s : State} {m : MethodId} {below : List Frame} {meth : Method} {c : Code} {b L : Nat} {xs : Nat → Int32} {dC : Nat → ClassId} {dI : Nat → Nat → Nat} {cI cW cJ : ClassId} {t : Nat} {X Bk Br : Nat → Nat} {o : Nat} (C9 : LC p l s m c b L xs dC dI cI cW cJ t) (i : Nat) (hi9 : i < 512) (hL4 : 4 * i + 4 ≤ L) (hLm : L ≤ 2048) (ih : LOOP p l e s m below meth c b dC dI cI cW cJ X Bk Br o (i + 1)) (M : Nat → Nat) (f0 : Nat → Int64) (th : Int32) (d r : Nat → Int32) (n : Nat) (ch pd pr yr : Int32) (Wd : Nat → Nat → Int32) (n2 : Nat) (ch2 pd2 pr2 yr2 : Int32) (W2 : Nat → Nat → Int32) (hInv : Inv i d r n ch pr Wd) (H : Heap) (locs : List Loc) (hP : va_P (dC, dI) vwCl (tab cI X d r ++ (bk cW X Bk n ch pd pr yr Wd ++ (bk cW X Br n2 ch2 pd2 pr2 yr2 W2 ++ (obj X Bk Br :: (o, .inl (cJ, 1, .inr (.inl f0))) :: mw cI M th n d r Wd ch pd yr (WT d (r 0)))))) H) (hD : va_D (NEW s.heap.size) (tab cI X d r ++ (bk cW X Bk n ch pd pr yr Wd ++ (bk cW X Br n2 ch2 pd2 pr2 yr2 W2 ++ (obj X Bk Br :: (o, .inl (cJ, 1, .inr (.inl f0))) :: mw cI M th n d r Wd ch pd yr (WT d (r 0))))))) (hS : va_S (NEW s.heap.size) s.heap H locs) (ls : Array Slot) (hl : lv_has ls 9 [(4, .int (nI (4 * i))), (0, .ref b), (1, .ref (X 0)), (2, .ref (M 0)), (3, .ref o)]) (x : Int32) (h9 : ¬ (-99999 ≤ x ∧ x ≤ 99999)) (e1 : xs (4 * i + 1) = x) : W p l e room_1 s m #[Value.ref b] below meth c H locs (40 + 4 * i) (3000 + 100 * i) (lw_Z below #[Value.ref b] s) (F0 m 452 ls []) := by
  obtain ⟨hx, hb, hml, hown, hts, hX, hbl, hKK, hKJ, hKX0, hHG0, hl0⟩ := C9
  have hA : ∀ q, s.heap.size ≤ q → NEW s.heap.size q := fun q h => h
  have hn := hInv.2.2.1
  have hok := hInv.2.2.2.1
  have hi := hInv.hi.1
  have hi0 := hInv.hi.2
  refine lv_aload_n hx hb dL_law_452 rfl (lv_at hl 2 rfl) ?_
  refine lv_aload_n hx hb dL_law_453 rfl (lv_at hl 1 rfl) ?_
  refine lv_iload hx hb dL_law_454 (lv_at hl 0 rfl) ?_
  refine lv_iconst (v := 1) hx hb dL_law_456 (by decide) ?_
  refine lv_iadd hx hb dL_law_457 ?_
  rw [show ((nI (4 * i)) + 1 : Int32) = nI (4 * i + 1) from nI_add (4 * i) 1]
  refine va_sld hx hb hX hbl (fun h9 => absurd h9 (Nat.not_le.mpr hbl)) hS (vp_in_nI (by omega) (by omega)) dL_law_458 ?_
  rw [clamp_nI (show 4 * i + 1 < 2147483648 by omega)]
  rw [e1]
  refine lv_aload_n hx hb dL_law_459 rfl (lv_at hl 4 rfl) ?_
  refine wr_i (runSL (As := [.ref (X 0), .int x, .ref o]) (rest := []) ⟨hx, hb, hml, hown, hts⟩ (bad1_L_put l dC dI cI cW hl0 cJ o f0 X Bk Br d r n ch pd pr yr Wd n2 ch2 pd2 pr2 yr2 W2 (mw cI M th n d r Wd ch pd yr (WT d (r 0))) x h9 _) (vx_cwSW 3 hts gL_law_L_put rfl rfl rfl (by decide +kernel) ⟨Nat.le_of_ble_eq_true rfl, Nat.le_of_ble_eq_true rfl⟩) hKK hKJ (hKX0.at hS) hP hD rfl hl.1 (Nat.le_of_ble_eq_true rfl) rfl dL_law_460 ⟨(show 40 + 4 * i + 1 ≤ 601024 by omega), (show 3000 + 100 * i + 6 ≤ 7293034 by omega)⟩) hD hS hA (fun r_1 H locs hr_1 hP hD hS => ?_)
  subst hr_1
  have hP : va_P (dC, dI) vwCl (tab cI X d r ++ (bk cW X Bk n ch pd pr yr Wd ++ (bk cW X Br n2 ch2 pd2 pr2 yr2 W2 ++ (obj X Bk Br :: (o, .inl (cJ, 1, .inr (.inl f0))) :: (mw cI M th n d r Wd ch pd yr (WT d (r 0))))))) H := hP
  have hD : va_D (NEW s.heap.size) (tab cI X d r ++ (bk cW X Bk n ch pd pr yr Wd ++ (bk cW X Br n2 ch2 pd2 pr2 yr2 W2 ++ (obj X Bk Br :: (o, .inl (cJ, 1, .inr (.inl f0))) :: (mw cI M th n d r Wd ch pd yr (WT d (r 0))))))) := hD
  have hP := va_P_perm (law_perm _ _ _ _ _ _) hP
  have hD := va_D_perm (law_perm _ _ _ _ _ _) hD
  refine lv_istore (lv' := [(5, .int 1), (4, .int (nI (4 * i))), (0, .ref b), (1, .ref (X 0)), (2, .ref (M 0)), (3, .ref o)]) hx hb dL_law_463 hl (by decide) rfl (fun ls hl => ?_)
  refine lv_aload_n hx hb dL_law_465 rfl (lv_at hl 4 rfl) ?_
  refine lv_aload_n hx hb dL_law_466 rfl (lv_at hl 2 rfl) ?_
  refine lv_iload hx hb dL_law_467 (lv_at hl 1 rfl) ?_
  refine lv_iconst (v := 1) hx hb dL_law_469 (by decide) ?_
  refine lv_iadd hx hb dL_law_470 ?_
  rw [show ((nI (4 * i)) + 1 : Int32) = nI (4 * i + 1) from nI_add (4 * i) 1]
  refine va_sld hx hb hX hbl (fun h9 => absurd h9 (Nat.not_le.mpr hbl)) hS (vp_in_nI (by omega) (by omega)) dL_law_471 ?_
  rw [clamp_nI (show 4 * i + 1 < 2147483648 by omega)]
  rw [e1]
  refine wr_i (runV1 (As := [.int x]) (rest := []) ⟨hx, hb, hml, hown, hts⟩ (met1_X4_put l dC dI cI cW M th n d r Wd ch pd yr _ x h9 _) (cwV 1 hts gL_law_X4_put rfl rfl rfl (by decide +kernel) ⟨Nat.le_of_ble_eq_true rfl, Nat.le_of_ble_eq_true rfl⟩) hKK hP hD 4 0 rfl rfl rfl hl.1 (Nat.le_of_ble_eq_true rfl) rfl dL_law_472 ⟨(show 40 + 4 * i + 1 + 0 ≤ 601024 by omega), (show 3000 + 100 * i + 6 + 0 ≤ 7293034 by omega)⟩) hD hS hA (fun r_2 H locs hr_2 hP hD hS => ?_)
  subst hr_2
  refine lv_istore (lv' := [(6, .int 0), (5, .int 1), (4, .int (nI (4 * i))), (0, .ref b), (1, .ref (X 0)), (2, .ref (M 0)), (3, .ref o)]) hx hb dL_law_475 hl (by decide) rfl (fun ls hl => ?_)
  refine lv_aload_n hx hb dL_law_477 rfl (lv_at hl 5 rfl) ?_
  refine rd_i (runV0 (As := []) (rest := []) ⟨hx, hb, hml, hown, hts⟩ (met_X4_thrown l dC dI cI cW _ _ _ _ _ _ _ _ _ _) (cwV 0 hts gL_law_X4_thrown rfl rfl rfl (by decide +kernel) ⟨Nat.le_of_ble_eq_true rfl, Nat.le_of_ble_eq_true rfl⟩) hKK (ws_left hP) 4 0 rfl rfl rfl hl.1 (Nat.le_of_ble_eq_true rfl) rfl dL_law_478 ⟨(show 40 + 4 * i + 1 + 0 ≤ 601024 by omega), (show 3000 + 100 * i + 6 + 0 ≤ 7293034 by omega)⟩) (fun r_3 hr_3 => ?_)
  subst hr_3
  have hP := va_P_perm (law_back _ _ _ _ _ _) hP
  have hD := va_D_perm (law_back _ _ _ _ _ _) hD
  refine lv_iload hx hb dL_law_481 (lv_at hl 1 rfl) ?_
  refine lv_icmp_eq (tgt := 488) hx hb dL_law_483 (by decide) (fun c_3 => ?_) (fun c_3 => ?_)
  · refine lv_iload hx hb dL_law_488 (lv_at hl 1 rfl) ?_
    refine lv_if_ne (tgt := 505) hx hb dL_law_490 (by decide) (fun c_4 => ?_) (fun c_4 => ?_)
    · refine lv_goto (tgt := 1133) hx hb dL_law_505 (by decide) ?_
      refine lv_iinc (v := (nI (4 * (i + 1)))) (lv' := [(4, .int (nI (4 * (i + 1)))), (6, .int 0), (5, .int 1), (0, .ref b), (1, .ref (X 0)), (2, .ref (M 0)), (3, .ref o)]) hx hb dL_law_1133 hl (k := 2) rfl (nI_add (4 * i) 4) (by decide) rfl (fun ls hl => ?_)
      refine lv_goto (tgt := 23) hx hb dL_law_1136 (by decide) ?_
      refine W.widen (k := 40 + 4 * (i + 1)) (n := 3000 + 100 * (i + 1)) (by omega) (by omega) ?_
      exact ih _ _ _ _ _ _ _ _ _ _ _ _ _ _ _ _ _ (hInv.mono (Nat.le_succ i)) H locs hP hD hS ls (lv_sub hl [0, 3, 4, 5, 6] rfl)
    · exact absurd c_4 (by decide)
  · exact absurd rfl c_3
