set_option maxHeartbeats 4000000 in
set_option maxRecDepth 100000 in
theorem law_t1 {p : Program} {l : Launch} {e : Env} {s : State} {m : MethodId} {below : List Frame} {meth : Method} {c : Code} {b L : Nat} {xs : Nat → Int32} {dC : Nat → ClassId} {dI : Nat → Nat → Nat} {cI cW cV : ClassId} {X Bk Br Y : Nat → Nat} {Ya : Nat} {V : Nat → Nat} {d r : Nat → Int32} {n : Nat} {ch pd pr yr : Int32} {Wd : Nat → Nat → Int32} {A : Nat → Prop} {t : Nat} (C9 : LC p s m meth c b L xs dC dI cI cW cV) (hAe : A = NEW s.heap.size) (ht : t < 30) (hI : Inv2 (60 + 2 * t + 1) d r n ch pr Wd) (K : LOOP p l e s m below meth c b dC dI cI cW cV X Bk Br Y (t + 1)) {xx : Int32} {H : Heap} {locs : List Loc} (hP : va_P (dC, dI) vwCl (tab cI X d r ++ (bk cW X Bk n ch pd pr yr Wd ++ (bk cW X Br 0 0 0 0 0 (fun _ _ => 0) ++ (obj X Bk Br :: (si cI cV Y Ya V n d r ch pd yr Wd ++ []))))) H) (hD : va_D A (tab cI X d r ++ (bk cW X Bk n ch pd pr yr Wd ++ (bk cW X Br 0 0 0 0 0 (fun _ _ => 0) ++ (obj X Bk Br :: (si cI cV Y Ya V n d r ch pd yr Wd ++ [])))))) (hS : va_S A s.heap H locs) {ls : Array Slot} (hl : lv_has ls 20 [(4, .int xx), (3, .int (nI t)), (0, .ref b), (1, .ref (X 0)), (2, .ref (Y 0))]) : W p l e room_1 s m (#[Value.ref b]) below meth c H locs (132 + 8 * t) (1141 + 74 * t) (lw_Z below #[Value.ref b] s) (F0 m 63 ls []) := by
  obtain ⟨hx, hb, hr, hml, hown, hts, hlocks, hKS, hX, hbl, hL⟩ := C9
  have hKK := hKS.1
  have hKV := hKS.2.1
  have hn := hI.1.2.2.1
  have hok := hI.1.2.2.2.1
  have hi := hI.1.hi.1
  have hi0 := hI.1.hi.2
  have hA : ∀ q : Nat, s.heap.size ≤ q → A q := fun q h => by rw [hAe]; exact h
  have hbA : ¬ A b := by rw [hAe]; exact Nat.not_le.mpr hbl
  have tail : ∀ (o1 o2 o3 o4 : Nat) (H : Heap) (locs : List Loc), va_P (dC, dI) vwCl (tab cI X d r ++ (bk cW X Bk n ch pd pr yr Wd ++ (bk cW X Br 0 0 0 0 0 (fun _ _ => 0) ++ (obj X Bk Br :: ([(o4, .inl (cI, n, .inl (msk (fun k => Wd k 4) n))), (o3, .inl (cI, n, .inl (msk (fun k => Wd k 0) n))), (o2, .inl (cI, n, .inl (msk (fun k => Wd k 5) n))), (o1, .inl (cI, n, .inl (msk (fun k => Wd k 2) n)))] ++ (si cI cV Y Ya V n d r ch pd yr Wd ++ [])))))) H → va_D A (tab cI X d r ++ (bk cW X Bk n ch pd pr yr Wd ++ (bk cW X Br 0 0 0 0 0 (fun _ _ => 0) ++ (obj X Bk Br :: ([(o4, .inl (cI, n, .inl (msk (fun k => Wd k 4) n))), (o3, .inl (cI, n, .inl (msk (fun k => Wd k 0) n))), (o2, .inl (cI, n, .inl (msk (fun k => Wd k 5) n))), (o1, .inl (cI, n, .inl (msk (fun k => Wd k 2) n)))] ++ (si cI cV Y Ya V n d r ch pd yr Wd ++ [])))))) → va_S A s.heap H locs → ∀ ls : Array Slot, lv_has ls 20 [(13, .int (sm (dueF Wd) n)), (12, .ref o4), (11, .ref o3), (10, .ref o2), (9, .ref o1), (8, .int yr), (7, .int pd), (6, .int ch), (5, .int (nI n)), (4, .int xx), (3, .int (nI t)), (0, .ref b), (1, .ref (X 0)), (2, .ref (Y 0))] → W p l e room_1 s m (#[Value.ref b]) below meth c H locs (136 + 8 * t) (1181 + 74 * t) (lw_Z below #[Value.ref b] s) (F0 m 309 ls []) := by
    intro o1 o2 o3 o4 H locs hP hD hS ls hl
    refine lv_iload hx hb dL_law_309 (lv_at hl 0 rfl) ?_
    refine lv_aload_n hx hb dL_law_311 rfl (lv_at hl 12 rfl) ?_
    refine lv_bipush (v := 6) hx hb dL_law_312 (by decide) ?_
    refine rd_i (runV0 (As := [.int 6]) (rest := [.int (sm (dueF Wd) n)]) ⟨hx, hb, hml, hown, hts⟩ (met_X3_count l dC dI cI cW X Bk Br d r n ch pd pr yr Wd 0 0 0 0 0 (fun _ _ => 0) _ hn hok 6 (by omega) hi hi0) (cwV 1 hts gL_law_X3_count rfl rfl rfl (by decide +kernel) ⟨Nat.le_of_ble_eq_true rfl, Nat.le_of_ble_eq_true rfl⟩) hKK hP 3 27 rfl cw_obj rfl hl.1 (Nat.le_of_ble_eq_true rfl) rfl dL_law_314 ⟨by show _ ≤ 600130; omega, by show _ ≤ 7301080; omega⟩) (fun r_1 hr_1 => ?_)
    rw [hr_1]
    rw [show (countS d r n ch pd pr yr Wd 6 : Int32) = sm (dueF Wd) n from rfl]
    refine lv_icmp_eq (tgt := 322) hx hb dL_law_317 (by decide) (fun c_3 => ?_) (fun c_3 => ?_)
    · refine lv_iload_n hx hb dL_law_322 rfl (lv_at hl 10 rfl) ?_
      refine lv_iconst (v := 3) hx hb dL_law_323 (by decide) ?_
      refine lv_irem hx hb dL_law_324 (by decide) ?_
      rw [show ((nI t) - (nI t) / 3 * 3 : Int32) = nI (t % 3) from pk_rem (d := 3) (by omega) (by omega) (by omega)]
      refine lv_if_ne (tgt := 606) hx hb dL_law_325 (by decide) (fun c_5 => ?_) (fun c_5 => ?_)
      · exact law_year ⟨hx, hb, hr, hml, hown, hts, hlocks, hKS, hX, hbl, hL⟩ hAe ht hI K hP hD hS (lv_sub hl [1, 2, 3, 4, 5, 6, 7, 8, 9, 10, 11, 12, 13] rfl)
      · refine lv_iload hx hb dL_law_328 (lv_at hl 8 rfl) ?_
        refine lv_bipush (v := 10) hx hb dL_law_330 (by decide) ?_
        refine lv_icmp_ge (tgt := 606) hx hb dL_law_332 (by decide) (fun c_6 => ?_) (fun c_6 => ?_)
        · exact law_year ⟨hx, hb, hr, hml, hown, hts, hlocks, hKS, hX, hbl, hL⟩ hAe ht hI K hP hD hS (lv_sub hl [1, 2, 3, 4, 5, 6, 7, 8, 9, 10, 11, 12, 13] rfl)
        · have hn10 : n < 10 := by
            rcases Nat.lt_or_ge n 10 with z9 | z9
            · exact z9
            · exact absurd ((le_nI (a := 10) (by omega)).mpr z9) c_6
          exact law_buy ⟨hx, hb, hr, hml, hown, hts, hlocks, hKS, hX, hbl, hL⟩ hAe ht hI K hn10 hP hD hS (lv_sub hl [1, 2, 3, 4, 5, 6, 7, 8, 9, 10, 11, 12, 13] rfl)
    · exact absurd rfl c_3
  have key : ∀ (o1 o2 o3 o4 m9 j : Nat), j + m9 = n → ∀ (H : Heap) (locs : List Loc), va_P (dC, dI) vwCl (tab cI X d r ++ (bk cW X Bk n ch pd pr yr Wd ++ (bk cW X Br 0 0 0 0 0 (fun _ _ => 0) ++ (obj X Bk Br :: ([(o4, .inl (cI, n, .inl (msk (fun k => Wd k 4) j))), (o3, .inl (cI, n, .inl (msk (fun k => Wd k 0) j))), (o2, .inl (cI, n, .inl (msk (fun k => Wd k 5) j))), (o1, .inl (cI, n, .inl (msk (fun k => Wd k 2) j)))] ++ (si cI cV Y Ya V n d r ch pd yr Wd ++ [])))))) H → va_D A (tab cI X d r ++ (bk cW X Bk n ch pd pr yr Wd ++ (bk cW X Br 0 0 0 0 0 (fun _ _ => 0) ++ (obj X Bk Br :: ([(o4, .inl (cI, n, .inl (msk (fun k => Wd k 4) j))), (o3, .inl (cI, n, .inl (msk (fun k => Wd k 0) j))), (o2, .inl (cI, n, .inl (msk (fun k => Wd k 5) j))), (o1, .inl (cI, n, .inl (msk (fun k => Wd k 2) j)))] ++ (si cI cV Y Ya V n d r ch pd yr Wd ++ [])))))) → va_S A s.heap H locs → ∀ ls : Array Slot, lv_has ls 20 [(14, .int (nI j)), (13, .int (sm (dueF Wd) j)), (12, .ref o4), (11, .ref o3), (10, .ref o2), (9, .ref o1), (8, .int yr), (7, .int pd), (6, .int ch), (5, .int (nI n)), (4, .int xx), (3, .int (nI t)), (0, .ref b), (1, .ref (X 0)), (2, .ref (Y 0))] → W p l e room_1 s m (#[Value.ref b]) below meth c H locs (136 + 8 * t) (1181 + 74 * t) (lw_Z below #[Value.ref b] s) (F0 m 122 ls []) := by
    intro o1 o2 o3 o4 m9
    induction m9 with
    | zero =>
      intro j hj H locs hP hD hS ls hl
      have hjn : j = n := by omega
      refine lv_iload hx hb dL_law_122 (lv_at hl 0 rfl) ?_
      refine lv_iload hx hb dL_law_124 (lv_at hl 9 rfl) ?_
      refine lv_icmp_ge (tgt := 309) hx hb dL_law_126 (by decide) (fun c_1 => ?_) (fun c_1 => ?_)
      · rw [hjn] at hP hD
        exact tail o1 o2 o3 o4 H locs hP hD hS ls (hl_to (a := [(13, .int (sm (dueF Wd) j)), (12, .ref o4), (11, .ref o3), (10, .ref o2), (9, .ref o1), (8, .int yr), (7, .int pd), (6, .int ch), (5, .int (nI n)), (4, .int xx), (3, .int (nI t)), (0, .ref b), (1, .ref (X 0)), (2, .ref (Y 0))]) (by rw [hjn]) (lv_sub hl [1, 2, 3, 4, 5, 6, 7, 8, 9, 10, 11, 12, 13, 14] rfl))
      · exact absurd (by rw [hjn]; exact Int32.le_refl _) c_1
    | succ m9 ih =>
      intro j hj H locs hP hD hS ls hl
      have hjn : j < n := by omega
      have hokj := hok j hjn
      have chk : ∀ (H : Heap) (locs : List Loc), va_P (dC, dI) vwCl (tab cI X d r ++ (bk cW X Bk n ch pd pr yr Wd ++ (bk cW X Br 0 0 0 0 0 (fun _ _ => 0) ++ (obj X Bk Br :: ([(o4, .inl (cI, n, .inl (msk (fun k => Wd k 4) (j + 1)))), (o3, .inl (cI, n, .inl (msk (fun k => Wd k 0) (j + 1)))), (o2, .inl (cI, n, .inl (msk (fun k => Wd k 5) (j + 1)))), (o1, .inl (cI, n, .inl (msk (fun k => Wd k 2) (j + 1))))] ++ (si cI cV Y Ya V n d r ch pd yr Wd ++ [])))))) H → va_D A (tab cI X d r ++ (bk cW X Bk n ch pd pr yr Wd ++ (bk cW X Br 0 0 0 0 0 (fun _ _ => 0) ++ (obj X Bk Br :: ([(o4, .inl (cI, n, .inl (msk (fun k => Wd k 4) (j + 1)))), (o3, .inl (cI, n, .inl (msk (fun k => Wd k 0) (j + 1)))), (o2, .inl (cI, n, .inl (msk (fun k => Wd k 5) (j + 1)))), (o1, .inl (cI, n, .inl (msk (fun k => Wd k 2) (j + 1))))] ++ (si cI cV Y Ya V n d r ch pd yr Wd ++ [])))))) → va_S A s.heap H locs → ∀ ls : Array Slot, lv_has ls 20 [(14, .int (nI j)), (13, .int (sm (dueF Wd) (j + 1))), (12, .ref o4), (11, .ref o3), (10, .ref o2), (9, .ref o1), (8, .int yr), (7, .int pd), (6, .int ch), (5, .int (nI n)), (4, .int xx), (3, .int (nI t)), (0, .ref b), (1, .ref (X 0)), (2, .ref (Y 0))] → W p l e room_1 s m (#[Value.ref b]) below meth c H locs (136 + 8 * t) (1181 + 74 * t) (lw_Z below #[Value.ref b] s) (F0 m 210 ls []) := by
        intro H locs hP hD hS ls hl
        refine lv_aload_n hx hb dL_law_210 rfl (lv_at hl 13 rfl) ?_
        refine lv_iload hx hb dL_law_211 (lv_at hl 0 rfl) ?_
        refine lv_iconst (v := 5) hx hb dL_law_213 (by decide) ?_
        refine rd_i (runV0 (As := [.int (nI j), .int 5]) (rest := []) ⟨hx, hb, hml, hown, hts⟩ (met_X3_told l dC dI cI cW X Bk Br d r n ch pd pr yr Wd 0 0 0 0 0 (fun _ _ => 0) _ hn hok j 5 hjn (by omega) hi hi0) (cwV 2 hts gL_law_X3_told rfl rfl rfl (by decide +kernel) ⟨Nat.le_of_ble_eq_true rfl, Nat.le_of_ble_eq_true rfl⟩) hKK hP 3 27 rfl cw_obj rfl hl.1 (Nat.le_of_ble_eq_true rfl) rfl dL_law_214 ⟨by show _ ≤ 600130; omega, by show _ ≤ 7301080; omega⟩) (fun r_1 hr_1 => ?_)
        subst hr_1
        rw [show (tellS d r (Wd j) 5 : Int32) = keptS d (r 0) (Wd j) from rfl]
        refine lv_if_lt (tgt := 301) hx hb dL_law_217 (by decide) (fun c_3 => ?_) (fun c_3 => ?_)
        · exact absurd c_3 (kept_nn hI.1 hokj)
        · refine lv_aload hx hb dL_law_220 (lv_at hl 2 rfl) ?_
          refine lv_iload hx hb dL_law_222 (lv_at hl 0 rfl) ?_
          refine va_iald hx hb hKK.1 hP (27 + 1) 0 (cw_at (k := 1) rfl) rfl (vp_in_nI hjn (by omega)) dL_law_224 ?_
          rw [show (msk (fun k => Wd k 4) (j + 1)) (nI j).toNatClampNeg = (msk (fun k => Wd k 4) (j + 1)) j from congrArg (msk (fun k => Wd k 4) (j + 1)) (clamp_nI (by omega))]
          rw [show ((msk (fun k => Wd k 4) (j + 1)) j : Int32) = Wd j 4 from msk_at _ (Nat.lt_succ_self j)]
          refine lv_if_eq (tgt := 238) hx hb dL_law_225 (by decide) (fun c_5 => ?_) (fun c_5 => ?_)
          · refine lv_aload_n hx hb dL_law_238 rfl (lv_at hl 13 rfl) ?_
            refine lv_iload hx hb dL_law_239 (lv_at hl 0 rfl) ?_
            refine lv_bipush (v := 8) hx hb dL_law_241 (by decide) ?_
            refine rd_i (runV0 (As := [.int (nI j), .int 8]) (rest := []) ⟨hx, hb, hml, hown, hts⟩ (met_X3_told l dC dI cI cW X Bk Br d r n ch pd pr yr Wd 0 0 0 0 0 (fun _ _ => 0) _ hn hok j 8 hjn (by omega) hi hi0) (cwV 2 hts gL_law_X3_told rfl rfl rfl (by decide +kernel) ⟨Nat.le_of_ble_eq_true rfl, Nat.le_of_ble_eq_true rfl⟩) hKK hP 3 27 rfl cw_obj rfl hl.1 (Nat.le_of_ble_eq_true rfl) rfl dL_law_243 ⟨by show _ ≤ 600130; omega, by show _ ≤ 7301080; omega⟩) (fun r_6 hr_6 => ?_)
            subst hr_6
            rw [show (tellS d r (Wd j) 8 : Int32) = backS d r (Wd j) from rfl]
            refine lv_aload_n hx hb dL_law_246 rfl (lv_at hl 13 rfl) ?_
            refine lv_iload hx hb dL_law_247 (lv_at hl 0 rfl) ?_
            refine lv_iconst (v := 5) hx hb dL_law_249 (by decide) ?_
            refine rd_i (runV0 (As := [.int (nI j), .int 5]) (rest := [.int (backS d r (Wd j))]) ⟨hx, hb, hml, hown, hts⟩ (met_X3_told l dC dI cI cW X Bk Br d r n ch pd pr yr Wd 0 0 0 0 0 (fun _ _ => 0) _ hn hok j 5 hjn (by omega) hi hi0) (cwV 2 hts gL_law_X3_told rfl rfl rfl (by decide +kernel) ⟨Nat.le_of_ble_eq_true rfl, Nat.le_of_ble_eq_true rfl⟩) hKK hP 3 27 rfl cw_obj rfl hl.1 (Nat.le_of_ble_eq_true rfl) rfl dL_law_250 ⟨by show _ ≤ 600130; omega, by show _ ≤ 7301080; omega⟩) (fun r_8 hr_8 => ?_)
            subst hr_8
            rw [show (tellS d r (Wd j) 5 : Int32) = keptS d (r 0) (Wd j) from rfl]
            refine lv_icmp_gt (tgt := 301) hx hb dL_law_253 (by decide) (fun c_10 => ?_) (fun c_10 => ?_)
            · exact absurd c_10 (Int32.not_lt.mpr (back_le hI.1 hokj))
            · refine lv_aload_n hx hb dL_law_256 rfl (lv_at hl 13 rfl) ?_
              refine lv_iload hx hb dL_law_257 (lv_at hl 0 rfl) ?_
              refine lv_bipush (v := 8) hx hb dL_law_259 (by decide) ?_
              refine rd_i (runV0 (As := [.int (nI j), .int 8]) (rest := []) ⟨hx, hb, hml, hown, hts⟩ (met_X3_told l dC dI cI cW X Bk Br d r n ch pd pr yr Wd 0 0 0 0 0 (fun _ _ => 0) _ hn hok j 8 hjn (by omega) hi hi0) (cwV 2 hts gL_law_X3_told rfl rfl rfl (by decide +kernel) ⟨Nat.le_of_ble_eq_true rfl, Nat.le_of_ble_eq_true rfl⟩) hKK hP 3 27 rfl cw_obj rfl hl.1 (Nat.le_of_ble_eq_true rfl) rfl dL_law_261 ⟨by show _ ≤ 600130; omega, by show _ ≤ 7301080; omega⟩) (fun r_11 hr_11 => ?_)
              subst hr_11
              rw [show (tellS d r (Wd j) 8 : Int32) = backS d r (Wd j) from rfl]
              refine lv_if_lt (tgt := 301) hx hb dL_law_264 (by decide) (fun c_13 => ?_) (fun c_13 => ?_)
              · exact absurd c_13 (back_nn hI.1 hokj)
              · refine lv_aload_n hx hb dL_law_267 rfl (lv_at hl 13 rfl) ?_
                refine lv_iload hx hb dL_law_268 (lv_at hl 0 rfl) ?_
                refine lv_iconst (v := 3) hx hb dL_law_270 (by decide) ?_
                refine rd_i (runV0 (As := [.int (nI j), .int 3]) (rest := []) ⟨hx, hb, hml, hown, hts⟩ (met_X3_told l dC dI cI cW X Bk Br d r n ch pd pr yr Wd 0 0 0 0 0 (fun _ _ => 0) _ hn hok j 3 hjn (by omega) hi hi0) (cwV 2 hts gL_law_X3_told rfl rfl rfl (by decide +kernel) ⟨Nat.le_of_ble_eq_true rfl, Nat.le_of_ble_eq_true rfl⟩) hKK hP 3 27 rfl cw_obj rfl hl.1 (Nat.le_of_ble_eq_true rfl) rfl dL_law_271 ⟨by show _ ≤ 600130; omega, by show _ ≤ 7301080; omega⟩) (fun r_14 hr_14 => ?_)
                subst hr_14
                rw [show (tellS d r (Wd j) 3 : Int32) = Wd j 3 from rfl]
                refine lv_iconst (v := 2) hx hb dL_law_274 (by decide) ?_
                refine lv_icmp_ge (tgt := 289) hx hb dL_law_275 (by decide) (fun c_16 => ?_) (fun c_16 => ?_)
                · refine lv_aload_n hx hb dL_law_289 rfl (lv_at hl 13 rfl) ?_
                  refine lv_iload hx hb dL_law_290 (lv_at hl 0 rfl) ?_
                  refine lv_bipush (v := 7) hx hb dL_law_292 (by decide) ?_
                  refine rd_i (runV0 (As := [.int (nI j), .int 7]) (rest := []) ⟨hx, hb, hml, hown, hts⟩ (met_X3_told l dC dI cI cW X Bk Br d r n ch pd pr yr Wd 0 0 0 0 0 (fun _ _ => 0) _ hn hok j 7 hjn (by omega) hi hi0) (cwV 2 hts gL_law_X3_told rfl rfl rfl (by decide +kernel) ⟨Nat.le_of_ble_eq_true rfl, Nat.le_of_ble_eq_true rfl⟩) hKK hP 3 27 rfl cw_obj rfl hl.1 (Nat.le_of_ble_eq_true rfl) rfl dL_law_294 ⟨by show _ ≤ 600130; omega, by show _ ≤ 7301080; omega⟩) (fun r_17 hr_17 => ?_)
                  subst hr_17
                  rw [show (tellS d r (Wd j) 7 : Int32) = Wd j 6 from rfl]
                  refine lv_iconst (v := 1) hx hb dL_law_297 (by decide) ?_
                  refine lv_icmp_ge (tgt := 303) hx hb dL_law_298 (by decide) (fun c_19 => ?_) (fun c_19 => ?_)
                  · refine lv_iinc (v := (nI (j + 1))) (lv' := [(14, .int (nI (j + 1))), (13, .int (sm (dueF Wd) (j + 1))), (12, .ref o4), (11, .ref o3), (10, .ref o2), (9, .ref o1), (8, .int yr), (7, .int pd), (6, .int ch), (5, .int (nI n)), (4, .int xx), (3, .int (nI t)), (0, .ref b), (1, .ref (X 0)), (2, .ref (Y 0))]) hx hb dL_law_303 hl (k := 0) rfl (nI_1 j) (by decide) rfl (fun ls hl => ?_)
                    refine lv_goto (tgt := 122) hx hb dL_law_306 (by decide) ?_
                    exact ih (j + 1) (by omega) H locs hP hD hS ls (lv_sub hl [0, 1, 2, 3, 4, 5, 6, 7, 8, 9, 10, 11, 12, 13, 14] rfl)
                  · exact absurd (hI.2 j hjn).1 c_19
                · have hsi : ¬ 2 ≤ Wd j 3 := c_16
                  refine lv_aload_n hx hb dL_law_278 rfl (lv_at hl 13 rfl) ?_
                  refine lv_iload hx hb dL_law_279 (lv_at hl 0 rfl) ?_
                  refine lv_bipush (v := 8) hx hb dL_law_281 (by decide) ?_
                  refine rd_i (runV0 (As := [.int (nI j), .int 8]) (rest := []) ⟨hx, hb, hml, hown, hts⟩ (met_X3_told l dC dI cI cW X Bk Br d r n ch pd pr yr Wd 0 0 0 0 0 (fun _ _ => 0) _ hn hok j 8 hjn (by omega) hi hi0) (cwV 2 hts gL_law_X3_told rfl rfl rfl (by decide +kernel) ⟨Nat.le_of_ble_eq_true rfl, Nat.le_of_ble_eq_true rfl⟩) hKK hP 3 27 rfl cw_obj rfl hl.1 (Nat.le_of_ble_eq_true rfl) rfl dL_law_283 ⟨by show _ ≤ 600130; omega, by show _ ≤ 7301080; omega⟩) (fun r_20 hr_20 => ?_)
                  subst hr_20
                  rw [show (tellS d r (Wd j) 8 : Int32) = backS d r (Wd j) from rfl]
                  refine lv_if_ne (tgt := 301) hx hb dL_law_286 (by decide) (fun c_22 => ?_) (fun c_22 => ?_)
                  · exact absurd (back_0 hsi) c_22
                  · refine lv_aload_n hx hb dL_law_289 rfl (lv_at hl 13 rfl) ?_
                    refine lv_iload hx hb dL_law_290 (lv_at hl 0 rfl) ?_
                    refine lv_bipush (v := 7) hx hb dL_law_292 (by decide) ?_
                    refine rd_i (runV0 (As := [.int (nI j), .int 7]) (rest := []) ⟨hx, hb, hml, hown, hts⟩ (met_X3_told l dC dI cI cW X Bk Br d r n ch pd pr yr Wd 0 0 0 0 0 (fun _ _ => 0) _ hn hok j 7 hjn (by omega) hi hi0) (cwV 2 hts gL_law_X3_told rfl rfl rfl (by decide +kernel) ⟨Nat.le_of_ble_eq_true rfl, Nat.le_of_ble_eq_true rfl⟩) hKK hP 3 27 rfl cw_obj rfl hl.1 (Nat.le_of_ble_eq_true rfl) rfl dL_law_294 ⟨by show _ ≤ 600130; omega, by show _ ≤ 7301080; omega⟩) (fun r_23 hr_23 => ?_)
                    subst hr_23
                    rw [show (tellS d r (Wd j) 7 : Int32) = Wd j 6 from rfl]
                    refine lv_iconst (v := 1) hx hb dL_law_297 (by decide) ?_
                    refine lv_icmp_ge (tgt := 303) hx hb dL_law_298 (by decide) (fun c_25 => ?_) (fun c_25 => ?_)
                    · refine lv_iinc (v := (nI (j + 1))) (lv' := [(14, .int (nI (j + 1))), (13, .int (sm (dueF Wd) (j + 1))), (12, .ref o4), (11, .ref o3), (10, .ref o2), (9, .ref o1), (8, .int yr), (7, .int pd), (6, .int ch), (5, .int (nI n)), (4, .int xx), (3, .int (nI t)), (0, .ref b), (1, .ref (X 0)), (2, .ref (Y 0))]) hx hb dL_law_303 hl (k := 0) rfl (nI_1 j) (by decide) rfl (fun ls hl => ?_)
                      refine lv_goto (tgt := 122) hx hb dL_law_306 (by decide) ?_
                      exact ih (j + 1) (by omega) H locs hP hD hS ls (lv_sub hl [0, 1, 2, 3, 4, 5, 6, 7, 8, 9, 10, 11, 12, 13, 14] rfl)
                    · exact absurd (hI.2 j hjn).1 c_25
          · have hal : ¬ Wd j 4 = 0 := c_5
            refine lv_aload_n hx hb dL_law_228 rfl (lv_at hl 13 rfl) ?_
            refine lv_iload hx hb dL_law_229 (lv_at hl 0 rfl) ?_
            refine lv_iconst (v := 5) hx hb dL_law_231 (by decide) ?_
            refine rd_i (runV0 (As := [.int (nI j), .int 5]) (rest := []) ⟨hx, hb, hml, hown, hts⟩ (met_X3_told l dC dI cI cW X Bk Br d r n ch pd pr yr Wd 0 0 0 0 0 (fun _ _ => 0) _ hn hok j 5 hjn (by omega) hi hi0) (cwV 2 hts gL_law_X3_told rfl rfl rfl (by decide +kernel) ⟨Nat.le_of_ble_eq_true rfl, Nat.le_of_ble_eq_true rfl⟩) hKK hP 3 27 rfl cw_obj rfl hl.1 (Nat.le_of_ble_eq_true rfl) rfl dL_law_232 ⟨by show _ ≤ 600130; omega, by show _ ≤ 7301080; omega⟩) (fun r_26 hr_26 => ?_)
            subst hr_26
            rw [show (tellS d r (Wd j) 5 : Int32) = keptS d (r 0) (Wd j) from rfl]
            refine lv_if_ne (tgt := 301) hx hb dL_law_235 (by decide) (fun c_28 => ?_) (fun c_28 => ?_)
            · exact absurd (kept_0 hal) c_28
            · refine lv_aload_n hx hb dL_law_238 rfl (lv_at hl 13 rfl) ?_
              refine lv_iload hx hb dL_law_239 (lv_at hl 0 rfl) ?_
              refine lv_bipush (v := 8) hx hb dL_law_241 (by decide) ?_
              refine rd_i (runV0 (As := [.int (nI j), .int 8]) (rest := []) ⟨hx, hb, hml, hown, hts⟩ (met_X3_told l dC dI cI cW X Bk Br d r n ch pd pr yr Wd 0 0 0 0 0 (fun _ _ => 0) _ hn hok j 8 hjn (by omega) hi hi0) (cwV 2 hts gL_law_X3_told rfl rfl rfl (by decide +kernel) ⟨Nat.le_of_ble_eq_true rfl, Nat.le_of_ble_eq_true rfl⟩) hKK hP 3 27 rfl cw_obj rfl hl.1 (Nat.le_of_ble_eq_true rfl) rfl dL_law_243 ⟨by show _ ≤ 600130; omega, by show _ ≤ 7301080; omega⟩) (fun r_29 hr_29 => ?_)
              subst hr_29
              rw [show (tellS d r (Wd j) 8 : Int32) = backS d r (Wd j) from rfl]
              refine lv_aload_n hx hb dL_law_246 rfl (lv_at hl 13 rfl) ?_
              refine lv_iload hx hb dL_law_247 (lv_at hl 0 rfl) ?_
              refine lv_iconst (v := 5) hx hb dL_law_249 (by decide) ?_
              refine rd_i (runV0 (As := [.int (nI j), .int 5]) (rest := [.int (backS d r (Wd j))]) ⟨hx, hb, hml, hown, hts⟩ (met_X3_told l dC dI cI cW X Bk Br d r n ch pd pr yr Wd 0 0 0 0 0 (fun _ _ => 0) _ hn hok j 5 hjn (by omega) hi hi0) (cwV 2 hts gL_law_X3_told rfl rfl rfl (by decide +kernel) ⟨Nat.le_of_ble_eq_true rfl, Nat.le_of_ble_eq_true rfl⟩) hKK hP 3 27 rfl cw_obj rfl hl.1 (Nat.le_of_ble_eq_true rfl) rfl dL_law_250 ⟨by show _ ≤ 600130; omega, by show _ ≤ 7301080; omega⟩) (fun r_31 hr_31 => ?_)
              subst hr_31
              rw [show (tellS d r (Wd j) 5 : Int32) = keptS d (r 0) (Wd j) from rfl]
              refine lv_icmp_gt (tgt := 301) hx hb dL_law_253 (by decide) (fun c_33 => ?_) (fun c_33 => ?_)
              · exact absurd c_33 (Int32.not_lt.mpr (back_le hI.1 hokj))
              · refine lv_aload_n hx hb dL_law_256 rfl (lv_at hl 13 rfl) ?_
                refine lv_iload hx hb dL_law_257 (lv_at hl 0 rfl) ?_
                refine lv_bipush (v := 8) hx hb dL_law_259 (by decide) ?_
                refine rd_i (runV0 (As := [.int (nI j), .int 8]) (rest := []) ⟨hx, hb, hml, hown, hts⟩ (met_X3_told l dC dI cI cW X Bk Br d r n ch pd pr yr Wd 0 0 0 0 0 (fun _ _ => 0) _ hn hok j 8 hjn (by omega) hi hi0) (cwV 2 hts gL_law_X3_told rfl rfl rfl (by decide +kernel) ⟨Nat.le_of_ble_eq_true rfl, Nat.le_of_ble_eq_true rfl⟩) hKK hP 3 27 rfl cw_obj rfl hl.1 (Nat.le_of_ble_eq_true rfl) rfl dL_law_261 ⟨by show _ ≤ 600130; omega, by show _ ≤ 7301080; omega⟩) (fun r_34 hr_34 => ?_)
                subst hr_34
                rw [show (tellS d r (Wd j) 8 : Int32) = backS d r (Wd j) from rfl]
                refine lv_if_lt (tgt := 301) hx hb dL_law_264 (by decide) (fun c_36 => ?_) (fun c_36 => ?_)
                · exact absurd c_36 (back_nn hI.1 hokj)
                · refine lv_aload_n hx hb dL_law_267 rfl (lv_at hl 13 rfl) ?_
                  refine lv_iload hx hb dL_law_268 (lv_at hl 0 rfl) ?_
                  refine lv_iconst (v := 3) hx hb dL_law_270 (by decide) ?_
                  refine rd_i (runV0 (As := [.int (nI j), .int 3]) (rest := []) ⟨hx, hb, hml, hown, hts⟩ (met_X3_told l dC dI cI cW X Bk Br d r n ch pd pr yr Wd 0 0 0 0 0 (fun _ _ => 0) _ hn hok j 3 hjn (by omega) hi hi0) (cwV 2 hts gL_law_X3_told rfl rfl rfl (by decide +kernel) ⟨Nat.le_of_ble_eq_true rfl, Nat.le_of_ble_eq_true rfl⟩) hKK hP 3 27 rfl cw_obj rfl hl.1 (Nat.le_of_ble_eq_true rfl) rfl dL_law_271 ⟨by show _ ≤ 600130; omega, by show _ ≤ 7301080; omega⟩) (fun r_37 hr_37 => ?_)
                  subst hr_37
                  rw [show (tellS d r (Wd j) 3 : Int32) = Wd j 3 from rfl]
                  refine lv_iconst (v := 2) hx hb dL_law_274 (by decide) ?_
                  refine lv_icmp_ge (tgt := 289) hx hb dL_law_275 (by decide) (fun c_39 => ?_) (fun c_39 => ?_)
                  · refine lv_aload_n hx hb dL_law_289 rfl (lv_at hl 13 rfl) ?_
                    refine lv_iload hx hb dL_law_290 (lv_at hl 0 rfl) ?_
                    refine lv_bipush (v := 7) hx hb dL_law_292 (by decide) ?_
                    refine rd_i (runV0 (As := [.int (nI j), .int 7]) (rest := []) ⟨hx, hb, hml, hown, hts⟩ (met_X3_told l dC dI cI cW X Bk Br d r n ch pd pr yr Wd 0 0 0 0 0 (fun _ _ => 0) _ hn hok j 7 hjn (by omega) hi hi0) (cwV 2 hts gL_law_X3_told rfl rfl rfl (by decide +kernel) ⟨Nat.le_of_ble_eq_true rfl, Nat.le_of_ble_eq_true rfl⟩) hKK hP 3 27 rfl cw_obj rfl hl.1 (Nat.le_of_ble_eq_true rfl) rfl dL_law_294 ⟨by show _ ≤ 600130; omega, by show _ ≤ 7301080; omega⟩) (fun r_40 hr_40 => ?_)
                    subst hr_40
                    rw [show (tellS d r (Wd j) 7 : Int32) = Wd j 6 from rfl]
                    refine lv_iconst (v := 1) hx hb dL_law_297 (by decide) ?_
                    refine lv_icmp_ge (tgt := 303) hx hb dL_law_298 (by decide) (fun c_42 => ?_) (fun c_42 => ?_)
                    · refine lv_iinc (v := (nI (j + 1))) (lv' := [(14, .int (nI (j + 1))), (13, .int (sm (dueF Wd) (j + 1))), (12, .ref o4), (11, .ref o3), (10, .ref o2), (9, .ref o1), (8, .int yr), (7, .int pd), (6, .int ch), (5, .int (nI n)), (4, .int xx), (3, .int (nI t)), (0, .ref b), (1, .ref (X 0)), (2, .ref (Y 0))]) hx hb dL_law_303 hl (k := 0) rfl (nI_1 j) (by decide) rfl (fun ls hl => ?_)
                      refine lv_goto (tgt := 122) hx hb dL_law_306 (by decide) ?_
                      exact ih (j + 1) (by omega) H locs hP hD hS ls (lv_sub hl [0, 1, 2, 3, 4, 5, 6, 7, 8, 9, 10, 11, 12, 13, 14] rfl)
                    · exact absurd (hI.2 j hjn).1 c_42
                  · have hsi : ¬ 2 ≤ Wd j 3 := c_39
                    refine lv_aload_n hx hb dL_law_278 rfl (lv_at hl 13 rfl) ?_
                    refine lv_iload hx hb dL_law_279 (lv_at hl 0 rfl) ?_
                    refine lv_bipush (v := 8) hx hb dL_law_281 (by decide) ?_
                    refine rd_i (runV0 (As := [.int (nI j), .int 8]) (rest := []) ⟨hx, hb, hml, hown, hts⟩ (met_X3_told l dC dI cI cW X Bk Br d r n ch pd pr yr Wd 0 0 0 0 0 (fun _ _ => 0) _ hn hok j 8 hjn (by omega) hi hi0) (cwV 2 hts gL_law_X3_told rfl rfl rfl (by decide +kernel) ⟨Nat.le_of_ble_eq_true rfl, Nat.le_of_ble_eq_true rfl⟩) hKK hP 3 27 rfl cw_obj rfl hl.1 (Nat.le_of_ble_eq_true rfl) rfl dL_law_283 ⟨by show _ ≤ 600130; omega, by show _ ≤ 7301080; omega⟩) (fun r_43 hr_43 => ?_)
                    subst hr_43
                    rw [show (tellS d r (Wd j) 8 : Int32) = backS d r (Wd j) from rfl]
                    refine lv_if_ne (tgt := 301) hx hb dL_law_286 (by decide) (fun c_45 => ?_) (fun c_45 => ?_)
                    · exact absurd (back_0 hsi) c_45
                    · refine lv_aload_n hx hb dL_law_289 rfl (lv_at hl 13 rfl) ?_
                      refine lv_iload hx hb dL_law_290 (lv_at hl 0 rfl) ?_
                      refine lv_bipush (v := 7) hx hb dL_law_292 (by decide) ?_
                      refine rd_i (runV0 (As := [.int (nI j), .int 7]) (rest := []) ⟨hx, hb, hml, hown, hts⟩ (met_X3_told l dC dI cI cW X Bk Br d r n ch pd pr yr Wd 0 0 0 0 0 (fun _ _ => 0) _ hn hok j 7 hjn (by omega) hi hi0) (cwV 2 hts gL_law_X3_told rfl rfl rfl (by decide +kernel) ⟨Nat.le_of_ble_eq_true rfl, Nat.le_of_ble_eq_true rfl⟩) hKK hP 3 27 rfl cw_obj rfl hl.1 (Nat.le_of_ble_eq_true rfl) rfl dL_law_294 ⟨by show _ ≤ 600130; omega, by show _ ≤ 7301080; omega⟩) (fun r_46 hr_46 => ?_)
                      subst hr_46
                      rw [show (tellS d r (Wd j) 7 : Int32) = Wd j 6 from rfl]
                      refine lv_iconst (v := 1) hx hb dL_law_297 (by decide) ?_
                      refine lv_icmp_ge (tgt := 303) hx hb dL_law_298 (by decide) (fun c_48 => ?_) (fun c_48 => ?_)
                      · refine lv_iinc (v := (nI (j + 1))) (lv' := [(14, .int (nI (j + 1))), (13, .int (sm (dueF Wd) (j + 1))), (12, .ref o4), (11, .ref o3), (10, .ref o2), (9, .ref o1), (8, .int yr), (7, .int pd), (6, .int ch), (5, .int (nI n)), (4, .int xx), (3, .int (nI t)), (0, .ref b), (1, .ref (X 0)), (2, .ref (Y 0))]) hx hb dL_law_303 hl (k := 0) rfl (nI_1 j) (by decide) rfl (fun ls hl => ?_)
                        refine lv_goto (tgt := 122) hx hb dL_law_306 (by decide) ?_
                        exact ih (j + 1) (by omega) H locs hP hD hS ls (lv_sub hl [0, 1, 2, 3, 4, 5, 6, 7, 8, 9, 10, 11, 12, 13, 14] rfl)
                      · exact absurd (hI.2 j hjn).1 c_48
      refine lv_iload hx hb dL_law_122 (lv_at hl 0 rfl) ?_
      refine lv_iload hx hb dL_law_124 (lv_at hl 9 rfl) ?_
      refine lv_icmp_ge (tgt := 309) hx hb dL_law_126 (by decide) (fun c_1 => ?_) (fun c_1 => ?_)
      · exact absurd c_1 (fun q9 => absurd ((le_nI (by omega)).mp q9) (by omega))
      · refine lv_aload hx hb dL_law_129 (lv_at hl 3 rfl) ?_
        refine lv_iload hx hb dL_law_131 (lv_at hl 0 rfl) ?_
        refine lv_aload_n hx hb dL_law_133 rfl (lv_at hl 13 rfl) ?_
        refine lv_iload hx hb dL_law_134 (lv_at hl 0 rfl) ?_
        refine lv_iconst (v := 0) hx hb dL_law_136 (by decide) ?_
        refine rd_i (runV0 (As := [.int (nI j), .int 0]) (rest := [.int (nI j), .ref o3]) ⟨hx, hb, hml, hown, hts⟩ (met_X3_told l dC dI cI cW X Bk Br d r n ch pd pr yr Wd 0 0 0 0 0 (fun _ _ => 0) _ hn hok j 0 hjn (by omega) hi hi0) (cwV 2 hts gL_law_X3_told rfl rfl rfl (by decide +kernel) ⟨Nat.le_of_ble_eq_true rfl, Nat.le_of_ble_eq_true rfl⟩) hKK hP 3 27 rfl cw_obj rfl hl.1 (Nat.le_of_ble_eq_true rfl) rfl dL_law_137 ⟨by show _ ≤ 600130; omega, by show _ ≤ 7301080; omega⟩) (fun r_2 hr_2 => ?_)
        subst hr_2
        rw [show (tellS d r (Wd j) 0 : Int32) = Wd j 0 from rfl]
        refine va_iast hx hb hKK.1 hP hD hS (27 + 2) 0 (cw_at (k := 2) rfl) rfl (vp_in_nI hjn (by omega)) dL_law_140 (fun H locs hP hD hS => ?_)
        rw [clamp_nI (show j < 2147483648 by omega), cw_aset] at hP hD
        rw [msk_s (fun k => Wd k 0) j] at hP hD
        have hP : va_P (dC, dI) vwCl (tab cI X d r ++ (bk cW X Bk n ch pd pr yr Wd ++ (bk cW X Br 0 0 0 0 0 (fun _ _ => 0) ++ (obj X Bk Br :: ([(o4, .inl (cI, n, .inl (msk (fun k => Wd k 4) j))), (o3, .inl (cI, n, .inl (msk (fun k => Wd k 0) (j + 1)))), (o2, .inl (cI, n, .inl (msk (fun k => Wd k 5) j))), (o1, .inl (cI, n, .inl (msk (fun k => Wd k 2) j)))] ++ (si cI cV Y Ya V n d r ch pd yr Wd ++ [])))))) H := hP
        have hD : va_D A (tab cI X d r ++ (bk cW X Bk n ch pd pr yr Wd ++ (bk cW X Br 0 0 0 0 0 (fun _ _ => 0) ++ (obj X Bk Br :: ([(o4, .inl (cI, n, .inl (msk (fun k => Wd k 4) j))), (o3, .inl (cI, n, .inl (msk (fun k => Wd k 0) (j + 1)))), (o2, .inl (cI, n, .inl (msk (fun k => Wd k 5) j))), (o1, .inl (cI, n, .inl (msk (fun k => Wd k 2) j)))] ++ (si cI cV Y Ya V n d r ch pd yr Wd ++ [])))))) := hD
        refine lv_aload hx hb dL_law_141 (lv_at hl 5 rfl) ?_
        refine lv_iload hx hb dL_law_143 (lv_at hl 0 rfl) ?_
        refine lv_aload_n hx hb dL_law_145 rfl (lv_at hl 13 rfl) ?_
        refine lv_iload hx hb dL_law_146 (lv_at hl 0 rfl) ?_
        refine lv_iconst (v := 2) hx hb dL_law_148 (by decide) ?_
        refine rd_i (runV0 (As := [.int (nI j), .int 2]) (rest := [.int (nI j), .ref o1]) ⟨hx, hb, hml, hown, hts⟩ (met_X3_told l dC dI cI cW X Bk Br d r n ch pd pr yr Wd 0 0 0 0 0 (fun _ _ => 0) _ hn hok j 2 hjn (by omega) hi hi0) (cwV 2 hts gL_law_X3_told rfl rfl rfl (by decide +kernel) ⟨Nat.le_of_ble_eq_true rfl, Nat.le_of_ble_eq_true rfl⟩) hKK hP 3 27 rfl cw_obj rfl hl.1 (Nat.le_of_ble_eq_true rfl) rfl dL_law_149 ⟨by show _ ≤ 600130; omega, by show _ ≤ 7301080; omega⟩) (fun r_4 hr_4 => ?_)
        subst hr_4
        rw [show (tellS d r (Wd j) 2 : Int32) = Wd j 2 from rfl]
        refine va_iast hx hb hKK.1 hP hD hS (27 + 4) 0 (cw_at (k := 4) rfl) rfl (vp_in_nI hjn (by omega)) dL_law_152 (fun H locs hP hD hS => ?_)
        rw [clamp_nI (show j < 2147483648 by omega), cw_aset] at hP hD
        rw [msk_s (fun k => Wd k 2) j] at hP hD
        have hP : va_P (dC, dI) vwCl (tab cI X d r ++ (bk cW X Bk n ch pd pr yr Wd ++ (bk cW X Br 0 0 0 0 0 (fun _ _ => 0) ++ (obj X Bk Br :: ([(o4, .inl (cI, n, .inl (msk (fun k => Wd k 4) j))), (o3, .inl (cI, n, .inl (msk (fun k => Wd k 0) (j + 1)))), (o2, .inl (cI, n, .inl (msk (fun k => Wd k 5) j))), (o1, .inl (cI, n, .inl (msk (fun k => Wd k 2) (j + 1))))] ++ (si cI cV Y Ya V n d r ch pd yr Wd ++ [])))))) H := hP
        have hD : va_D A (tab cI X d r ++ (bk cW X Bk n ch pd pr yr Wd ++ (bk cW X Br 0 0 0 0 0 (fun _ _ => 0) ++ (obj X Bk Br :: ([(o4, .inl (cI, n, .inl (msk (fun k => Wd k 4) j))), (o3, .inl (cI, n, .inl (msk (fun k => Wd k 0) (j + 1)))), (o2, .inl (cI, n, .inl (msk (fun k => Wd k 5) j))), (o1, .inl (cI, n, .inl (msk (fun k => Wd k 2) (j + 1))))] ++ (si cI cV Y Ya V n d r ch pd yr Wd ++ [])))))) := hD
        refine lv_aload hx hb dL_law_153 (lv_at hl 2 rfl) ?_
        refine lv_iload hx hb dL_law_155 (lv_at hl 0 rfl) ?_
        refine lv_aload_n hx hb dL_law_157 rfl (lv_at hl 13 rfl) ?_
        refine lv_iload hx hb dL_law_158 (lv_at hl 0 rfl) ?_
        refine lv_iconst (v := 4) hx hb dL_law_160 (by decide) ?_
        refine rd_i (runV0 (As := [.int (nI j), .int 4]) (rest := [.int (nI j), .ref o4]) ⟨hx, hb, hml, hown, hts⟩ (met_X3_told l dC dI cI cW X Bk Br d r n ch pd pr yr Wd 0 0 0 0 0 (fun _ _ => 0) _ hn hok j 4 hjn (by omega) hi hi0) (cwV 2 hts gL_law_X3_told rfl rfl rfl (by decide +kernel) ⟨Nat.le_of_ble_eq_true rfl, Nat.le_of_ble_eq_true rfl⟩) hKK hP 3 27 rfl cw_obj rfl hl.1 (Nat.le_of_ble_eq_true rfl) rfl dL_law_161 ⟨by show _ ≤ 600130; omega, by show _ ≤ 7301080; omega⟩) (fun r_6 hr_6 => ?_)
        subst hr_6
        rw [show (tellS d r (Wd j) 4 : Int32) = Wd j 4 from rfl]
        refine va_iast hx hb hKK.1 hP hD hS (27 + 1) 0 (cw_at (k := 1) rfl) rfl (vp_in_nI hjn (by omega)) dL_law_164 (fun H locs hP hD hS => ?_)
        rw [clamp_nI (show j < 2147483648 by omega), cw_aset] at hP hD
        rw [msk_s (fun k => Wd k 4) j] at hP hD
        have hP : va_P (dC, dI) vwCl (tab cI X d r ++ (bk cW X Bk n ch pd pr yr Wd ++ (bk cW X Br 0 0 0 0 0 (fun _ _ => 0) ++ (obj X Bk Br :: ([(o4, .inl (cI, n, .inl (msk (fun k => Wd k 4) (j + 1)))), (o3, .inl (cI, n, .inl (msk (fun k => Wd k 0) (j + 1)))), (o2, .inl (cI, n, .inl (msk (fun k => Wd k 5) j))), (o1, .inl (cI, n, .inl (msk (fun k => Wd k 2) (j + 1))))] ++ (si cI cV Y Ya V n d r ch pd yr Wd ++ [])))))) H := hP
        have hD : va_D A (tab cI X d r ++ (bk cW X Bk n ch pd pr yr Wd ++ (bk cW X Br 0 0 0 0 0 (fun _ _ => 0) ++ (obj X Bk Br :: ([(o4, .inl (cI, n, .inl (msk (fun k => Wd k 4) (j + 1)))), (o3, .inl (cI, n, .inl (msk (fun k => Wd k 0) (j + 1)))), (o2, .inl (cI, n, .inl (msk (fun k => Wd k 5) j))), (o1, .inl (cI, n, .inl (msk (fun k => Wd k 2) (j + 1))))] ++ (si cI cV Y Ya V n d r ch pd yr Wd ++ [])))))) := hD
        refine lv_aload hx hb dL_law_165 (lv_at hl 4 rfl) ?_
        refine lv_iload hx hb dL_law_167 (lv_at hl 0 rfl) ?_
        refine lv_aload_n hx hb dL_law_169 rfl (lv_at hl 13 rfl) ?_
        refine lv_iload hx hb dL_law_170 (lv_at hl 0 rfl) ?_
        refine lv_bipush (v := 6) hx hb dL_law_172 (by decide) ?_
        refine rd_i (runV0 (As := [.int (nI j), .int 6]) (rest := [.int (nI j), .ref o2]) ⟨hx, hb, hml, hown, hts⟩ (met_X3_told l dC dI cI cW X Bk Br d r n ch pd pr yr Wd 0 0 0 0 0 (fun _ _ => 0) _ hn hok j 6 hjn (by omega) hi hi0) (cwV 2 hts gL_law_X3_told rfl rfl rfl (by decide +kernel) ⟨Nat.le_of_ble_eq_true rfl, Nat.le_of_ble_eq_true rfl⟩) hKK hP 3 27 rfl cw_obj rfl hl.1 (Nat.le_of_ble_eq_true rfl) rfl dL_law_174 ⟨by show _ ≤ 600130; omega, by show _ ≤ 7301080; omega⟩) (fun r_8 hr_8 => ?_)
        subst hr_8
        rw [show (tellS d r (Wd j) 6 : Int32) = Wd j 5 from rfl]
        refine va_iast hx hb hKK.1 hP hD hS (27 + 3) 0 (cw_at (k := 3) rfl) rfl (vp_in_nI hjn (by omega)) dL_law_177 (fun H locs hP hD hS => ?_)
        rw [clamp_nI (show j < 2147483648 by omega), cw_aset] at hP hD
        rw [msk_s (fun k => Wd k 5) j] at hP hD
        have hP : va_P (dC, dI) vwCl (tab cI X d r ++ (bk cW X Bk n ch pd pr yr Wd ++ (bk cW X Br 0 0 0 0 0 (fun _ _ => 0) ++ (obj X Bk Br :: ([(o4, .inl (cI, n, .inl (msk (fun k => Wd k 4) (j + 1)))), (o3, .inl (cI, n, .inl (msk (fun k => Wd k 0) (j + 1)))), (o2, .inl (cI, n, .inl (msk (fun k => Wd k 5) (j + 1)))), (o1, .inl (cI, n, .inl (msk (fun k => Wd k 2) (j + 1))))] ++ (si cI cV Y Ya V n d r ch pd yr Wd ++ [])))))) H := hP
        have hD : va_D A (tab cI X d r ++ (bk cW X Bk n ch pd pr yr Wd ++ (bk cW X Br 0 0 0 0 0 (fun _ _ => 0) ++ (obj X Bk Br :: ([(o4, .inl (cI, n, .inl (msk (fun k => Wd k 4) (j + 1)))), (o3, .inl (cI, n, .inl (msk (fun k => Wd k 0) (j + 1)))), (o2, .inl (cI, n, .inl (msk (fun k => Wd k 5) (j + 1)))), (o1, .inl (cI, n, .inl (msk (fun k => Wd k 2) (j + 1))))] ++ (si cI cV Y Ya V n d r ch pd yr Wd ++ [])))))) := hD
        refine lv_iload hx hb dL_law_178 (lv_at hl 1 rfl) ?_
        refine lv_aload hx hb dL_law_180 (lv_at hl 2 rfl) ?_
        refine lv_iload hx hb dL_law_182 (lv_at hl 0 rfl) ?_
        refine va_iald hx hb hKK.1 hP (27 + 1) 0 (cw_at (k := 1) rfl) rfl (vp_in_nI hjn (by omega)) dL_law_184 ?_
        rw [show (msk (fun k => Wd k 4) (j + 1)) (nI j).toNatClampNeg = (msk (fun k => Wd k 4) (j + 1)) j from congrArg (msk (fun k => Wd k 4) (j + 1)) (clamp_nI (by omega))]
        rw [show ((msk (fun k => Wd k 4) (j + 1)) j : Int32) = Wd j 4 from msk_at _ (Nat.lt_succ_self j)]
        refine lv_if_ne (tgt := 206) hx hb dL_law_185 (by decide) (fun c_11 => ?_) (fun c_11 => ?_)
        · have hal : ¬ Wd j 4 = 0 := c_11
          refine lv_iconst (v := 0) hx hb dL_law_206 (by decide) ?_
          refine lv_iadd hx hb dL_law_207 ?_
          rw [show ((sm (dueF Wd) j) + 0 : Int32) = sm (dueF Wd) (j + 1) from by simp [sm, dueF, hal]]
          refine lv_istore (lv' := [(13, .int (sm (dueF Wd) (j + 1))), (14, .int (nI j)), (12, .ref o4), (11, .ref o3), (10, .ref o2), (9, .ref o1), (8, .int yr), (7, .int pd), (6, .int ch), (5, .int (nI n)), (4, .int xx), (3, .int (nI t)), (0, .ref b), (1, .ref (X 0)), (2, .ref (Y 0))]) hx hb dL_law_208 hl (by decide) rfl (fun ls hl => ?_)
          exact chk H locs hP hD hS ls (lv_sub hl [1, 0, 2, 3, 4, 5, 6, 7, 8, 9, 10, 11, 12, 13, 14] rfl)
        · have hal : Wd j 4 = 0 := c_11
          refine lv_aload hx hb dL_law_188 (lv_at hl 5 rfl) ?_
          refine lv_iload hx hb dL_law_190 (lv_at hl 0 rfl) ?_
          refine va_iald hx hb hKK.1 hP (27 + 4) 0 (cw_at (k := 4) rfl) rfl (vp_in_nI hjn (by omega)) dL_law_192 ?_
          rw [show (msk (fun k => Wd k 2) (j + 1)) (nI j).toNatClampNeg = (msk (fun k => Wd k 2) (j + 1)) j from congrArg (msk (fun k => Wd k 2) (j + 1)) (clamp_nI (by omega))]
          rw [show ((msk (fun k => Wd k 2) (j + 1)) j : Int32) = Wd j 2 from msk_at _ (Nat.lt_succ_self j)]
          refine lv_if_ne (tgt := 206) hx hb dL_law_193 (by decide) (fun c_14 => ?_) (fun c_14 => ?_)
          · have hwz : ¬ Wd j 2 = 0 := c_14
            refine lv_iconst (v := 0) hx hb dL_law_206 (by decide) ?_
            refine lv_iadd hx hb dL_law_207 ?_
            rw [show ((sm (dueF Wd) j) + 0 : Int32) = sm (dueF Wd) (j + 1) from by simp [sm, dueF, hal, hwz]]
            refine lv_istore (lv' := [(13, .int (sm (dueF Wd) (j + 1))), (14, .int (nI j)), (12, .ref o4), (11, .ref o3), (10, .ref o2), (9, .ref o1), (8, .int yr), (7, .int pd), (6, .int ch), (5, .int (nI n)), (4, .int xx), (3, .int (nI t)), (0, .ref b), (1, .ref (X 0)), (2, .ref (Y 0))]) hx hb dL_law_208 hl (by decide) rfl (fun ls hl => ?_)
            exact chk H locs hP hD hS ls (lv_sub hl [1, 0, 2, 3, 4, 5, 6, 7, 8, 9, 10, 11, 12, 13, 14] rfl)
          · have hwz : Wd j 2 = 0 := c_14
            refine lv_aload_n hx hb dL_law_196 rfl (lv_at hl 13 rfl) ?_
            refine lv_iload hx hb dL_law_197 (lv_at hl 0 rfl) ?_
            refine lv_iconst (v := 1) hx hb dL_law_199 (by decide) ?_
            refine rd_i (runV0 (As := [.int (nI j), .int 1]) (rest := [.int (sm (dueF Wd) j)]) ⟨hx, hb, hml, hown, hts⟩ (met_X3_told l dC dI cI cW X Bk Br d r n ch pd pr yr Wd 0 0 0 0 0 (fun _ _ => 0) _ hn hok j 1 hjn (by omega) hi hi0) (cwV 2 hts gL_law_X3_told rfl rfl rfl (by decide +kernel) ⟨Nat.le_of_ble_eq_true rfl, Nat.le_of_ble_eq_true rfl⟩) hKK hP 3 27 rfl cw_obj rfl hl.1 (Nat.le_of_ble_eq_true rfl) rfl dL_law_200 ⟨by show _ ≤ 600130; omega, by show _ ≤ 7301080; omega⟩) (fun r_16 hr_16 => ?_)
            subst hr_16
            rw [show (tellS d r (Wd j) 1 : Int32) = Wd j 1 from rfl]
            refine lv_goto (tgt := 207) hx hb dL_law_203 (by decide) ?_
            refine lv_iadd hx hb dL_law_207 ?_
            rw [show ((sm (dueF Wd) j) + (Wd j 1) : Int32) = sm (dueF Wd) (j + 1) from by simp [sm, dueF, hal, hwz]]
            refine lv_istore (lv' := [(13, .int (sm (dueF Wd) (j + 1))), (14, .int (nI j)), (12, .ref o4), (11, .ref o3), (10, .ref o2), (9, .ref o1), (8, .int yr), (7, .int pd), (6, .int ch), (5, .int (nI n)), (4, .int xx), (3, .int (nI t)), (0, .ref b), (1, .ref (X 0)), (2, .ref (Y 0))]) hx hb dL_law_208 hl (by decide) rfl (fun ls hl => ?_)
            exact chk H locs hP hD hS ls (lv_sub hl [1, 0, 2, 3, 4, 5, 6, 7, 8, 9, 10, 11, 12, 13, 14] rfl)
  refine lv_aload_n hx hb dL_law_63 rfl (lv_at hl 3 rfl) ?_
  refine lv_iconst (v := 1) hx hb dL_law_64 (by decide) ?_
  refine rd_i (runV0 (As := [.int 1]) (rest := []) ⟨hx, hb, hml, hown, hts⟩ (met_X3_count l dC dI cI cW X Bk Br d r n ch pd pr yr Wd 0 0 0 0 0 (fun _ _ => 0) _ hn hok 1 (by omega) hi hi0) (cwV 1 hts gL_law_X3_count rfl rfl rfl (by decide +kernel) ⟨Nat.le_of_ble_eq_true rfl, Nat.le_of_ble_eq_true rfl⟩) hKK hP 3 27 rfl cw_obj rfl hl.1 (Nat.le_of_ble_eq_true rfl) rfl dL_law_65 ⟨by show _ ≤ 600130; omega, by show _ ≤ 7301080; omega⟩) (fun r_1 hr_1 => ?_)
  rw [hr_1]
  rw [show (countS d r n ch pd pr yr Wd 1 : Int32) = nI n from rfl]
  refine lv_istore (lv' := [(5, .int (nI n)), (4, .int xx), (3, .int (nI t)), (0, .ref b), (1, .ref (X 0)), (2, .ref (Y 0))]) hx hb dL_law_68 hl (by decide) rfl (fun ls hl => ?_)
  refine lv_aload_n hx hb dL_law_70 rfl (lv_at hl 4 rfl) ?_
  refine lv_iconst (v := 3) hx hb dL_law_71 (by decide) ?_
  refine rd_i (runV0 (As := [.int 3]) (rest := []) ⟨hx, hb, hml, hown, hts⟩ (met_X3_count l dC dI cI cW X Bk Br d r n ch pd pr yr Wd 0 0 0 0 0 (fun _ _ => 0) _ hn hok 3 (by omega) hi hi0) (cwV 1 hts gL_law_X3_count rfl rfl rfl (by decide +kernel) ⟨Nat.le_of_ble_eq_true rfl, Nat.le_of_ble_eq_true rfl⟩) hKK hP 3 27 rfl cw_obj rfl hl.1 (Nat.le_of_ble_eq_true rfl) rfl dL_law_72 ⟨by show _ ≤ 600130; omega, by show _ ≤ 7301080; omega⟩) (fun r_3 hr_3 => ?_)
  rw [hr_3]
  rw [show (countS d r n ch pd pr yr Wd 3 : Int32) = ch from rfl]
  refine lv_istore (lv' := [(6, .int ch), (5, .int (nI n)), (4, .int xx), (3, .int (nI t)), (0, .ref b), (1, .ref (X 0)), (2, .ref (Y 0))]) hx hb dL_law_75 hl (by decide) rfl (fun ls hl => ?_)
  refine lv_aload_n hx hb dL_law_77 rfl (lv_at hl 5 rfl) ?_
  refine lv_bipush (v := 7) hx hb dL_law_78 (by decide) ?_
  refine rd_i (runV0 (As := [.int 7]) (rest := []) ⟨hx, hb, hml, hown, hts⟩ (met_X3_count l dC dI cI cW X Bk Br d r n ch pd pr yr Wd 0 0 0 0 0 (fun _ _ => 0) _ hn hok 7 (by omega) hi hi0) (cwV 1 hts gL_law_X3_count rfl rfl rfl (by decide +kernel) ⟨Nat.le_of_ble_eq_true rfl, Nat.le_of_ble_eq_true rfl⟩) hKK hP 3 27 rfl cw_obj rfl hl.1 (Nat.le_of_ble_eq_true rfl) rfl dL_law_80 ⟨by show _ ≤ 600130; omega, by show _ ≤ 7301080; omega⟩) (fun r_5 hr_5 => ?_)
  rw [hr_5]
  rw [show (countS d r n ch pd pr yr Wd 7 : Int32) = pd from rfl]
  refine lv_istore (lv' := [(7, .int pd), (6, .int ch), (5, .int (nI n)), (4, .int xx), (3, .int (nI t)), (0, .ref b), (1, .ref (X 0)), (2, .ref (Y 0))]) hx hb dL_law_83 hl (by decide) rfl (fun ls hl => ?_)
  refine lv_aload_n hx hb dL_law_85 rfl (lv_at hl 6 rfl) ?_
  refine lv_iconst (v := 0) hx hb dL_law_86 (by decide) ?_
  refine rd_i (runV0 (As := [.int 0]) (rest := []) ⟨hx, hb, hml, hown, hts⟩ (met_X3_count l dC dI cI cW X Bk Br d r n ch pd pr yr Wd 0 0 0 0 0 (fun _ _ => 0) _ hn hok 0 (by omega) hi hi0) (cwV 1 hts gL_law_X3_count rfl rfl rfl (by decide +kernel) ⟨Nat.le_of_ble_eq_true rfl, Nat.le_of_ble_eq_true rfl⟩) hKK hP 3 27 rfl cw_obj rfl hl.1 (Nat.le_of_ble_eq_true rfl) rfl dL_law_87 ⟨by show _ ≤ 600130; omega, by show _ ≤ 7301080; omega⟩) (fun r_7 hr_7 => ?_)
  rw [hr_7]
  rw [show (countS d r n ch pd pr yr Wd 0 : Int32) = yr from rfl]
  refine lv_istore (lv' := [(8, .int yr), (7, .int pd), (6, .int ch), (5, .int (nI n)), (4, .int xx), (3, .int (nI t)), (0, .ref b), (1, .ref (X 0)), (2, .ref (Y 0))]) hx hb dL_law_90 hl (by decide) rfl (fun ls hl => ?_)
  refine lv_iload hx hb dL_law_92 (lv_at hl 3 rfl) ?_
  refine va_newa (atype := .int) (ty := .int) (a0 := (n, .inl (fun _ => 0))) (N' := n) hx hb (hts (.arrayClass .int) (by decide +kernel)) rfl hKK.1 hP hD hS hA (fun _ => rfl) (nI_pos (by omega)) (clamp_nI (by omega)) (by show n * 4 ≤ 536870912; omega) (by show _ ≤ 600130; omega) (by show _ ≤ 7301080; omega) dL_law_94 (fun o1 cA H hK2 hP hD hS => ?_)
  have hcA := cls_int hK2
  rw [hcA] at hP hD
  clear hK2 hcA
  have hP : va_P (dC, dI) vwCl (tab cI X d r ++ (bk cW X Bk n ch pd pr yr Wd ++ (bk cW X Br 0 0 0 0 0 (fun _ _ => 0) ++ (obj X Bk Br :: ([(o1, .inl (cI, n, .inl (fun _ => 0)))] ++ (si cI cV Y Ya V n d r ch pd yr Wd ++ [])))))) H := va_P_perm (pm_new _ _ _ _ _ _) hP
  have hD : va_D A (tab cI X d r ++ (bk cW X Bk n ch pd pr yr Wd ++ (bk cW X Br 0 0 0 0 0 (fun _ _ => 0) ++ (obj X Bk Br :: ([(o1, .inl (cI, n, .inl (fun _ => 0)))] ++ (si cI cV Y Ya V n d r ch pd yr Wd ++ [])))))) := va_D_perm (pm_new _ _ _ _ _ _) hD
  refine lv_astore (lv' := [(9, .ref o1), (8, .int yr), (7, .int pd), (6, .int ch), (5, .int (nI n)), (4, .int xx), (3, .int (nI t)), (0, .ref b), (1, .ref (X 0)), (2, .ref (Y 0))]) hx hb dL_law_96 hl (by decide) rfl (fun ls hl => ?_)
  refine lv_iload hx hb dL_law_98 (lv_at hl 4 rfl) ?_
  refine va_newa (atype := .int) (ty := .int) (a0 := (n, .inl (fun _ => 0))) (N' := n) hx hb (hts (.arrayClass .int) (by decide +kernel)) rfl hKK.1 hP hD hS hA (fun _ => rfl) (nI_pos (by omega)) (clamp_nI (by omega)) (by show n * 4 ≤ 536870912; omega) (by show _ ≤ 600130; omega) (by show _ ≤ 7301080; omega) dL_law_100 (fun o2 cA H hK2 hP hD hS => ?_)
  have hcA := cls_int hK2
  rw [hcA] at hP hD
  clear hK2 hcA
  have hP : va_P (dC, dI) vwCl (tab cI X d r ++ (bk cW X Bk n ch pd pr yr Wd ++ (bk cW X Br 0 0 0 0 0 (fun _ _ => 0) ++ (obj X Bk Br :: ([(o2, .inl (cI, n, .inl (fun _ => 0))), (o1, .inl (cI, n, .inl (fun _ => 0)))] ++ (si cI cV Y Ya V n d r ch pd yr Wd ++ [])))))) H := va_P_perm (pm_new _ _ _ _ _ _) hP
  have hD : va_D A (tab cI X d r ++ (bk cW X Bk n ch pd pr yr Wd ++ (bk cW X Br 0 0 0 0 0 (fun _ _ => 0) ++ (obj X Bk Br :: ([(o2, .inl (cI, n, .inl (fun _ => 0))), (o1, .inl (cI, n, .inl (fun _ => 0)))] ++ (si cI cV Y Ya V n d r ch pd yr Wd ++ [])))))) := va_D_perm (pm_new _ _ _ _ _ _) hD
  refine lv_astore (lv' := [(10, .ref o2), (9, .ref o1), (8, .int yr), (7, .int pd), (6, .int ch), (5, .int (nI n)), (4, .int xx), (3, .int (nI t)), (0, .ref b), (1, .ref (X 0)), (2, .ref (Y 0))]) hx hb dL_law_102 hl (by decide) rfl (fun ls hl => ?_)
  refine lv_iload hx hb dL_law_104 (lv_at hl 5 rfl) ?_
  refine va_newa (atype := .int) (ty := .int) (a0 := (n, .inl (fun _ => 0))) (N' := n) hx hb (hts (.arrayClass .int) (by decide +kernel)) rfl hKK.1 hP hD hS hA (fun _ => rfl) (nI_pos (by omega)) (clamp_nI (by omega)) (by show n * 4 ≤ 536870912; omega) (by show _ ≤ 600130; omega) (by show _ ≤ 7301080; omega) dL_law_106 (fun o3 cA H hK2 hP hD hS => ?_)
  have hcA := cls_int hK2
  rw [hcA] at hP hD
  clear hK2 hcA
  have hP : va_P (dC, dI) vwCl (tab cI X d r ++ (bk cW X Bk n ch pd pr yr Wd ++ (bk cW X Br 0 0 0 0 0 (fun _ _ => 0) ++ (obj X Bk Br :: ([(o3, .inl (cI, n, .inl (fun _ => 0))), (o2, .inl (cI, n, .inl (fun _ => 0))), (o1, .inl (cI, n, .inl (fun _ => 0)))] ++ (si cI cV Y Ya V n d r ch pd yr Wd ++ [])))))) H := va_P_perm (pm_new _ _ _ _ _ _) hP
  have hD : va_D A (tab cI X d r ++ (bk cW X Bk n ch pd pr yr Wd ++ (bk cW X Br 0 0 0 0 0 (fun _ _ => 0) ++ (obj X Bk Br :: ([(o3, .inl (cI, n, .inl (fun _ => 0))), (o2, .inl (cI, n, .inl (fun _ => 0))), (o1, .inl (cI, n, .inl (fun _ => 0)))] ++ (si cI cV Y Ya V n d r ch pd yr Wd ++ [])))))) := va_D_perm (pm_new _ _ _ _ _ _) hD
  refine lv_astore (lv' := [(11, .ref o3), (10, .ref o2), (9, .ref o1), (8, .int yr), (7, .int pd), (6, .int ch), (5, .int (nI n)), (4, .int xx), (3, .int (nI t)), (0, .ref b), (1, .ref (X 0)), (2, .ref (Y 0))]) hx hb dL_law_108 hl (by decide) rfl (fun ls hl => ?_)
  refine lv_iload hx hb dL_law_110 (lv_at hl 6 rfl) ?_
  refine va_newa (atype := .int) (ty := .int) (a0 := (n, .inl (fun _ => 0))) (N' := n) hx hb (hts (.arrayClass .int) (by decide +kernel)) rfl hKK.1 hP hD hS hA (fun _ => rfl) (nI_pos (by omega)) (clamp_nI (by omega)) (by show n * 4 ≤ 536870912; omega) (by show _ ≤ 600130; omega) (by show _ ≤ 7301080; omega) dL_law_112 (fun o4 cA H hK2 hP hD hS => ?_)
  have hcA := cls_int hK2
  rw [hcA] at hP hD
  clear hK2 hcA
  have hP : va_P (dC, dI) vwCl (tab cI X d r ++ (bk cW X Bk n ch pd pr yr Wd ++ (bk cW X Br 0 0 0 0 0 (fun _ _ => 0) ++ (obj X Bk Br :: ([(o4, .inl (cI, n, .inl (fun _ => 0))), (o3, .inl (cI, n, .inl (fun _ => 0))), (o2, .inl (cI, n, .inl (fun _ => 0))), (o1, .inl (cI, n, .inl (fun _ => 0)))] ++ (si cI cV Y Ya V n d r ch pd yr Wd ++ [])))))) H := va_P_perm (pm_new _ _ _ _ _ _) hP
  have hD : va_D A (tab cI X d r ++ (bk cW X Bk n ch pd pr yr Wd ++ (bk cW X Br 0 0 0 0 0 (fun _ _ => 0) ++ (obj X Bk Br :: ([(o4, .inl (cI, n, .inl (fun _ => 0))), (o3, .inl (cI, n, .inl (fun _ => 0))), (o2, .inl (cI, n, .inl (fun _ => 0))), (o1, .inl (cI, n, .inl (fun _ => 0)))] ++ (si cI cV Y Ya V n d r ch pd yr Wd ++ [])))))) := va_D_perm (pm_new _ _ _ _ _ _) hD
  refine lv_astore (lv' := [(12, .ref o4), (11, .ref o3), (10, .ref o2), (9, .ref o1), (8, .int yr), (7, .int pd), (6, .int ch), (5, .int (nI n)), (4, .int xx), (3, .int (nI t)), (0, .ref b), (1, .ref (X 0)), (2, .ref (Y 0))]) hx hb dL_law_114 hl (by decide) rfl (fun ls hl => ?_)
  refine lv_iconst (v := 0) hx hb dL_law_116 (by decide) ?_
  refine lv_istore (lv' := [(13, .int 0), (12, .ref o4), (11, .ref o3), (10, .ref o2), (9, .ref o1), (8, .int yr), (7, .int pd), (6, .int ch), (5, .int (nI n)), (4, .int xx), (3, .int (nI t)), (0, .ref b), (1, .ref (X 0)), (2, .ref (Y 0))]) hx hb dL_law_117 hl (by decide) rfl (fun ls hl => ?_)
  refine lv_iconst (v := 0) hx hb dL_law_119 (by decide) ?_
  refine lv_istore (lv' := [(14, .int 0), (13, .int 0), (12, .ref o4), (11, .ref o3), (10, .ref o2), (9, .ref o1), (8, .int yr), (7, .int pd), (6, .int ch), (5, .int (nI n)), (4, .int xx), (3, .int (nI t)), (0, .ref b), (1, .ref (X 0)), (2, .ref (Y 0))]) hx hb dL_law_120 hl (by decide) rfl (fun ls hl => ?_)
  refine W.widen (k := 136 + 8 * t) (n := 1181 + 74 * t) (by omega) (by omega) ?_
  have hP : va_P (dC, dI) vwCl (tab cI X d r ++ (bk cW X Bk n ch pd pr yr Wd ++ (bk cW X Br 0 0 0 0 0 (fun _ _ => 0) ++ (obj X Bk Br :: ([(o4, .inl (cI, n, .inl (msk (fun k => Wd k 4) 0))), (o3, .inl (cI, n, .inl (msk (fun k => Wd k 0) 0))), (o2, .inl (cI, n, .inl (msk (fun k => Wd k 5) 0))), (o1, .inl (cI, n, .inl (msk (fun k => Wd k 2) 0)))] ++ (si cI cV Y Ya V n d r ch pd yr Wd ++ [])))))) H := by rw [msk_0, msk_0, msk_0, msk_0]; exact hP
  have hD : va_D A (tab cI X d r ++ (bk cW X Bk n ch pd pr yr Wd ++ (bk cW X Br 0 0 0 0 0 (fun _ _ => 0) ++ (obj X Bk Br :: ([(o4, .inl (cI, n, .inl (msk (fun k => Wd k 4) 0))), (o3, .inl (cI, n, .inl (msk (fun k => Wd k 0) 0))), (o2, .inl (cI, n, .inl (msk (fun k => Wd k 5) 0))), (o1, .inl (cI, n, .inl (msk (fun k => Wd k 2) 0)))] ++ (si cI cV Y Ya V n d r ch pd yr Wd ++ [])))))) := by rw [msk_0, msk_0, msk_0, msk_0]; exact hD
  exact key o1 o2 o3 o4 n 0 (by omega) _ _ hP hD hS ls (lv_sub hl [0, 1, 2, 3, 4, 5, 6, 7, 8, 9, 10, 11, 12, 13, 14] rfl)
set_option maxHeartbeats 4000000 in
set_option maxRecDepth 100000 in
theorem law_t0 {p : Program} {l : Launch} {e : Env} {s : State} {m : MethodId} {below : List Frame} {meth : Method} {c : Code} {b L : Nat} {xs : Nat → Int32} {dC : Nat → ClassId} {dI : Nat → Nat → Nat} {cI cW cV : ClassId} {X Bk Br Y : Nat → Nat} {Ya : Nat} {V : Nat → Nat} {d r : Nat → Int32} {n : Nat} {ch pd pr yr : Int32} {Wd : Nat → Nat → Int32} {A : Nat → Prop} {t : Nat} (C9 : LC p s m meth c b L xs dC dI cI cW cV) (hAe : A = NEW s.heap.size) (ht : t < 30) (hI : Inv2 (60 + 2 * t) d r n ch pr Wd) (K : LOOP p l e s m below meth c b dC dI cI cW cV X Bk Br Y (t + 1)) {H : Heap} {locs : List Loc} (hP : va_P (dC, dI) vwCl (tab cI X d r ++ (bk cW X Bk n ch pd pr yr Wd ++ (bk cW X Br 0 0 0 0 0 (fun _ _ => 0) ++ (obj X Bk Br :: (si cI cV Y Ya V n d r ch pd yr Wd ++ []))))) H) (hD : va_D A (tab cI X d r ++ (bk cW X Bk n ch pd pr yr Wd ++ (bk cW X Br 0 0 0 0 0 (fun _ _ => 0) ++ (obj X Bk Br :: (si cI cV Y Ya V n d r ch pd yr Wd ++ [])))))) (hS : va_S A s.heap H locs) {ls : Array Slot} (hl : lv_has ls 20 [(3, .int (nI t)), (0, .ref b), (1, .ref (X 0)), (2, .ref (Y 0))]) : W p l e room_1 s m (#[Value.ref b]) below meth c H locs (130 + 8 * t) (1124 + 74 * t) (lw_Z below #[Value.ref b] s) (F0 m 22 ls []) := by
  obtain ⟨hx, hb, hr, hml, hown, hts, hlocks, hKS, hX, hbl, hL⟩ := C9
  have hKK := hKS.1
  have hKV := hKS.2.1
  have hn := hI.1.2.2.1
  have hok := hI.1.2.2.2.1
  have hi := hI.1.hi.1
  have hi0 := hI.1.hi.2
  have hA : ∀ q : Nat, s.heap.size ≤ q → A q := fun q h => by rw [hAe]; exact h
  have hbA : ¬ A b := by rw [hAe]; exact Nat.not_le.mpr hbl
  refine lv_iload_n hx hb dL_law_22 rfl (lv_at hl 0 rfl) ?_
  refine lv_bipush (v := 30) hx hb dL_law_23 (by decide) ?_
  refine lv_icmp_ge (tgt := 869) hx hb dL_law_25 (by decide) (fun c_1 => ?_) (fun c_1 => ?_)
  · exact absurd c_1 (fun q9 => absurd ((le_nI (a := 30) (by omega)).mp q9) (by omega))
  · refine lv_aload_n hx hb dL_law_28 rfl (lv_at hl 1 rfl) ?_
    refine lv_iload_n hx hb dL_law_29 rfl (lv_at hl 0 rfl) ?_
    refine lv_bipush (v := 16) hx hb dL_law_30 (by decide) ?_
    refine lv_irem hx hb dL_law_32 (by decide) ?_
    rw [show ((nI t) - (nI t) / 16 * 16 : Int32) = nI (t % 16) from pk_rem (d := 16) (by omega) (by omega) (by omega)]
    refine rd_i (runSX0 (As := [.ref b, .int (nI (t % 16))]) (rest := []) ⟨hx, hb, hml, hown, hts⟩ (met_L_cell l dC dI cI cW cV b L xs hL (t % 16) (by omega)) (va_cwS 2 hts gL_law_L_cell rfl rfl rfl (by decide +kernel) ⟨Nat.le_of_ble_eq_true rfl, Nat.le_of_ble_eq_true rfl⟩) hKS (hX.kept (hS.2.1 b hbl hbA)) (Nat.lt_of_lt_of_le hbl hS.1) rfl hl.1 (Nat.le_of_ble_eq_true rfl) rfl dL_law_33 ⟨by show _ ≤ 600130; omega, by show _ ≤ 7301080; omega⟩) (fun r_3 hr_3 => ?_)
    subst hr_3
    refine lv_iload_n hx hb dL_law_36 rfl (lv_at hl 0 rfl) ?_
    refine lv_bipush (v := 16) hx hb dL_law_37 (by decide) ?_
    refine lv_idiv hx hb dL_law_39 (by decide) ?_
    rw [show ((nI t) / 16 : Int32) = nI (t / 16) from pk_div (d := 16) (by omega) (by omega) (by omega)]
    refine lv_iconst (v := 3) hx hb dL_law_40 (by decide) ?_
    refine lv_imul hx hb dL_law_41 ?_
    rw [show ((nI (t / 16)) * 3 : Int32) = nI (t / 16 * 3) from pk_mul (t / 16) 3]
    refine lv_ishr hx hb dL_law_42 ?_
    refine lv_sipush (v := 409) hx hb dL_law_43 (by decide) ?_
    refine lv_iload_n hx hb dL_law_46 rfl (lv_at hl 0 rfl) ?_
    refine lv_imul hx hb dL_law_47 ?_
    refine lv_iadd hx hb dL_law_48 ?_
    refine lv_topi (fun xx exx => ?_)
    refine lv_istore (lv' := [(4, .int xx), (3, .int (nI t)), (0, .ref b), (1, .ref (X 0)), (2, .ref (Y 0))]) hx hb dL_law_49 hl (by decide) rfl (fun ls hl => ?_)
    refine lv_aload_n hx hb dL_law_51 rfl (lv_at hl 3 rfl) ?_
    refine lv_aload_n hx hb dL_law_52 rfl (lv_at hl 4 rfl) ?_
    refine lv_iload hx hb dL_law_53 (lv_at hl 0 rfl) ?_
    refine wr_iU (runS1S (As := [.ref (X 0), .ref (Y 0), .int xx]) (rest := []) ⟨hx, hb, hml, hown, hts⟩ (met_L_act l dC dI cI cW cV X Bk Br Y Ya V d r n ch pd pr yr Wd _ xx (60 + 2 * t) hI (by omega) _) (va_cwS 3 hts gL_law_L_act rfl rfl rfl (by decide +kernel) ⟨Nat.le_of_ble_eq_true rfl, Nat.le_of_ble_eq_true rfl⟩) hKS hP hD rfl hl.1 (Nat.le_of_ble_eq_true rfl) rfl dL_law_55 ⟨by show _ ≤ 600130; omega, by show _ ≤ 7301080; omega⟩) hD hS hA (fun u z9 H locs hz hP hD hS => ?_)
    obtain ⟨rfl, hG⟩ := hz
    obtain ⟨d, r, n, ch, pd, pr, yr, Wd, Ya, V⟩ := u
    refine lv_if_ne (tgt := 63) hx hb dL_law_58 (by decide) (fun c_7 => ?_) (fun c_7 => ?_)
    · refine W.widen (k := 132 + 8 * t) (n := 1141 + 74 * t) (by omega) (by omega) ?_
      exact law_t1 ⟨hx, hb, hr, hml, hown, hts, hlocks, hKS, hX, hbl, hL⟩ hAe ht hG K hP hD hS (lv_sub hl [0, 1, 2, 3, 4] rfl)
    · exact absurd c_7 (by decide)
