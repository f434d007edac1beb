set_option maxHeartbeats 4000000 in
set_option maxRecDepth 100000 in
theorem law_year {p : Program} {l : Launch} {e : Env} {s : State} {m : MethodId} {below : List Frame} {meth : Method} {c : Code} {b L : Nat} {xs : Nat → Int32} {dC : Nat → ClassId} {dI : Nat → Nat → Nat} {cI cW cV : ClassId} {X Bk Br Y : Nat → Nat} {Ya : Nat} {V : Nat → Nat} {d r : Nat → Int32} {n : Nat} {ch pd pr yr : Int32} {Wd : Nat → Nat → Int32} {A : Nat → Prop} {t : Nat} (C9 : LC p s m meth c b L xs dC dI cI cW cV) (hAe : A = NEW s.heap.size) (ht : t < 30) (hI : Inv2 (60 + 2 * t + 1) d r n ch pr Wd) (K : LOOP p l e s m below meth c b dC dI cI cW cV X Bk Br Y (t + 1)) {xx : Int32} {o1 o2 o3 o4 : Nat} {H : Heap} {locs : List Loc} (hP : va_P (dC, dI) vwCl (tab cI X d r ++ (bk cW X Bk n ch pd pr yr Wd ++ (bk cW X Br 0 0 0 0 0 (fun _ _ => 0) ++ (obj X Bk Br :: ([(o4, .inl (cI, n, .inl (msk (fun k => Wd k 4) n))), (o3, .inl (cI, n, .inl (msk (fun k => Wd k 0) n))), (o2, .inl (cI, n, .inl (msk (fun k => Wd k 5) n))), (o1, .inl (cI, n, .inl (msk (fun k => Wd k 2) n)))] ++ (si cI cV Y Ya V n d r ch pd yr Wd ++ [])))))) H) (hD : va_D A (tab cI X d r ++ (bk cW X Bk n ch pd pr yr Wd ++ (bk cW X Br 0 0 0 0 0 (fun _ _ => 0) ++ (obj X Bk Br :: ([(o4, .inl (cI, n, .inl (msk (fun k => Wd k 4) n))), (o3, .inl (cI, n, .inl (msk (fun k => Wd k 0) n))), (o2, .inl (cI, n, .inl (msk (fun k => Wd k 5) n))), (o1, .inl (cI, n, .inl (msk (fun k => Wd k 2) n)))] ++ (si cI cV Y Ya V n d r ch pd yr Wd ++ []))))))) (hS : va_S A s.heap H locs) {ls : Array Slot} (hl : lv_has ls 20 [(12, .ref o4), (11, .ref o3), (10, .ref o2), (9, .ref o1), (8, .int yr), (7, .int pd), (6, .int ch), (5, .int (nI n)), (4, .int xx), (3, .int (nI t)), (0, .ref b), (1, .ref (X 0)), (2, .ref (Y 0))]) : W p l e room_1 s m (#[Value.ref b]) below meth c H locs (136 + 8 * t) (1181 + 74 * t) (lw_Z below #[Value.ref b] s) (F0 m 606 ls []) := by
  obtain ⟨hx, hb, hr, hml, hown, hts, hlocks, hKS, hX, hbl, hL⟩ := C9
  have hKK := hKS.1
  have hKV := hKS.2.1
  have hn := hI.1.2.2.1
  have hok := hI.1.2.2.2.1
  have hi := hI.1.hi.1
  have hi0 := hI.1.hi.2
  have hA : ∀ q : Nat, s.heap.size ≤ q → A q := fun q h => by rw [hAe]; exact h
  have hbA : ¬ A b := by rw [hAe]; exact Nat.not_le.mpr hbl
  have hIy : Inv2 (60 + 2 * t + 1 + 1) d r n (intS (r 0) ch - sm (dueF Wd) n) pr (yW n Wd) := hI.years (pd := pd) (yr := yr) (show 60 + 2 * t + 1 ≤ 512 by omega) 1 (by omega)
  have hyr : intS (r 0) ch = (if 0 < ch then comeS ch (ch.toInt64 * (r 0).toInt64 / 1000) else ch) := (hI.1.years (pd := pd) (yr := yr) (show 60 + 2 * t + 1 ≤ 512 by omega)).1 0 (by omega)
  have hoky : ∀ k, k < n → okW (yW n Wd k) := okW_yW hok
  have tail : ∀ (H : Heap) (locs : List Loc), va_P (dC, dI) vwCl (tab cI X d r ++ (bk cW X Bk n (intS (r 0) ch - sm (dueF Wd) n) (pd + sm (dueF Wd) n) pr (yr + 1) (yW n Wd) ++ (bk cW X Br 0 0 0 0 0 (fun _ _ => 0) ++ (obj X Bk Br :: ([(o4, .inl (cI, n, .inl (msk (fun k => Wd k 4) n))), (o3, .inl (cI, n, .inl (msk (fun k => Wd k 0) n))), (o2, .inl (cI, n, .inl (msk (fun k => Wd k 5) n))), (o1, .inl (cI, n, .inl (msk (fun k => Wd k 2) n)))] ++ (si cI cV Y Ya V n d r (intS (r 0) ch - sm (dueF Wd) n) (pd + sm (dueF Wd) n) (yr + 1) (yW n Wd) ++ [])))))) H → va_D A (tab cI X d r ++ (bk cW X Bk n (intS (r 0) ch - sm (dueF Wd) n) (pd + sm (dueF Wd) n) pr (yr + 1) (yW n Wd) ++ (bk cW X Br 0 0 0 0 0 (fun _ _ => 0) ++ (obj X Bk Br :: ([(o4, .inl (cI, n, .inl (msk (fun k => Wd k 4) n))), (o3, .inl (cI, n, .inl (msk (fun k => Wd k 0) n))), (o2, .inl (cI, n, .inl (msk (fun k => Wd k 5) n))), (o1, .inl (cI, n, .inl (msk (fun k => Wd k 2) n)))] ++ (si cI cV Y Ya V n d r (intS (r 0) ch - sm (dueF Wd) n) (pd + sm (dueF Wd) n) (yr + 1) (yW n Wd) ++ [])))))) → va_S A s.heap H locs → ∀ ls : Array Slot, lv_has ls 20 [(15, .int (sm (dueF Wd) n)), (14, .int (sm (dueF Wd) n)), (12, .ref o4), (11, .ref o3), (10, .ref o2), (9, .ref o1), (8, .int yr), (7, .int pd), (6, .int ch), (5, .int (nI n)), (4, .int xx), (3, .int (nI t)), (0, .ref b), (1, .ref (X 0)), (2, .ref (Y 0))] → W p l e room_1 s m (#[Value.ref b]) below meth c H locs (136 + 8 * t) (1181 + 74 * t) (lw_Z below #[Value.ref b] s) (F0 m 805 ls []) := by
    intro H locs hP hD hS ls hl
    refine lv_iload hx hb dL_law_805 (lv_at hl 0 rfl) ?_
    refine lv_iload hx hb dL_law_807 (lv_at hl 1 rfl) ?_
    refine lv_icmp_ne (tgt := 861) hx hb dL_law_809 (by decide) (fun c_1 => ?_) (fun c_1 => ?_)
    · exact absurd rfl c_1
    · refine lv_aload_n hx hb dL_law_812 rfl (lv_at hl 13 rfl) ?_
      refine lv_bipush (v := 7) hx hb dL_law_813 (by decide) ?_
      refine rd_i (runV0 (As := [.int 7]) (rest := []) ⟨hx, hb, hml, hown, hts⟩ (met_X3_count l dC dI cI cW X Bk Br d r n (intS (r 0) ch - sm (dueF Wd) n) (pd + sm (dueF Wd) n) pr (yr + 1) (yW n Wd) 0 0 0 0 0 (fun _ _ => 0) _ hn hoky 7 (by omega) hi hi0) (cwV 1 hts gL_law_X3_count rfl rfl rfl (by decide +kernel) ⟨Nat.le_of_ble_eq_true rfl, Nat.le_of_ble_eq_true rfl⟩) hKK hP 3 27 rfl cw_obj rfl hl.1 (Nat.le_of_ble_eq_true rfl) rfl dL_law_815 ⟨by show _ ≤ 600130; omega, by show _ ≤ 7301080; omega⟩) (fun r_2 hr_2 => ?_)
      subst hr_2
      rw [show (countS d r n (intS (r 0) ch - sm (dueF Wd) n) (pd + sm (dueF Wd) n) pr (yr + 1) (yW n Wd) 7 : Int32) = pd + sm (dueF Wd) n from rfl]
      refine lv_iload hx hb dL_law_818 (lv_at hl 7 rfl) ?_
      refine lv_iload hx hb dL_law_820 (lv_at hl 1 rfl) ?_
      refine lv_iadd hx hb dL_law_822 ?_
      refine lv_icmp_ne (tgt := 861) hx hb dL_law_823 (by decide) (fun c_4 => ?_) (fun c_4 => ?_)
      · exact absurd rfl c_4
      · refine lv_aload_n hx hb dL_law_826 rfl (lv_at hl 13 rfl) ?_
        refine lv_iconst (v := 0) hx hb dL_law_827 (by decide) ?_
        refine rd_i (runV0 (As := [.int 0]) (rest := []) ⟨hx, hb, hml, hown, hts⟩ (met_X3_count l dC dI cI cW X Bk Br d r n (intS (r 0) ch - sm (dueF Wd) n) (pd + sm (dueF Wd) n) pr (yr + 1) (yW n Wd) 0 0 0 0 0 (fun _ _ => 0) _ hn hoky 0 (by omega) hi hi0) (cwV 1 hts gL_law_X3_count rfl rfl rfl (by decide +kernel) ⟨Nat.le_of_ble_eq_true rfl, Nat.le_of_ble_eq_true rfl⟩) hKK hP 3 27 rfl cw_obj rfl hl.1 (Nat.le_of_ble_eq_true rfl) rfl dL_law_828 ⟨by show _ ≤ 600130; omega, by show _ ≤ 7301080; omega⟩) (fun r_5 hr_5 => ?_)
        subst hr_5
        rw [show (countS d r n (intS (r 0) ch - sm (dueF Wd) n) (pd + sm (dueF Wd) n) pr (yr + 1) (yW n Wd) 0 : Int32) = yr + 1 from rfl]
        refine lv_iload hx hb dL_law_831 (lv_at hl 6 rfl) ?_
        refine lv_iconst (v := 1) hx hb dL_law_833 (by decide) ?_
        refine lv_iadd hx hb dL_law_834 ?_
        refine lv_icmp_ne (tgt := 861) hx hb dL_law_835 (by decide) (fun c_7 => ?_) (fun c_7 => ?_)
        · exact absurd rfl c_7
        · refine lv_aload_n hx hb dL_law_838 rfl (lv_at hl 13 rfl) ?_
          refine lv_iconst (v := 3) hx hb dL_law_839 (by decide) ?_
          refine rd_i (runV0 (As := [.int 3]) (rest := []) ⟨hx, hb, hml, hown, hts⟩ (met_X3_count l dC dI cI cW X Bk Br d r n (intS (r 0) ch - sm (dueF Wd) n) (pd + sm (dueF Wd) n) pr (yr + 1) (yW n Wd) 0 0 0 0 0 (fun _ _ => 0) _ hn hoky 3 (by omega) hi hi0) (cwV 1 hts gL_law_X3_count rfl rfl rfl (by decide +kernel) ⟨Nat.le_of_ble_eq_true rfl, Nat.le_of_ble_eq_true rfl⟩) hKK hP 3 27 rfl cw_obj rfl hl.1 (Nat.le_of_ble_eq_true rfl) rfl dL_law_840 ⟨by show _ ≤ 600130; omega, by show _ ≤ 7301080; omega⟩) (fun r_8 hr_8 => ?_)
          subst hr_8
          rw [show (countS d r n (intS (r 0) ch - sm (dueF Wd) n) (pd + sm (dueF Wd) n) pr (yr + 1) (yW n Wd) 3 : Int32) = intS (r 0) ch - sm (dueF Wd) n from rfl]
          refine lv_iload hx hb dL_law_843 (lv_at hl 8 rfl) ?_
          refine lv_iload hx hb dL_law_845 (lv_at hl 1 rfl) ?_
          refine lv_isub hx hb dL_law_847 ?_
          refine lv_icmp_lt (tgt := 861) hx hb dL_law_848 (by decide) (fun c_10 => ?_) (fun c_10 => ?_)
          · exact absurd c_10 (chest_le (show 60 + 2 * t + 1 ≤ 512 by omega) hI.1)
          · refine lv_aload_n hx hb dL_law_851 rfl (lv_at hl 13 rfl) ?_
            refine lv_iconst (v := 3) hx hb dL_law_852 (by decide) ?_
            refine rd_i (runV0 (As := [.int 3]) (rest := []) ⟨hx, hb, hml, hown, hts⟩ (met_X3_count l dC dI cI cW X Bk Br d r n (intS (r 0) ch - sm (dueF Wd) n) (pd + sm (dueF Wd) n) pr (yr + 1) (yW n Wd) 0 0 0 0 0 (fun _ _ => 0) _ hn hoky 3 (by omega) hi hi0) (cwV 1 hts gL_law_X3_count rfl rfl rfl (by decide +kernel) ⟨Nat.le_of_ble_eq_true rfl, Nat.le_of_ble_eq_true rfl⟩) hKK hP 3 27 rfl cw_obj rfl hl.1 (Nat.le_of_ble_eq_true rfl) rfl dL_law_853 ⟨by show _ ≤ 600130; omega, by show _ ≤ 7301080; omega⟩) (fun r_11 hr_11 => ?_)
            subst hr_11
            rw [show (countS d r n (intS (r 0) ch - sm (dueF Wd) n) (pd + sm (dueF Wd) n) pr (yr + 1) (yW n Wd) 3 : Int32) = intS (r 0) ch - sm (dueF Wd) n from rfl]
            refine lv_ldc (v := 99999999) hx hb hown (hts (.constant RL 137 99999999) (by decide +kernel)) dL_law_856 ?_
            refine lv_icmp_le (tgt := 863) hx hb dL_law_858 (by decide) (fun c_13 => ?_) (fun c_13 => ?_)
            · refine lv_iinc (v := (nI (t + 1))) (lv' := [(3, .int (nI (t + 1))), (15, .int (sm (dueF Wd) n)), (14, .int (sm (dueF Wd) n)), (12, .ref o4), (11, .ref o3), (10, .ref o2), (9, .ref o1), (8, .int yr), (7, .int pd), (6, .int ch), (5, .int (nI n)), (4, .int xx), (0, .ref b), (1, .ref (X 0)), (2, .ref (Y 0))]) hx hb dL_law_863 hl (k := 11) rfl (nI_1 t) (by decide) rfl (fun ls hl => ?_)
              refine lv_goto (tgt := 22) hx hb dL_law_866 (by decide) ?_
              have hP : va_P (dC, dI) vwCl (tab cI X d r ++ (bk cW X Bk n (intS (r 0) ch - sm (dueF Wd) n) (pd + sm (dueF Wd) n) pr (yr + 1) (yW n Wd) ++ (bk cW X Br 0 0 0 0 0 (fun _ _ => 0) ++ (obj X Bk Br :: (si cI cV Y Ya V n d r (intS (r 0) ch - sm (dueF Wd) n) (pd + sm (dueF Wd) n) (yr + 1) (yW n Wd) ++ []))))) _ := dropP hP
              have hD : va_D A (tab cI X d r ++ (bk cW X Bk n (intS (r 0) ch - sm (dueF Wd) n) (pd + sm (dueF Wd) n) pr (yr + 1) (yW n Wd) ++ (bk cW X Br 0 0 0 0 0 (fun _ _ => 0) ++ (obj X Bk Br :: (si cI cV Y Ya V n d r (intS (r 0) ch - sm (dueF Wd) n) (pd + sm (dueF Wd) n) (yr + 1) (yW n Wd) ++ []))))) := dropD hD
              refine W.widen (k := 130 + 8 * (t + 1)) (n := 1124 + 74 * (t + 1)) (by omega) (by omega) ?_
              have hP9 : va_P (dC, dI) vwCl (gW cI cW cV X Bk Br Y [] (d, r, n, intS (r 0) ch - sm (dueF Wd) n, pd + sm (dueF Wd) n, pr, yr + 1, yW n Wd, Ya, V)) _ := hP
              have hD9 : va_D A (gW cI cW cV X Bk Br Y [] (d, r, n, intS (r 0) ch - sm (dueF Wd) n, pd + sm (dueF Wd) n, pr, yr + 1, yW n Wd, Ya, V)) := hD
              exact K (d, r, n, intS (r 0) ch - sm (dueF Wd) n, pd + sm (dueF Wd) n, pr, yr + 1, yW n Wd, Ya, V) (GI.mono (by omega) (show GI (60 + 2 * t + 1 + 1) (d, r, n, intS (r 0) ch - sm (dueF Wd) n, pd + sm (dueF Wd) n, pr, yr + 1, yW n Wd, Ya, V) from hIy)) _ _ hP9 (hAe ▸ hD9) (hAe ▸ hS) ls (lv_sub hl [0, 12, 13, 14] rfl)
            · exact absurd (chest_max hIy.1) c_13
  have key : ∀ (H : Heap) (locs : List Loc), va_P (dC, dI) vwCl (tab cI X d r ++ (bk cW X Bk n (intS (r 0) ch - sm (dueF Wd) n) (pd + sm (dueF Wd) n) pr (yr + 1) (yW n Wd) ++ (bk cW X Br 0 0 0 0 0 (fun _ _ => 0) ++ (obj X Bk Br :: ([(o4, .inl (cI, n, .inl (msk (fun k => Wd k 4) n))), (o3, .inl (cI, n, .inl (msk (fun k => Wd k 0) n))), (o2, .inl (cI, n, .inl (msk (fun k => Wd k 5) n))), (o1, .inl (cI, n, .inl (msk (fun k => Wd k 2) n)))] ++ (si cI cV Y Ya V n d r (intS (r 0) ch - sm (dueF Wd) n) (pd + sm (dueF Wd) n) (yr + 1) (yW n Wd) ++ [])))))) H → va_D A (tab cI X d r ++ (bk cW X Bk n (intS (r 0) ch - sm (dueF Wd) n) (pd + sm (dueF Wd) n) pr (yr + 1) (yW n Wd) ++ (bk cW X Br 0 0 0 0 0 (fun _ _ => 0) ++ (obj X Bk Br :: ([(o4, .inl (cI, n, .inl (msk (fun k => Wd k 4) n))), (o3, .inl (cI, n, .inl (msk (fun k => Wd k 0) n))), (o2, .inl (cI, n, .inl (msk (fun k => Wd k 5) n))), (o1, .inl (cI, n, .inl (msk (fun k => Wd k 2) n)))] ++ (si cI cV Y Ya V n d r (intS (r 0) ch - sm (dueF Wd) n) (pd + sm (dueF Wd) n) (yr + 1) (yW n Wd) ++ [])))))) → va_S A s.heap H locs → ∀ (m9 j : Nat), j + m9 = n → ∀ ls : Array Slot, lv_has ls 20 [(16, .int (nI j)), (15, .int (sm (dueF Wd) j)), (14, .int (sm (dueF Wd) n)), (12, .ref o4), (11, .ref o3), (10, .ref o2), (9, .ref o1), (8, .int yr), (7, .int pd), (6, .int ch), (5, .int (nI n)), (4, .int xx), (3, .int (nI t)), (0, .ref b), (1, .ref (X 0)), (2, .ref (Y 0))] → W p l e room_1 s m (#[Value.ref b]) below meth c H locs (136 + 8 * t) (1181 + 74 * t) (lw_Z below #[Value.ref b] s) (F0 m 624 ls []) := by
    intro H locs hP hD hS m9
    induction m9 with
    | zero =>
      intro j hj ls hl
      have hjn : j = n := by omega
      refine lv_iload hx hb dL_law_624 (lv_at hl 0 rfl) ?_
      refine lv_iload hx hb dL_law_626 (lv_at hl 10 rfl) ?_
      refine lv_icmp_ge (tgt := 805) hx hb dL_law_628 (by decide) (fun c_1 => ?_) (fun c_1 => ?_)
      · exact tail H locs hP hD hS ls (hl_to (a := [(15, .int (sm (dueF Wd) j)), (14, .int (sm (dueF Wd) n)), (12, .ref o4), (11, .ref o3), (10, .ref o2), (9, .ref o1), (8, .int yr), (7, .int pd), (6, .int ch), (5, .int (nI n)), (4, .int xx), (3, .int (nI t)), (0, .ref b), (1, .ref (X 0)), (2, .ref (Y 0))]) (by rw [hjn]) (lv_sub hl [1, 2, 3, 4, 5, 6, 7, 8, 9, 10, 11, 12, 13, 14, 15] rfl))
      · exact absurd (by rw [hjn]; exact Int32.le_refl _) c_1
    | succ m9 ih =>
      intro j hj ls hl
      have hjn : j < n := by omega
      have hwt := (hI.2 j hjn).2
      refine lv_iload hx hb dL_law_624 (lv_at hl 0 rfl) ?_
      refine lv_iload hx hb dL_law_626 (lv_at hl 10 rfl) ?_
      refine lv_icmp_ge (tgt := 805) hx hb dL_law_628 (by decide) (fun c_1 => ?_) (fun c_1 => ?_)
      · exact absurd c_1 (fun q9 => absurd ((le_nI (by omega)).mp q9) (by omega))
      · refine lv_aload_n hx hb dL_law_631 rfl (lv_at hl 14 rfl) ?_
        refine lv_iload hx hb dL_law_632 (lv_at hl 0 rfl) ?_
        refine lv_bipush (v := 6) hx hb dL_law_634 (by decide) ?_
        refine rd_i (runV0 (As := [.int (nI j), .int 6]) (rest := []) ⟨hx, hb, hml, hown, hts⟩ (met_X3_told l dC dI cI cW X Bk Br d r n (intS (r 0) ch - sm (dueF Wd) n) (pd + sm (dueF Wd) n) pr (yr + 1) (yW n Wd) 0 0 0 0 0 (fun _ _ => 0) _ hn hoky j 6 hjn (by omega) hi hi0) (cwV 2 hts gL_law_X3_told rfl rfl rfl (by decide +kernel) ⟨Nat.le_of_ble_eq_true rfl, Nat.le_of_ble_eq_true rfl⟩) hKK hP 3 27 rfl cw_obj rfl hl.1 (Nat.le_of_ble_eq_true rfl) rfl dL_law_636 ⟨by show _ ≤ 600130; omega, by show _ ≤ 7301080; omega⟩) (fun r_2 hr_2 => ?_)
        subst hr_2
        rw [show (tellS d r ((yW n Wd) j) 6 : Int32) = yW n Wd j 5 from rfl]
        refine lv_aload hx hb dL_law_639 (lv_at hl 5 rfl) ?_
        refine lv_iload hx hb dL_law_641 (lv_at hl 0 rfl) ?_
        refine va_iald hx hb hKK.1 hP (27 + 3) 0 (cw_at (k := 3) rfl) rfl (vp_in_nI hjn (by omega)) dL_law_643 ?_
        rw [show (msk (fun k => Wd k 5) n) (nI j).toNatClampNeg = (msk (fun k => Wd k 5) n) j from congrArg (msk (fun k => Wd k 5) n) (clamp_nI (by omega))]
        rw [show ((msk (fun k => Wd k 5) n) j : Int32) = Wd j 5 from msk_at _ hjn]
        refine lv_isub hx hb dL_law_644 ?_
        rw [show ((yW n Wd j 5) - (Wd j 5) : Int32) = dueF Wd j from yr_got hjn]
        refine lv_istore (lv' := [(17, .int (dueF Wd j)), (16, .int (nI j)), (15, .int (sm (dueF Wd) j)), (14, .int (sm (dueF Wd) n)), (12, .ref o4), (11, .ref o3), (10, .ref o2), (9, .ref o1), (8, .int yr), (7, .int pd), (6, .int ch), (5, .int (nI n)), (4, .int xx), (3, .int (nI t)), (0, .ref b), (1, .ref (X 0)), (2, .ref (Y 0))]) hx hb dL_law_645 hl (by decide) rfl (fun ls hl => ?_)
        refine lv_aload hx hb dL_law_647 (lv_at hl 4 rfl) ?_
        refine lv_iload hx hb dL_law_649 (lv_at hl 1 rfl) ?_
        refine va_iald hx hb hKK.1 hP (27 + 1) 0 (cw_at (k := 1) rfl) rfl (vp_in_nI hjn (by omega)) dL_law_651 ?_
        rw [show (msk (fun k => Wd k 4) n) (nI j).toNatClampNeg = (msk (fun k => Wd k 4) n) j from congrArg (msk (fun k => Wd k 4) n) (clamp_nI (by omega))]
        rw [show ((msk (fun k => Wd k 4) n) j : Int32) = Wd j 4 from msk_at _ hjn]
        refine lv_if_ne (tgt := 667) hx hb dL_law_652 (by decide) (fun c_7 => ?_) (fun c_7 => ?_)
        · have hal : ¬ Wd j 4 = 0 := c_7
          refine lv_iconst (v := 0) hx hb dL_law_667 (by decide) ?_
          refine lv_istore (lv' := [(18, .int 0), (17, .int (dueF Wd j)), (16, .int (nI j)), (15, .int (sm (dueF Wd) j)), (14, .int (sm (dueF Wd) n)), (12, .ref o4), (11, .ref o3), (10, .ref o2), (9, .ref o1), (8, .int yr), (7, .int pd), (6, .int ch), (5, .int (nI n)), (4, .int xx), (3, .int (nI t)), (0, .ref b), (1, .ref (X 0)), (2, .ref (Y 0))]) hx hb dL_law_668 hl (by decide) rfl (fun ls hl => ?_)
          refine lv_iload hx hb dL_law_670 (lv_at hl 1 rfl) ?_
          refine lv_iload hx hb dL_law_672 (lv_at hl 0 rfl) ?_
          refine lv_if_eq (tgt := 687) hx hb dL_law_674 (by decide) (fun c_8 => ?_) (fun c_8 => ?_)
          · refine lv_iconst (v := 0) hx hb dL_law_687 (by decide) ?_
            refine lv_icmp_ne (tgt := 790) hx hb dL_law_688 (by decide) (fun c_9 => ?_) (fun c_9 => ?_)
            · exact absurd (by show (if Wd j 4 = 0 ∧ Wd j 2 = 0 then Wd j 1 else 0) = 0; rw [if_neg (fun q => hal q.1)]) c_9
            · refine lv_aload_n hx hb dL_law_691 rfl (lv_at hl 16 rfl) ?_
              refine lv_iload hx hb dL_law_692 (lv_at hl 2 rfl) ?_
              refine lv_iconst (v := 0) hx hb dL_law_694 (by decide) ?_
              refine rd_i (runV0 (As := [.int (nI j), .int 0]) (rest := []) ⟨hx, hb, hml, hown, hts⟩ (met_X3_told l dC dI cI cW X Bk Br d r n (intS (r 0) ch - sm (dueF Wd) n) (pd + sm (dueF Wd) n) pr (yr + 1) (yW n Wd) 0 0 0 0 0 (fun _ _ => 0) _ hn hoky j 0 hjn (by omega) hi hi0) (cwV 2 hts gL_law_X3_told rfl rfl rfl (by decide +kernel) ⟨Nat.le_of_ble_eq_true rfl, Nat.le_of_ble_eq_true rfl⟩) hKK hP 3 27 rfl cw_obj rfl hl.1 (Nat.le_of_ble_eq_true rfl) rfl dL_law_695 ⟨by show _ ≤ 600130; omega, by show _ ≤ 7301080; omega⟩) (fun r_10 hr_10 => ?_)
              subst hr_10
              rw [show (tellS d r ((yW n Wd) j) 0 : Int32) = yW n Wd j 0 from rfl]
              refine lv_aload hx hb dL_law_698 (lv_at hl 6 rfl) ?_
              refine lv_iload hx hb dL_law_700 (lv_at hl 2 rfl) ?_
              refine va_iald hx hb hKK.1 hP (27 + 2) 0 (cw_at (k := 2) rfl) rfl (vp_in_nI hjn (by omega)) dL_law_702 ?_
              rw [show (msk (fun k => Wd k 0) n) (nI j).toNatClampNeg = (msk (fun k => Wd k 0) n) j from congrArg (msk (fun k => Wd k 0) n) (clamp_nI (by omega))]
              rw [show ((msk (fun k => Wd k 0) n) j : Int32) = Wd j 0 from msk_at _ hjn]
              refine lv_aload hx hb dL_law_703 (lv_at hl 5 rfl) ?_
              refine lv_iload hx hb dL_law_705 (lv_at hl 2 rfl) ?_
              refine va_iald hx hb hKK.1 hP (27 + 1) 0 (cw_at (k := 1) rfl) rfl (vp_in_nI hjn (by omega)) dL_law_707 ?_
              rw [show (msk (fun k => Wd k 4) n) (nI j).toNatClampNeg = (msk (fun k => Wd k 4) n) j from congrArg (msk (fun k => Wd k 4) n) (clamp_nI (by omega))]
              rw [show ((msk (fun k => Wd k 4) n) j : Int32) = Wd j 4 from msk_at _ hjn]
              refine lv_if_ne (tgt := 715) hx hb dL_law_708 (by decide) (fun c_14 => ?_) (fun c_14 => ?_)
              · refine lv_iconst (v := 0) hx hb dL_law_715 (by decide) ?_
                refine lv_iadd hx hb dL_law_716 ?_
                refine lv_icmp_ne (tgt := 790) hx hb dL_law_717 (by decide) (fun c_15 => ?_) (fun c_15 => ?_)
                · exact absurd (by show yW n Wd j 0 = Wd j 0 + 0; rw [yr_same hal, Int32.add_zero]) c_15
                · refine lv_aload_n hx hb dL_law_720 rfl (lv_at hl 16 rfl) ?_
                  refine lv_iload hx hb dL_law_721 (lv_at hl 2 rfl) ?_
                  refine lv_iconst (v := 2) hx hb dL_law_723 (by decide) ?_
                  refine rd_i (runV0 (As := [.int (nI j), .int 2]) (rest := []) ⟨hx, hb, hml, hown, hts⟩ (met_X3_told l dC dI cI cW X Bk Br d r n (intS (r 0) ch - sm (dueF Wd) n) (pd + sm (dueF Wd) n) pr (yr + 1) (yW n Wd) 0 0 0 0 0 (fun _ _ => 0) _ hn hoky j 2 hjn (by omega) hi hi0) (cwV 2 hts gL_law_X3_told rfl rfl rfl (by decide +kernel) ⟨Nat.le_of_ble_eq_true rfl, Nat.le_of_ble_eq_true rfl⟩) hKK hP 3 27 rfl cw_obj rfl hl.1 (Nat.le_of_ble_eq_true rfl) rfl dL_law_724 ⟨by show _ ≤ 600130; omega, by show _ ≤ 7301080; omega⟩) (fun r_16 hr_16 => ?_)
                  subst hr_16
                  rw [show (tellS d r ((yW n Wd) j) 2 : Int32) = yW n Wd j 2 from rfl]
                  refine lv_iconst (v := 0) hx hb dL_law_727 (by decide) ?_
                  refine lv_aload hx hb dL_law_728 (lv_at hl 8 rfl) ?_
                  refine lv_iload hx hb dL_law_730 (lv_at hl 2 rfl) ?_
                  refine va_iald hx hb hKK.1 hP (27 + 4) 0 (cw_at (k := 4) rfl) rfl (vp_in_nI hjn (by omega)) dL_law_732 ?_
                  rw [show (msk (fun k => Wd k 2) n) (nI j).toNatClampNeg = (msk (fun k => Wd k 2) n) j from congrArg (msk (fun k => Wd k 2) n) (clamp_nI (by omega))]
                  rw [show ((msk (fun k => Wd k 2) n) j : Int32) = Wd j 2 from msk_at _ hjn]
                  refine lv_aload hx hb dL_law_733 (lv_at hl 5 rfl) ?_
                  refine lv_iload hx hb dL_law_735 (lv_at hl 2 rfl) ?_
                  refine va_iald hx hb hKK.1 hP (27 + 1) 0 (cw_at (k := 1) rfl) rfl (vp_in_nI hjn (by omega)) dL_law_737 ?_
                  rw [show (msk (fun k => Wd k 4) n) (nI j).toNatClampNeg = (msk (fun k => Wd k 4) n) j from congrArg (msk (fun k => Wd k 4) n) (clamp_nI (by omega))]
                  rw [show ((msk (fun k => Wd k 4) n) j : Int32) = Wd j 4 from msk_at _ hjn]
                  refine lv_if_ne (tgt := 745) hx hb dL_law_738 (by decide) (fun c_20 => ?_) (fun c_20 => ?_)
                  · refine lv_iconst (v := 0) hx hb dL_law_745 (by decide) ?_
                    refine lv_isub hx hb dL_law_746 ?_
                    refine va_mmax hx hb (hml.trans hl.1.symm) hown (hts (.methodLink RL 134 Lib.Math.max.name) (by decide +kernel)) (hts (.static Lib.Math.max.name) (by decide +kernel)) (hts (.initialized "java/lang/Math") (by decide +kernel)) (hts (.code Lib.Math.max.name Lib.Math.max.code 2 (some .int)) (by decide +kernel)) (Nat.le_of_ble_eq_true rfl) (Nat.le_of_ble_eq_true rfl) (by show _ ≤ 600130; omega) (by show _ ≤ 7301080; omega) dL_law_747 ?_
                    refine lv_icmp_ne (tgt := 790) hx hb dL_law_750 (by decide) (fun c_21 => ?_) (fun c_21 => ?_)
                    · exact absurd (by show yW n Wd j 2 = _; rw [yr_same hal]; exact (mx_0 hwt).symm) c_21
                    · refine lv_aload_n hx hb dL_law_753 rfl (lv_at hl 16 rfl) ?_
                      refine lv_iload hx hb dL_law_754 (lv_at hl 2 rfl) ?_
                      refine lv_iconst (v := 4) hx hb dL_law_756 (by decide) ?_
                      refine rd_i (runV0 (As := [.int (nI j), .int 4]) (rest := []) ⟨hx, hb, hml, hown, hts⟩ (met_X3_told l dC dI cI cW X Bk Br d r n (intS (r 0) ch - sm (dueF Wd) n) (pd + sm (dueF Wd) n) pr (yr + 1) (yW n Wd) 0 0 0 0 0 (fun _ _ => 0) _ hn hoky j 4 hjn (by omega) hi hi0) (cwV 2 hts gL_law_X3_told rfl rfl rfl (by decide +kernel) ⟨Nat.le_of_ble_eq_true rfl, Nat.le_of_ble_eq_true rfl⟩) hKK hP 3 27 rfl cw_obj rfl hl.1 (Nat.le_of_ble_eq_true rfl) rfl dL_law_757 ⟨by show _ ≤ 600130; omega, by show _ ≤ 7301080; omega⟩) (fun r_22 hr_22 => ?_)
                      subst hr_22
                      rw [show (tellS d r ((yW n Wd) j) 4 : Int32) = yW n Wd j 4 from rfl]
                      refine lv_aload hx hb dL_law_760 (lv_at hl 5 rfl) ?_
                      refine lv_iload hx hb dL_law_762 (lv_at hl 2 rfl) ?_
                      refine va_iald hx hb hKK.1 hP (27 + 1) 0 (cw_at (k := 1) rfl) rfl (vp_in_nI hjn (by omega)) dL_law_764 ?_
                      rw [show (msk (fun k => Wd k 4) n) (nI j).toNatClampNeg = (msk (fun k => Wd k 4) n) j from congrArg (msk (fun k => Wd k 4) n) (clamp_nI (by omega))]
                      rw [show ((msk (fun k => Wd k 4) n) j : Int32) = Wd j 4 from msk_at _ hjn]
                      refine lv_if_ne (tgt := 782) hx hb dL_law_765 (by decide) (fun c_25 => ?_) (fun c_25 => ?_)
                      · refine lv_aload hx hb dL_law_782 (lv_at hl 5 rfl) ?_
                        refine lv_iload hx hb dL_law_784 (lv_at hl 2 rfl) ?_
                        refine va_iald hx hb hKK.1 hP (27 + 1) 0 (cw_at (k := 1) rfl) rfl (vp_in_nI hjn (by omega)) dL_law_786 ?_
                        rw [show (msk (fun k => Wd k 4) n) (nI j).toNatClampNeg = (msk (fun k => Wd k 4) n) j from congrArg (msk (fun k => Wd k 4) n) (clamp_nI (by omega))]
                        rw [show ((msk (fun k => Wd k 4) n) j : Int32) = Wd j 4 from msk_at _ hjn]
                        refine lv_icmp_eq (tgt := 792) hx hb dL_law_787 (by decide) (fun c_27 => ?_) (fun c_27 => ?_)
                        · refine lv_iload hx hb dL_law_792 (lv_at hl 3 rfl) ?_
                          refine lv_iload hx hb dL_law_794 (lv_at hl 1 rfl) ?_
                          refine lv_iadd hx hb dL_law_796 ?_
                          rw [show ((sm (dueF Wd) j) + (dueF Wd j) : Int32) = sm (dueF Wd) (j + 1) from rfl]
                          refine lv_istore (lv' := [(15, .int (sm (dueF Wd) (j + 1))), (18, .int 0), (17, .int (dueF Wd j)), (16, .int (nI j)), (14, .int (sm (dueF Wd) n)), (12, .ref o4), (11, .ref o3), (10, .ref o2), (9, .ref o1), (8, .int yr), (7, .int pd), (6, .int ch), (5, .int (nI n)), (4, .int xx), (3, .int (nI t)), (0, .ref b), (1, .ref (X 0)), (2, .ref (Y 0))]) hx hb dL_law_797 hl (by decide) rfl (fun ls hl => ?_)
                          refine lv_iinc (v := (nI (j + 1))) (lv' := [(16, .int (nI (j + 1))), (15, .int (sm (dueF Wd) (j + 1))), (18, .int 0), (17, .int (dueF Wd j)), (14, .int (sm (dueF Wd) n)), (12, .ref o4), (11, .ref o3), (10, .ref o2), (9, .ref o1), (8, .int yr), (7, .int pd), (6, .int ch), (5, .int (nI n)), (4, .int xx), (3, .int (nI t)), (0, .ref b), (1, .ref (X 0)), (2, .ref (Y 0))]) hx hb dL_law_799 hl (k := 3) rfl (nI_1 j) (by decide) rfl (fun ls hl => ?_)
                          refine lv_goto (tgt := 624) hx hb dL_law_802 (by decide) ?_
                          exact ih (j + 1) (by omega) ls (lv_sub hl [0, 1, 4, 5, 6, 7, 8, 9, 10, 11, 12, 13, 14, 15, 16, 17] rfl)
                        · exact absurd (by show yW n Wd j 4 = Wd j 4; rw [yr_same hal]) c_27
                      · exact absurd c_25 hal
                  · exact absurd c_20 hal
              · exact absurd c_14 hal
          · exact absurd rfl c_8
        · have hal : Wd j 4 = 0 := c_7
          refine lv_aload hx hb dL_law_655 (lv_at hl 7 rfl) ?_
          refine lv_iload hx hb dL_law_657 (lv_at hl 1 rfl) ?_
          refine va_iald hx hb hKK.1 hP (27 + 4) 0 (cw_at (k := 4) rfl) rfl (vp_in_nI hjn (by omega)) dL_law_659 ?_
          rw [show (msk (fun k => Wd k 2) n) (nI j).toNatClampNeg = (msk (fun k => Wd k 2) n) j from congrArg (msk (fun k => Wd k 2) n) (clamp_nI (by omega))]
          rw [show ((msk (fun k => Wd k 2) n) j : Int32) = Wd j 2 from msk_at _ hjn]
          refine lv_if_ne (tgt := 667) hx hb dL_law_660 (by decide) (fun c_30 => ?_) (fun c_30 => ?_)
          · have hwz : ¬ Wd j 2 = 0 := c_30
            refine lv_iconst (v := 0) hx hb dL_law_667 (by decide) ?_
            refine lv_istore (lv' := [(18, .int 0), (17, .int (dueF Wd j)), (16, .int (nI j)), (15, .int (sm (dueF Wd) j)), (14, .int (sm (dueF Wd) n)), (12, .ref o4), (11, .ref o3), (10, .ref o2), (9, .ref o1), (8, .int yr), (7, .int pd), (6, .int ch), (5, .int (nI n)), (4, .int xx), (3, .int (nI t)), (0, .ref b), (1, .ref (X 0)), (2, .ref (Y 0))]) hx hb dL_law_668 hl (by decide) rfl (fun ls hl => ?_)
            refine lv_iload hx hb dL_law_670 (lv_at hl 1 rfl) ?_
            refine lv_iload hx hb dL_law_672 (lv_at hl 0 rfl) ?_
            refine lv_if_eq (tgt := 687) hx hb dL_law_674 (by decide) (fun c_31 => ?_) (fun c_31 => ?_)
            · refine lv_iconst (v := 0) hx hb dL_law_687 (by decide) ?_
              refine lv_icmp_ne (tgt := 790) hx hb dL_law_688 (by decide) (fun c_32 => ?_) (fun c_32 => ?_)
              · exact absurd (by show (if Wd j 4 = 0 ∧ Wd j 2 = 0 then Wd j 1 else 0) = 0; rw [if_neg (fun q => hwz q.2)]) c_32
              · refine lv_aload_n hx hb dL_law_691 rfl (lv_at hl 16 rfl) ?_
                refine lv_iload hx hb dL_law_692 (lv_at hl 2 rfl) ?_
                refine lv_iconst (v := 0) hx hb dL_law_694 (by decide) ?_
                refine rd_i (runV0 (As := [.int (nI j), .int 0]) (rest := []) ⟨hx, hb, hml, hown, hts⟩ (met_X3_told l dC dI cI cW X Bk Br d r n (intS (r 0) ch - sm (dueF Wd) n) (pd + sm (dueF Wd) n) pr (yr + 1) (yW n Wd) 0 0 0 0 0 (fun _ _ => 0) _ hn hoky j 0 hjn (by omega) hi hi0) (cwV 2 hts gL_law_X3_told rfl rfl rfl (by decide +kernel) ⟨Nat.le_of_ble_eq_true rfl, Nat.le_of_ble_eq_true rfl⟩) hKK hP 3 27 rfl cw_obj rfl hl.1 (Nat.le_of_ble_eq_true rfl) rfl dL_law_695 ⟨by show _ ≤ 600130; omega, by show _ ≤ 7301080; omega⟩) (fun r_33 hr_33 => ?_)
                subst hr_33
                rw [show (tellS d r ((yW n Wd) j) 0 : Int32) = yW n Wd j 0 from rfl]
                refine lv_aload hx hb dL_law_698 (lv_at hl 6 rfl) ?_
                refine lv_iload hx hb dL_law_700 (lv_at hl 2 rfl) ?_
                refine va_iald hx hb hKK.1 hP (27 + 2) 0 (cw_at (k := 2) rfl) rfl (vp_in_nI hjn (by omega)) dL_law_702 ?_
                rw [show (msk (fun k => Wd k 0) n) (nI j).toNatClampNeg = (msk (fun k => Wd k 0) n) j from congrArg (msk (fun k => Wd k 0) n) (clamp_nI (by omega))]
                rw [show ((msk (fun k => Wd k 0) n) j : Int32) = Wd j 0 from msk_at _ hjn]
                refine lv_aload hx hb dL_law_703 (lv_at hl 5 rfl) ?_
                refine lv_iload hx hb dL_law_705 (lv_at hl 2 rfl) ?_
                refine va_iald hx hb hKK.1 hP (27 + 1) 0 (cw_at (k := 1) rfl) rfl (vp_in_nI hjn (by omega)) dL_law_707 ?_
                rw [show (msk (fun k => Wd k 4) n) (nI j).toNatClampNeg = (msk (fun k => Wd k 4) n) j from congrArg (msk (fun k => Wd k 4) n) (clamp_nI (by omega))]
                rw [show ((msk (fun k => Wd k 4) n) j : Int32) = Wd j 4 from msk_at _ hjn]
                refine lv_if_ne (tgt := 715) hx hb dL_law_708 (by decide) (fun c_37 => ?_) (fun c_37 => ?_)
                · exact absurd hal c_37
                · refine lv_iconst (v := 1) hx hb dL_law_711 (by decide) ?_
                  refine lv_goto (tgt := 716) hx hb dL_law_712 (by decide) ?_
                  refine lv_iadd hx hb dL_law_716 ?_
                  refine lv_icmp_ne (tgt := 790) hx hb dL_law_717 (by decide) (fun c_38 => ?_) (fun c_38 => ?_)
                  · exact absurd (by show yW n Wd j 0 = Wd j 0 + 1; rw [yr_alive hjn hal]; rfl) c_38
                  · refine lv_aload_n hx hb dL_law_720 rfl (lv_at hl 16 rfl) ?_
                    refine lv_iload hx hb dL_law_721 (lv_at hl 2 rfl) ?_
                    refine lv_iconst (v := 2) hx hb dL_law_723 (by decide) ?_
                    refine rd_i (runV0 (As := [.int (nI j), .int 2]) (rest := []) ⟨hx, hb, hml, hown, hts⟩ (met_X3_told l dC dI cI cW X Bk Br d r n (intS (r 0) ch - sm (dueF Wd) n) (pd + sm (dueF Wd) n) pr (yr + 1) (yW n Wd) 0 0 0 0 0 (fun _ _ => 0) _ hn hoky j 2 hjn (by omega) hi hi0) (cwV 2 hts gL_law_X3_told rfl rfl rfl (by decide +kernel) ⟨Nat.le_of_ble_eq_true rfl, Nat.le_of_ble_eq_true rfl⟩) hKK hP 3 27 rfl cw_obj rfl hl.1 (Nat.le_of_ble_eq_true rfl) rfl dL_law_724 ⟨by show _ ≤ 600130; omega, by show _ ≤ 7301080; omega⟩) (fun r_39 hr_39 => ?_)
                    subst hr_39
                    rw [show (tellS d r ((yW n Wd) j) 2 : Int32) = yW n Wd j 2 from rfl]
                    refine lv_iconst (v := 0) hx hb dL_law_727 (by decide) ?_
                    refine lv_aload hx hb dL_law_728 (lv_at hl 8 rfl) ?_
                    refine lv_iload hx hb dL_law_730 (lv_at hl 2 rfl) ?_
                    refine va_iald hx hb hKK.1 hP (27 + 4) 0 (cw_at (k := 4) rfl) rfl (vp_in_nI hjn (by omega)) dL_law_732 ?_
                    rw [show (msk (fun k => Wd k 2) n) (nI j).toNatClampNeg = (msk (fun k => Wd k 2) n) j from congrArg (msk (fun k => Wd k 2) n) (clamp_nI (by omega))]
                    rw [show ((msk (fun k => Wd k 2) n) j : Int32) = Wd j 2 from msk_at _ hjn]
                    refine lv_aload hx hb dL_law_733 (lv_at hl 5 rfl) ?_
                    refine lv_iload hx hb dL_law_735 (lv_at hl 2 rfl) ?_
                    refine va_iald hx hb hKK.1 hP (27 + 1) 0 (cw_at (k := 1) rfl) rfl (vp_in_nI hjn (by omega)) dL_law_737 ?_
                    rw [show (msk (fun k => Wd k 4) n) (nI j).toNatClampNeg = (msk (fun k => Wd k 4) n) j from congrArg (msk (fun k => Wd k 4) n) (clamp_nI (by omega))]
                    rw [show ((msk (fun k => Wd k 4) n) j : Int32) = Wd j 4 from msk_at _ hjn]
                    refine lv_if_ne (tgt := 745) hx hb dL_law_738 (by decide) (fun c_43 => ?_) (fun c_43 => ?_)
                    · exact absurd hal c_43
                    · refine lv_iconst (v := 1) hx hb dL_law_741 (by decide) ?_
                      refine lv_goto (tgt := 746) hx hb dL_law_742 (by decide) ?_
                      refine lv_isub hx hb dL_law_746 ?_
                      refine va_mmax hx hb (hml.trans hl.1.symm) hown (hts (.methodLink RL 134 Lib.Math.max.name) (by decide +kernel)) (hts (.static Lib.Math.max.name) (by decide +kernel)) (hts (.initialized "java/lang/Math") (by decide +kernel)) (hts (.code Lib.Math.max.name Lib.Math.max.code 2 (some .int)) (by decide +kernel)) (Nat.le_of_ble_eq_true rfl) (Nat.le_of_ble_eq_true rfl) (by show _ ≤ 600130; omega) (by show _ ≤ 7301080; omega) dL_law_747 ?_
                      refine lv_icmp_ne (tgt := 790) hx hb dL_law_750 (by decide) (fun c_44 => ?_) (fun c_44 => ?_)
                      · exact absurd (by show yW n Wd j 2 = _; rw [yr_alive hjn hal]; obtain ⟨-, ⟨b9, hb9, hb8⟩, -⟩ := hok j hjn hal; exact (mx_1 hb9 hb8).symm) c_44
                      · refine lv_aload_n hx hb dL_law_753 rfl (lv_at hl 16 rfl) ?_
                        refine lv_iload hx hb dL_law_754 (lv_at hl 2 rfl) ?_
                        refine lv_iconst (v := 4) hx hb dL_law_756 (by decide) ?_
                        refine rd_i (runV0 (As := [.int (nI j), .int 4]) (rest := []) ⟨hx, hb, hml, hown, hts⟩ (met_X3_told l dC dI cI cW X Bk Br d r n (intS (r 0) ch - sm (dueF Wd) n) (pd + sm (dueF Wd) n) pr (yr + 1) (yW n Wd) 0 0 0 0 0 (fun _ _ => 0) _ hn hoky j 4 hjn (by omega) hi hi0) (cwV 2 hts gL_law_X3_told rfl rfl rfl (by decide +kernel) ⟨Nat.le_of_ble_eq_true rfl, Nat.le_of_ble_eq_true rfl⟩) hKK hP 3 27 rfl cw_obj rfl hl.1 (Nat.le_of_ble_eq_true rfl) rfl dL_law_757 ⟨by show _ ≤ 600130; omega, by show _ ≤ 7301080; omega⟩) (fun r_45 hr_45 => ?_)
                        subst hr_45
                        rw [show (tellS d r ((yW n Wd) j) 4 : Int32) = yW n Wd j 4 from rfl]
                        refine lv_aload hx hb dL_law_760 (lv_at hl 5 rfl) ?_
                        refine lv_iload hx hb dL_law_762 (lv_at hl 2 rfl) ?_
                        refine va_iald hx hb hKK.1 hP (27 + 1) 0 (cw_at (k := 1) rfl) rfl (vp_in_nI hjn (by omega)) dL_law_764 ?_
                        rw [show (msk (fun k => Wd k 4) n) (nI j).toNatClampNeg = (msk (fun k => Wd k 4) n) j from congrArg (msk (fun k => Wd k 4) n) (clamp_nI (by omega))]
                        rw [show ((msk (fun k => Wd k 4) n) j : Int32) = Wd j 4 from msk_at _ hjn]
                        refine lv_if_ne (tgt := 782) hx hb dL_law_765 (by decide) (fun c_48 => ?_) (fun c_48 => ?_)
                        · exact absurd hal c_48
                        · refine lv_aload hx hb dL_law_768 (lv_at hl 6 rfl) ?_
                          refine lv_iload hx hb dL_law_770 (lv_at hl 2 rfl) ?_
                          refine va_iald hx hb hKK.1 hP (27 + 2) 0 (cw_at (k := 2) rfl) rfl (vp_in_nI hjn (by omega)) dL_law_772 ?_
                          rw [show (msk (fun k => Wd k 0) n) (nI j).toNatClampNeg = (msk (fun k => Wd k 0) n) j from congrArg (msk (fun k => Wd k 0) n) (clamp_nI (by omega))]
                          rw [show ((msk (fun k => Wd k 0) n) j : Int32) = Wd j 0 from msk_at _ hjn]
                          refine lv_bipush (v := 99) hx hb dL_law_773 (by decide) ?_
                          refine lv_icmp_ne (tgt := 782) hx hb dL_law_775 (by decide) (fun c_50 => ?_) (fun c_50 => ?_)
                          · have ha9 : ¬ Wd j 0 = 99 := c_50
                            refine lv_aload hx hb dL_law_782 (lv_at hl 5 rfl) ?_
                            refine lv_iload hx hb dL_law_784 (lv_at hl 2 rfl) ?_
                            refine va_iald hx hb hKK.1 hP (27 + 1) 0 (cw_at (k := 1) rfl) rfl (vp_in_nI hjn (by omega)) dL_law_786 ?_
                            rw [show (msk (fun k => Wd k 4) n) (nI j).toNatClampNeg = (msk (fun k => Wd k 4) n) j from congrArg (msk (fun k => Wd k 4) n) (clamp_nI (by omega))]
                            rw [show ((msk (fun k => Wd k 4) n) j : Int32) = Wd j 4 from msk_at _ hjn]
                            refine lv_icmp_eq (tgt := 792) hx hb dL_law_787 (by decide) (fun c_52 => ?_) (fun c_52 => ?_)
                            · refine lv_iload hx hb dL_law_792 (lv_at hl 3 rfl) ?_
                              refine lv_iload hx hb dL_law_794 (lv_at hl 1 rfl) ?_
                              refine lv_iadd hx hb dL_law_796 ?_
                              rw [show ((sm (dueF Wd) j) + (dueF Wd j) : Int32) = sm (dueF Wd) (j + 1) from rfl]
                              refine lv_istore (lv' := [(15, .int (sm (dueF Wd) (j + 1))), (18, .int 0), (17, .int (dueF Wd j)), (16, .int (nI j)), (14, .int (sm (dueF Wd) n)), (12, .ref o4), (11, .ref o3), (10, .ref o2), (9, .ref o1), (8, .int yr), (7, .int pd), (6, .int ch), (5, .int (nI n)), (4, .int xx), (3, .int (nI t)), (0, .ref b), (1, .ref (X 0)), (2, .ref (Y 0))]) hx hb dL_law_797 hl (by decide) rfl (fun ls hl => ?_)
                              refine lv_iinc (v := (nI (j + 1))) (lv' := [(16, .int (nI (j + 1))), (15, .int (sm (dueF Wd) (j + 1))), (18, .int 0), (17, .int (dueF Wd j)), (14, .int (sm (dueF Wd) n)), (12, .ref o4), (11, .ref o3), (10, .ref o2), (9, .ref o1), (8, .int yr), (7, .int pd), (6, .int ch), (5, .int (nI n)), (4, .int xx), (3, .int (nI t)), (0, .ref b), (1, .ref (X 0)), (2, .ref (Y 0))]) hx hb dL_law_799 hl (k := 3) rfl (nI_1 j) (by decide) rfl (fun ls hl => ?_)
                              refine lv_goto (tgt := 624) hx hb dL_law_802 (by decide) ?_
                              exact ih (j + 1) (by omega) ls (lv_sub hl [0, 1, 4, 5, 6, 7, 8, 9, 10, 11, 12, 13, 14, 15, 16, 17] rfl)
                            · exact absurd (by show yW n Wd j 4 = Wd j 4; rw [yr_alive hjn hal]; show (if Wd j 0 = 99 then 1 else Wd j 4) = Wd j 4; rw [if_neg ha9]) c_52
                          · have ha9 : Wd j 0 = 99 := c_50
                            refine lv_iconst (v := 1) hx hb dL_law_778 (by decide) ?_
                            refine lv_goto (tgt := 787) hx hb dL_law_779 (by decide) ?_
                            refine lv_icmp_eq (tgt := 792) hx hb dL_law_787 (by decide) (fun c_54 => ?_) (fun c_54 => ?_)
                            · refine lv_iload hx hb dL_law_792 (lv_at hl 3 rfl) ?_
                              refine lv_iload hx hb dL_law_794 (lv_at hl 1 rfl) ?_
                              refine lv_iadd hx hb dL_law_796 ?_
                              rw [show ((sm (dueF Wd) j) + (dueF Wd j) : Int32) = sm (dueF Wd) (j + 1) from rfl]
                              refine lv_istore (lv' := [(15, .int (sm (dueF Wd) (j + 1))), (18, .int 0), (17, .int (dueF Wd j)), (16, .int (nI j)), (14, .int (sm (dueF Wd) n)), (12, .ref o4), (11, .ref o3), (10, .ref o2), (9, .ref o1), (8, .int yr), (7, .int pd), (6, .int ch), (5, .int (nI n)), (4, .int xx), (3, .int (nI t)), (0, .ref b), (1, .ref (X 0)), (2, .ref (Y 0))]) hx hb dL_law_797 hl (by decide) rfl (fun ls hl => ?_)
                              refine lv_iinc (v := (nI (j + 1))) (lv' := [(16, .int (nI (j + 1))), (15, .int (sm (dueF Wd) (j + 1))), (18, .int 0), (17, .int (dueF Wd j)), (14, .int (sm (dueF Wd) n)), (12, .ref o4), (11, .ref o3), (10, .ref o2), (9, .ref o1), (8, .int yr), (7, .int pd), (6, .int ch), (5, .int (nI n)), (4, .int xx), (3, .int (nI t)), (0, .ref b), (1, .ref (X 0)), (2, .ref (Y 0))]) hx hb dL_law_799 hl (k := 3) rfl (nI_1 j) (by decide) rfl (fun ls hl => ?_)
                              refine lv_goto (tgt := 624) hx hb dL_law_802 (by decide) ?_
                              exact ih (j + 1) (by omega) ls (lv_sub hl [0, 1, 4, 5, 6, 7, 8, 9, 10, 11, 12, 13, 14, 15, 16, 17] rfl)
                            · exact absurd (by show yW n Wd j 4 = 1; rw [yr_alive hjn hal]; show (if Wd j 0 = 99 then 1 else Wd j 4) = 1; rw [if_pos ha9]) c_54
            · exact absurd rfl c_31
          · have hwz : Wd j 2 = 0 := c_30
            refine lv_iconst (v := 1) hx hb dL_law_663 (by decide) ?_
            refine lv_goto (tgt := 668) hx hb dL_law_664 (by decide) ?_
            refine lv_istore (lv' := [(18, .int 1), (17, .int (dueF Wd j)), (16, .int (nI j)), (15, .int (sm (dueF Wd) j)), (14, .int (sm (dueF Wd) n)), (12, .ref o4), (11, .ref o3), (10, .ref o2), (9, .ref o1), (8, .int yr), (7, .int pd), (6, .int ch), (5, .int (nI n)), (4, .int xx), (3, .int (nI t)), (0, .ref b), (1, .ref (X 0)), (2, .ref (Y 0))]) hx hb dL_law_668 hl (by decide) rfl (fun ls hl => ?_)
            refine lv_iload hx hb dL_law_670 (lv_at hl 1 rfl) ?_
            refine lv_iload hx hb dL_law_672 (lv_at hl 0 rfl) ?_
            refine lv_if_eq (tgt := 687) hx hb dL_law_674 (by decide) (fun c_56 => ?_) (fun c_56 => ?_)
            · exact absurd c_56 (by decide)
            · refine lv_aload_n hx hb dL_law_677 rfl (lv_at hl 16 rfl) ?_
              refine lv_iload hx hb dL_law_678 (lv_at hl 2 rfl) ?_
              refine lv_iconst (v := 1) hx hb dL_law_680 (by decide) ?_
              refine rd_i (runV0 (As := [.int (nI j), .int 1]) (rest := [.int (dueF Wd j)]) ⟨hx, hb, hml, hown, hts⟩ (met_X3_told l dC dI cI cW X Bk Br d r n (intS (r 0) ch - sm (dueF Wd) n) (pd + sm (dueF Wd) n) pr (yr + 1) (yW n Wd) 0 0 0 0 0 (fun _ _ => 0) _ hn hoky j 1 hjn (by omega) hi hi0) (cwV 2 hts gL_law_X3_told rfl rfl rfl (by decide +kernel) ⟨Nat.le_of_ble_eq_true rfl, Nat.le_of_ble_eq_true rfl⟩) hKK hP 3 27 rfl cw_obj rfl hl.1 (Nat.le_of_ble_eq_true rfl) rfl dL_law_681 ⟨by show _ ≤ 600130; omega, by show _ ≤ 7301080; omega⟩) (fun r_57 hr_57 => ?_)
              subst hr_57
              rw [show (tellS d r ((yW n Wd) j) 1 : Int32) = yW n Wd j 1 from rfl]
              refine lv_goto (tgt := 688) hx hb dL_law_684 (by decide) ?_
              refine lv_icmp_ne (tgt := 790) hx hb dL_law_688 (by decide) (fun c_59 => ?_) (fun c_59 => ?_)
              · exact absurd (by show (if Wd j 4 = 0 ∧ Wd j 2 = 0 then Wd j 1 else 0) = yW n Wd j 1; rw [if_pos ⟨hal, hwz⟩, yr_alive hjn hal]; rfl) c_59
              · refine lv_aload_n hx hb dL_law_691 rfl (lv_at hl 16 rfl) ?_
                refine lv_iload hx hb dL_law_692 (lv_at hl 2 rfl) ?_
                refine lv_iconst (v := 0) hx hb dL_law_694 (by decide) ?_
                refine rd_i (runV0 (As := [.int (nI j), .int 0]) (rest := []) ⟨hx, hb, hml, hown, hts⟩ (met_X3_told l dC dI cI cW X Bk Br d r n (intS (r 0) ch - sm (dueF Wd) n) (pd + sm (dueF Wd) n) pr (yr + 1) (yW n Wd) 0 0 0 0 0 (fun _ _ => 0) _ hn hoky j 0 hjn (by omega) hi hi0) (cwV 2 hts gL_law_X3_told rfl rfl rfl (by decide +kernel) ⟨Nat.le_of_ble_eq_true rfl, Nat.le_of_ble_eq_true rfl⟩) hKK hP 3 27 rfl cw_obj rfl hl.1 (Nat.le_of_ble_eq_true rfl) rfl dL_law_695 ⟨by show _ ≤ 600130; omega, by show _ ≤ 7301080; omega⟩) (fun r_60 hr_60 => ?_)
                subst hr_60
                rw [show (tellS d r ((yW n Wd) j) 0 : Int32) = yW n Wd j 0 from rfl]
                refine lv_aload hx hb dL_law_698 (lv_at hl 6 rfl) ?_
                refine lv_iload hx hb dL_law_700 (lv_at hl 2 rfl) ?_
                refine va_iald hx hb hKK.1 hP (27 + 2) 0 (cw_at (k := 2) rfl) rfl (vp_in_nI hjn (by omega)) dL_law_702 ?_
                rw [show (msk (fun k => Wd k 0) n) (nI j).toNatClampNeg = (msk (fun k => Wd k 0) n) j from congrArg (msk (fun k => Wd k 0) n) (clamp_nI (by omega))]
                rw [show ((msk (fun k => Wd k 0) n) j : Int32) = Wd j 0 from msk_at _ hjn]
                refine lv_aload hx hb dL_law_703 (lv_at hl 5 rfl) ?_
                refine lv_iload hx hb dL_law_705 (lv_at hl 2 rfl) ?_
                refine va_iald hx hb hKK.1 hP (27 + 1) 0 (cw_at (k := 1) rfl) rfl (vp_in_nI hjn (by omega)) dL_law_707 ?_
                rw [show (msk (fun k => Wd k 4) n) (nI j).toNatClampNeg = (msk (fun k => Wd k 4) n) j from congrArg (msk (fun k => Wd k 4) n) (clamp_nI (by omega))]
                rw [show ((msk (fun k => Wd k 4) n) j : Int32) = Wd j 4 from msk_at _ hjn]
                refine lv_if_ne (tgt := 715) hx hb dL_law_708 (by decide) (fun c_64 => ?_) (fun c_64 => ?_)
                · exact absurd hal c_64
                · refine lv_iconst (v := 1) hx hb dL_law_711 (by decide) ?_
                  refine lv_goto (tgt := 716) hx hb dL_law_712 (by decide) ?_
                  refine lv_iadd hx hb dL_law_716 ?_
                  refine lv_icmp_ne (tgt := 790) hx hb dL_law_717 (by decide) (fun c_65 => ?_) (fun c_65 => ?_)
                  · exact absurd (by show yW n Wd j 0 = Wd j 0 + 1; rw [yr_alive hjn hal]; rfl) c_65
                  · refine lv_aload_n hx hb dL_law_720 rfl (lv_at hl 16 rfl) ?_
                    refine lv_iload hx hb dL_law_721 (lv_at hl 2 rfl) ?_
                    refine lv_iconst (v := 2) hx hb dL_law_723 (by decide) ?_
                    refine rd_i (runV0 (As := [.int (nI j), .int 2]) (rest := []) ⟨hx, hb, hml, hown, hts⟩ (met_X3_told l dC dI cI cW X Bk Br d r n (intS (r 0) ch - sm (dueF Wd) n) (pd + sm (dueF Wd) n) pr (yr + 1) (yW n Wd) 0 0 0 0 0 (fun _ _ => 0) _ hn hoky j 2 hjn (by omega) hi hi0) (cwV 2 hts gL_law_X3_told rfl rfl rfl (by decide +kernel) ⟨Nat.le_of_ble_eq_true rfl, Nat.le_of_ble_eq_true rfl⟩) hKK hP 3 27 rfl cw_obj rfl hl.1 (Nat.le_of_ble_eq_true rfl) rfl dL_law_724 ⟨by show _ ≤ 600130; omega, by show _ ≤ 7301080; omega⟩) (fun r_66 hr_66 => ?_)
                    subst hr_66
                    rw [show (tellS d r ((yW n Wd) j) 2 : Int32) = yW n Wd j 2 from rfl]
                    refine lv_iconst (v := 0) hx hb dL_law_727 (by decide) ?_
                    refine lv_aload hx hb dL_law_728 (lv_at hl 8 rfl) ?_
                    refine lv_iload hx hb dL_law_730 (lv_at hl 2 rfl) ?_
                    refine va_iald hx hb hKK.1 hP (27 + 4) 0 (cw_at (k := 4) rfl) rfl (vp_in_nI hjn (by omega)) dL_law_732 ?_
                    rw [show (msk (fun k => Wd k 2) n) (nI j).toNatClampNeg = (msk (fun k => Wd k 2) n) j from congrArg (msk (fun k => Wd k 2) n) (clamp_nI (by omega))]
                    rw [show ((msk (fun k => Wd k 2) n) j : Int32) = Wd j 2 from msk_at _ hjn]
                    refine lv_aload hx hb dL_law_733 (lv_at hl 5 rfl) ?_
                    refine lv_iload hx hb dL_law_735 (lv_at hl 2 rfl) ?_
                    refine va_iald hx hb hKK.1 hP (27 + 1) 0 (cw_at (k := 1) rfl) rfl (vp_in_nI hjn (by omega)) dL_law_737 ?_
                    rw [show (msk (fun k => Wd k 4) n) (nI j).toNatClampNeg = (msk (fun k => Wd k 4) n) j from congrArg (msk (fun k => Wd k 4) n) (clamp_nI (by omega))]
                    rw [show ((msk (fun k => Wd k 4) n) j : Int32) = Wd j 4 from msk_at _ hjn]
                    refine lv_if_ne (tgt := 745) hx hb dL_law_738 (by decide) (fun c_70 => ?_) (fun c_70 => ?_)
                    · exact absurd hal c_70
                    · refine lv_iconst (v := 1) hx hb dL_law_741 (by decide) ?_
                      refine lv_goto (tgt := 746) hx hb dL_law_742 (by decide) ?_
                      refine lv_isub hx hb dL_law_746 ?_
                      refine va_mmax hx hb (hml.trans hl.1.symm) hown (hts (.methodLink RL 134 Lib.Math.max.name) (by decide +kernel)) (hts (.static Lib.Math.max.name) (by decide +kernel)) (hts (.initialized "java/lang/Math") (by decide +kernel)) (hts (.code Lib.Math.max.name Lib.Math.max.code 2 (some .int)) (by decide +kernel)) (Nat.le_of_ble_eq_true rfl) (Nat.le_of_ble_eq_true rfl) (by show _ ≤ 600130; omega) (by show _ ≤ 7301080; omega) dL_law_747 ?_
                      refine lv_icmp_ne (tgt := 790) hx hb dL_law_750 (by decide) (fun c_71 => ?_) (fun c_71 => ?_)
                      · exact absurd (by show yW n Wd j 2 = _; rw [yr_alive hjn hal]; obtain ⟨-, ⟨b9, hb9, hb8⟩, -⟩ := hok j hjn hal; exact (mx_1 hb9 hb8).symm) c_71
                      · refine lv_aload_n hx hb dL_law_753 rfl (lv_at hl 16 rfl) ?_
                        refine lv_iload hx hb dL_law_754 (lv_at hl 2 rfl) ?_
                        refine lv_iconst (v := 4) hx hb dL_law_756 (by decide) ?_
                        refine rd_i (runV0 (As := [.int (nI j), .int 4]) (rest := []) ⟨hx, hb, hml, hown, hts⟩ (met_X3_told l dC dI cI cW X Bk Br d r n (intS (r 0) ch - sm (dueF Wd) n) (pd + sm (dueF Wd) n) pr (yr + 1) (yW n Wd) 0 0 0 0 0 (fun _ _ => 0) _ hn hoky j 4 hjn (by omega) hi hi0) (cwV 2 hts gL_law_X3_told rfl rfl rfl (by decide +kernel) ⟨Nat.le_of_ble_eq_true rfl, Nat.le_of_ble_eq_true rfl⟩) hKK hP 3 27 rfl cw_obj rfl hl.1 (Nat.le_of_ble_eq_true rfl) rfl dL_law_757 ⟨by show _ ≤ 600130; omega, by show _ ≤ 7301080; omega⟩) (fun r_72 hr_72 => ?_)
                        subst hr_72
                        rw [show (tellS d r ((yW n Wd) j) 4 : Int32) = yW n Wd j 4 from rfl]
                        refine lv_aload hx hb dL_law_760 (lv_at hl 5 rfl) ?_
                        refine lv_iload hx hb dL_law_762 (lv_at hl 2 rfl) ?_
                        refine va_iald hx hb hKK.1 hP (27 + 1) 0 (cw_at (k := 1) rfl) rfl (vp_in_nI hjn (by omega)) dL_law_764 ?_
                        rw [show (msk (fun k => Wd k 4) n) (nI j).toNatClampNeg = (msk (fun k => Wd k 4) n) j from congrArg (msk (fun k => Wd k 4) n) (clamp_nI (by omega))]
                        rw [show ((msk (fun k => Wd k 4) n) j : Int32) = Wd j 4 from msk_at _ hjn]
                        refine lv_if_ne (tgt := 782) hx hb dL_law_765 (by decide) (fun c_75 => ?_) (fun c_75 => ?_)
                        · exact absurd hal c_75
                        · refine lv_aload hx hb dL_law_768 (lv_at hl 6 rfl) ?_
                          refine lv_iload hx hb dL_law_770 (lv_at hl 2 rfl) ?_
                          refine va_iald hx hb hKK.1 hP (27 + 2) 0 (cw_at (k := 2) rfl) rfl (vp_in_nI hjn (by omega)) dL_law_772 ?_
                          rw [show (msk (fun k => Wd k 0) n) (nI j).toNatClampNeg = (msk (fun k => Wd k 0) n) j from congrArg (msk (fun k => Wd k 0) n) (clamp_nI (by omega))]
                          rw [show ((msk (fun k => Wd k 0) n) j : Int32) = Wd j 0 from msk_at _ hjn]
                          refine lv_bipush (v := 99) hx hb dL_law_773 (by decide) ?_
                          refine lv_icmp_ne (tgt := 782) hx hb dL_law_775 (by decide) (fun c_77 => ?_) (fun c_77 => ?_)
                          · have ha9 : ¬ Wd j 0 = 99 := c_77
                            refine lv_aload hx hb dL_law_782 (lv_at hl 5 rfl) ?_
                            refine lv_iload hx hb dL_law_784 (lv_at hl 2 rfl) ?_
                            refine va_iald hx hb hKK.1 hP (27 + 1) 0 (cw_at (k := 1) rfl) rfl (vp_in_nI hjn (by omega)) dL_law_786 ?_
                            rw [show (msk (fun k => Wd k 4) n) (nI j).toNatClampNeg = (msk (fun k => Wd k 4) n) j from congrArg (msk (fun k => Wd k 4) n) (clamp_nI (by omega))]
                            rw [show ((msk (fun k => Wd k 4) n) j : Int32) = Wd j 4 from msk_at _ hjn]
                            refine lv_icmp_eq (tgt := 792) hx hb dL_law_787 (by decide) (fun c_79 => ?_) (fun c_79 => ?_)
                            · refine lv_iload hx hb dL_law_792 (lv_at hl 3 rfl) ?_
                              refine lv_iload hx hb dL_law_794 (lv_at hl 1 rfl) ?_
                              refine lv_iadd hx hb dL_law_796 ?_
                              rw [show ((sm (dueF Wd) j) + (dueF Wd j) : Int32) = sm (dueF Wd) (j + 1) from rfl]
                              refine lv_istore (lv' := [(15, .int (sm (dueF Wd) (j + 1))), (18, .int 1), (17, .int (dueF Wd j)), (16, .int (nI j)), (14, .int (sm (dueF Wd) n)), (12, .ref o4), (11, .ref o3), (10, .ref o2), (9, .ref o1), (8, .int yr), (7, .int pd), (6, .int ch), (5, .int (nI n)), (4, .int xx), (3, .int (nI t)), (0, .ref b), (1, .ref (X 0)), (2, .ref (Y 0))]) hx hb dL_law_797 hl (by decide) rfl (fun ls hl => ?_)
                              refine lv_iinc (v := (nI (j + 1))) (lv' := [(16, .int (nI (j + 1))), (15, .int (sm (dueF Wd) (j + 1))), (18, .int 1), (17, .int (dueF Wd j)), (14, .int (sm (dueF Wd) n)), (12, .ref o4), (11, .ref o3), (10, .ref o2), (9, .ref o1), (8, .int yr), (7, .int pd), (6, .int ch), (5, .int (nI n)), (4, .int xx), (3, .int (nI t)), (0, .ref b), (1, .ref (X 0)), (2, .ref (Y 0))]) hx hb dL_law_799 hl (k := 3) rfl (nI_1 j) (by decide) rfl (fun ls hl => ?_)
                              refine lv_goto (tgt := 624) hx hb dL_law_802 (by decide) ?_
                              exact ih (j + 1) (by omega) ls (lv_sub hl [0, 1, 4, 5, 6, 7, 8, 9, 10, 11, 12, 13, 14, 15, 16, 17] rfl)
                            · exact absurd (by show yW n Wd j 4 = Wd j 4; rw [yr_alive hjn hal]; show (if Wd j 0 = 99 then 1 else Wd j 4) = Wd j 4; rw [if_neg ha9]) c_79
                          · have ha9 : Wd j 0 = 99 := c_77
                            refine lv_iconst (v := 1) hx hb dL_law_778 (by decide) ?_
                            refine lv_goto (tgt := 787) hx hb dL_law_779 (by decide) ?_
                            refine lv_icmp_eq (tgt := 792) hx hb dL_law_787 (by decide) (fun c_81 => ?_) (fun c_81 => ?_)
                            · refine lv_iload hx hb dL_law_792 (lv_at hl 3 rfl) ?_
                              refine lv_iload hx hb dL_law_794 (lv_at hl 1 rfl) ?_
                              refine lv_iadd hx hb dL_law_796 ?_
                              rw [show ((sm (dueF Wd) j) + (dueF Wd j) : Int32) = sm (dueF Wd) (j + 1) from rfl]
                              refine lv_istore (lv' := [(15, .int (sm (dueF Wd) (j + 1))), (18, .int 1), (17, .int (dueF Wd j)), (16, .int (nI j)), (14, .int (sm (dueF Wd) n)), (12, .ref o4), (11, .ref o3), (10, .ref o2), (9, .ref o1), (8, .int yr), (7, .int pd), (6, .int ch), (5, .int (nI n)), (4, .int xx), (3, .int (nI t)), (0, .ref b), (1, .ref (X 0)), (2, .ref (Y 0))]) hx hb dL_law_797 hl (by decide) rfl (fun ls hl => ?_)
                              refine lv_iinc (v := (nI (j + 1))) (lv' := [(16, .int (nI (j + 1))), (15, .int (sm (dueF Wd) (j + 1))), (18, .int 1), (17, .int (dueF Wd j)), (14, .int (sm (dueF Wd) n)), (12, .ref o4), (11, .ref o3), (10, .ref o2), (9, .ref o1), (8, .int yr), (7, .int pd), (6, .int ch), (5, .int (nI n)), (4, .int xx), (3, .int (nI t)), (0, .ref b), (1, .ref (X 0)), (2, .ref (Y 0))]) hx hb dL_law_799 hl (k := 3) rfl (nI_1 j) (by decide) rfl (fun ls hl => ?_)
                              refine lv_goto (tgt := 624) hx hb dL_law_802 (by decide) ?_
                              exact ih (j + 1) (by omega) ls (lv_sub hl [0, 1, 4, 5, 6, 7, 8, 9, 10, 11, 12, 13, 14, 15, 16, 17] rfl)
                            · exact absurd (by show yW n Wd j 4 = 1; rw [yr_alive hjn hal]; show (if Wd j 0 = 99 then 1 else Wd j 4) = 1; rw [if_pos ha9]) c_81
  refine lv_aload_n hx hb dL_law_606 rfl (lv_at hl 11 rfl) ?_
  refine lv_iconst (v := 1) hx hb dL_law_607 (by decide) ?_
  refine wr_i (runV1 (As := [.int 1]) (rest := []) ⟨hx, hb, hml, hown, hts⟩ (met_X3_pass l dC dI cI cW X Bk Br d r n ch pd pr yr Wd 0 0 0 0 0 (fun _ _ => 0) _ hn hok 1 (by omega) (by omega) hi hi0 _) (cwV 1 hts gL_law_X3_pass rfl rfl rfl (by decide +kernel) ⟨Nat.le_of_ble_eq_true rfl, Nat.le_of_ble_eq_true rfl⟩) hKK hP hD 3 27 rfl cw_obj rfl hl.1 (Nat.le_of_ble_eq_true rfl) rfl dL_law_608 ⟨by show _ ≤ 600130; omega, by show _ ≤ 7301080; omega⟩) hD hS hA (fun r_1 H locs hr_1 hP hD hS => ?_)
  subst hr_1
  have hP : va_P (dC, dI) vwCl (tab cI X d r ++ (bk cW X Bk n ((yIter (r 0) n 1 (ch, pd, yr, Wd)).1) ((yIter (r 0) n 1 (ch, pd, yr, Wd)).2.1) pr ((yIter (r 0) n 1 (ch, pd, yr, Wd)).2.2.1) ((yIter (r 0) n 1 (ch, pd, yr, Wd)).2.2.2) ++ (bk cW X Br 0 0 0 0 0 (fun _ _ => 0) ++ (obj X Bk Br :: ([(o4, .inl (cI, n, .inl (msk (fun k => Wd k 4) n))), (o3, .inl (cI, n, .inl (msk (fun k => Wd k 0) n))), (o2, .inl (cI, n, .inl (msk (fun k => Wd k 5) n))), (o1, .inl (cI, n, .inl (msk (fun k => Wd k 2) n)))] ++ (si cI cV Y Ya V n d r ch pd yr Wd ++ [])))))) H := hP
  have hD : va_D A (tab cI X d r ++ (bk cW X Bk n ((yIter (r 0) n 1 (ch, pd, yr, Wd)).1) ((yIter (r 0) n 1 (ch, pd, yr, Wd)).2.1) pr ((yIter (r 0) n 1 (ch, pd, yr, Wd)).2.2.1) ((yIter (r 0) n 1 (ch, pd, yr, Wd)).2.2.2) ++ (bk cW X Br 0 0 0 0 0 (fun _ _ => 0) ++ (obj X Bk Br :: ([(o4, .inl (cI, n, .inl (msk (fun k => Wd k 4) n))), (o3, .inl (cI, n, .inl (msk (fun k => Wd k 0) n))), (o2, .inl (cI, n, .inl (msk (fun k => Wd k 5) n))), (o1, .inl (cI, n, .inl (msk (fun k => Wd k 2) n)))] ++ (si cI cV Y Ya V n d r ch pd yr Wd ++ [])))))) := hD
  rw [show ((yIter (r 0) n 1 (ch, pd, yr, Wd)).2.1 - pd : Int32) = sm (dueF Wd) n from paid_1 pd (sm (dueF Wd) n)]
  have hP : va_P (dC, dI) vwCl (tab cI X d r ++ (bk cW X Bk n (intS (r 0) ch - sm (dueF Wd) n) (pd + sm (dueF Wd) n) pr (yr + 1) (yW n Wd) ++ (bk cW X Br 0 0 0 0 0 (fun _ _ => 0) ++ (obj X Bk Br :: ([(o4, .inl (cI, n, .inl (msk (fun k => Wd k 4) n))), (o3, .inl (cI, n, .inl (msk (fun k => Wd k 0) n))), (o2, .inl (cI, n, .inl (msk (fun k => Wd k 5) n))), (o1, .inl (cI, n, .inl (msk (fun k => Wd k 2) n)))] ++ (si cI cV Y Ya V n d r ch pd yr Wd ++ [])))))) _ := hP
  have hD : va_D A (tab cI X d r ++ (bk cW X Bk n (intS (r 0) ch - sm (dueF Wd) n) (pd + sm (dueF Wd) n) pr (yr + 1) (yW n Wd) ++ (bk cW X Br 0 0 0 0 0 (fun _ _ => 0) ++ (obj X Bk Br :: ([(o4, .inl (cI, n, .inl (msk (fun k => Wd k 4) n))), (o3, .inl (cI, n, .inl (msk (fun k => Wd k 0) n))), (o2, .inl (cI, n, .inl (msk (fun k => Wd k 5) n))), (o1, .inl (cI, n, .inl (msk (fun k => Wd k 2) n)))] ++ (si cI cV Y Ya V n d r ch pd yr Wd ++ [])))))) := hD
  refine lv_istore (lv' := [(14, .int (sm (dueF Wd) n)), (12, .ref o4), (11, .ref o3), (10, .ref o2), (9, .ref o1), (8, .int yr), (7, .int pd), (6, .int ch), (5, .int (nI n)), (4, .int xx), (3, .int (nI t)), (0, .ref b), (1, .ref (X 0)), (2, .ref (Y 0))]) hx hb dL_law_611 hl (by decide) rfl (fun ls hl => ?_)
  refine lv_aload_n hx hb dL_law_613 rfl (lv_at hl 13 rfl) ?_
  have hP : va_P (dC, dI) vwCl (si cI cV Y Ya V n d r ch pd yr Wd ++ (tab cI X d r ++ (bk cW X Bk n (intS (r 0) ch - sm (dueF Wd) n) (pd + sm (dueF Wd) n) pr (yr + 1) (yW n Wd) ++ (bk cW X Br 0 0 0 0 0 (fun _ _ => 0) ++ (obj X Bk Br :: ([(o4, .inl (cI, n, .inl (msk (fun k => Wd k 4) n))), (o3, .inl (cI, n, .inl (msk (fun k => Wd k 0) n))), (o2, .inl (cI, n, .inl (msk (fun k => Wd k 5) n))), (o1, .inl (cI, n, .inl (msk (fun k => Wd k 2) n)))] ++ [])))))) _ := va_P_perm (pm_in1 _ _ _ _ _ _ _) hP
  have hD : va_D A (si cI cV Y Ya V n d r ch pd yr Wd ++ (tab cI X d r ++ (bk cW X Bk n (intS (r 0) ch - sm (dueF Wd) n) (pd + sm (dueF Wd) n) pr (yr + 1) (yW n Wd) ++ (bk cW X Br 0 0 0 0 0 (fun _ _ => 0) ++ (obj X Bk Br :: ([(o4, .inl (cI, n, .inl (msk (fun k => Wd k 4) n))), (o3, .inl (cI, n, .inl (msk (fun k => Wd k 0) n))), (o2, .inl (cI, n, .inl (msk (fun k => Wd k 5) n))), (o1, .inl (cI, n, .inl (msk (fun k => Wd k 2) n)))] ++ [])))))) := va_D_perm (pm_in1 _ _ _ _ _ _ _) hD
  refine wr_i (runV1S (As := []) (rest := []) ⟨hx, hb, hml, hown, hts⟩ (met_X4_pass l dC dI cI cW cV Y Ya V n d r ch pd yr Wd _ hn hok hyr _) (cwV 0 hts gL_law_X4_pass rfl rfl rfl (by decide +kernel) ⟨Nat.le_of_ble_eq_true rfl, Nat.le_of_ble_eq_true rfl⟩) hKS hP hD 4 0 rfl rfl rfl hl.1 (Nat.le_of_ble_eq_true rfl) rfl dL_law_614 ⟨by show _ ≤ 600130; omega, by show _ ≤ 7301080; omega⟩) hD hS hA (fun r_3 H locs hr_3 hP hD hS => ?_)
  subst hr_3
  have hP : va_P (dC, dI) vwCl (tab cI X d r ++ (bk cW X Bk n (intS (r 0) ch - sm (dueF Wd) n) (pd + sm (dueF Wd) n) pr (yr + 1) (yW n Wd) ++ (bk cW X Br 0 0 0 0 0 (fun _ _ => 0) ++ (obj X Bk Br :: ([(o4, .inl (cI, n, .inl (msk (fun k => Wd k 4) n))), (o3, .inl (cI, n, .inl (msk (fun k => Wd k 0) n))), (o2, .inl (cI, n, .inl (msk (fun k => Wd k 5) n))), (o1, .inl (cI, n, .inl (msk (fun k => Wd k 2) n)))] ++ (si cI cV Y Ya V n d r (intS (r 0) ch - sm (dueF Wd) n) (pd + sm (dueF Wd) n) (yr + 1) (yW n Wd) ++ [])))))) H := va_P_perm (pm_in1 _ _ _ _ _ _ _).symm hP
  have hD : va_D A (tab cI X d r ++ (bk cW X Bk n (intS (r 0) ch - sm (dueF Wd) n) (pd + sm (dueF Wd) n) pr (yr + 1) (yW n Wd) ++ (bk cW X Br 0 0 0 0 0 (fun _ _ => 0) ++ (obj X Bk Br :: ([(o4, .inl (cI, n, .inl (msk (fun k => Wd k 4) n))), (o3, .inl (cI, n, .inl (msk (fun k => Wd k 0) n))), (o2, .inl (cI, n, .inl (msk (fun k => Wd k 5) n))), (o1, .inl (cI, n, .inl (msk (fun k => Wd k 2) n)))] ++ (si cI cV Y Ya V n d r (intS (r 0) ch - sm (dueF Wd) n) (pd + sm (dueF Wd) n) (yr + 1) (yW n Wd) ++ [])))))) := va_D_perm (pm_in1 _ _ _ _ _ _ _).symm hD
  refine lv_pop hx hb dL_law_617 rfl ?_
  refine lv_iconst (v := 0) hx hb dL_law_618 (by decide) ?_
  refine lv_istore (lv' := [(15, .int 0), (14, .int (sm (dueF Wd) n)), (12, .ref o4), (11, .ref o3), (10, .ref o2), (9, .ref o1), (8, .int yr), (7, .int pd), (6, .int ch), (5, .int (nI n)), (4, .int xx), (3, .int (nI t)), (0, .ref b), (1, .ref (X 0)), (2, .ref (Y 0))]) hx hb dL_law_619 hl (by decide) rfl (fun ls hl => ?_)
  refine lv_iconst (v := 0) hx hb dL_law_621 (by decide) ?_
  refine lv_istore (lv' := [(16, .int 0), (15, .int 0), (14, .int (sm (dueF Wd) n)), (12, .ref o4), (11, .ref o3), (10, .ref o2), (9, .ref o1), (8, .int yr), (7, .int pd), (6, .int ch), (5, .int (nI n)), (4, .int xx), (3, .int (nI t)), (0, .ref b), (1, .ref (X 0)), (2, .ref (Y 0))]) hx hb dL_law_622 hl (by decide) rfl (fun ls hl => ?_)
  exact key _ _ hP hD hS n 0 (by omega) ls (lv_sub hl [0, 1, 2, 3, 4, 5, 6, 7, 8, 9, 10, 11, 12, 13, 14, 15] rfl)
