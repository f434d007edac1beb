set_option maxHeartbeats 4000000 in
set_option maxRecDepth 100000 in
theorem met_L_act (l : Launch) (dC : Nat → ClassId) (dI : Nat → Nat → Nat) (cI cW cV : ClassId) (X Bk Br : Nat → Nat) (Y : Nat → Nat) (Ya : Nat) (V : Nat → Nat) (d r : Nat → Int32) (n : Nat) (ch pd pr yr : Int32) (Wd : Nat → Nat → Int32) (R : va_W) (x : Int32) (i : Nat) (hI : Inv2 i d r n ch pr Wd) (hi5 : i ≤ 500) (sz : Nat) : Met l yL_act wsL_act ({ frames := 8, cells := 2, slots := 17, locals := 156 }) (Pre1S dC dI cI cW cV [.ref (X 0), .ref (Y 0), .int x] (tab cI X d r ++ (bk cW X Bk n ch pd pr yr Wd ++ (bk cW X Br 0 0 0 0 0 (fun _ _ => 0) ++ (obj X Bk Br :: (si cI cV Y Ya V n d r ch pd yr Wd ++ R))))) sz) (QA dC dI cI cW cV X Bk Br Y R (i + 1) (tab cI X d r ++ (bk cW X Bk n ch pd pr yr Wd ++ (bk cW X Br 0 0 0 0 0 (fun _ _ => 0) ++ (obj X Bk Br :: (si cI cV Y Ya V n d r ch pd yr Wd ++ R))))) sz) 2 17 (va_A (tab cI X d r ++ (bk cW X Bk n ch pd pr yr Wd ++ (bk cW X Br 0 0 0 0 0 (fun _ _ => 0) ++ (obj X Bk Br :: (si cI cV Y Ya V n d r ch pd yr Wd ++ R))))) sz) := by
  refine Met.ofW (cc := cL_act) (maxL := 19) (ret := (some .boolean)) (by decide) rfl ?_
  intro p e s m args below meth c s₁ B hml hv
  obtain ⟨rfl, hsz, hP, hD0, hKS⟩ := hv
  have hKK := hKS.1
  have hKV := hKS.2.1
  subst hsz
  have hx := B.exec
  have hb := B.bytes
  have hr := B.returns
  have hts := atoms_spec (ws := wsL_act) B.pre
  have hown : s.vm.findClass RL = some m.cls := findClass_of_methodNamed B.named
  have hlocks := B.notSynchronized
  have C9 : AC p s m meth c dC dI cI cW cV ([.ref (X 0), .ref (Y 0), .int x] : List Value).toArray := ⟨hx, hb, hr, hml, hown, hts, hlocks, hKS⟩
  have hn := hI.1.2.2.1
  have hD := hD0.self (sz := s.heap.size)
  generalize hAe : va_A (tab cI X d r ++ (bk cW X Bk n ch pd pr yr Wd ++ (bk cW X Br 0 0 0 0 0 (fun _ _ => 0) ++ (obj X Bk Br :: (si cI cV Y Ya V n d r ch pd yr Wd ++ R))))) s.heap.size = A at hD ⊢
  have hA : ∀ q : Nat, s.heap.size ≤ q → A q := fun q h => by rw [← hAe]; exact Or.inr h
  have hS : va_S A s.heap s.heap [] := va_S.rf
  have hl := lv_entry ([.ref (X 0), .ref (Y 0), .int x]) (n := 19) (Nat.le_of_ble_eq_true rfl)
  rw [lg_entry_eq]
  generalize (lg_sl ([.ref (X 0), .ref (Y 0), .int x]) ++ List.replicate (19 - (lg_sl ([.ref (X 0), .ref (Y 0), .int x])).length) Slot.unset).toArray = ls at hl ⊢
  have hl : lv_has ls 19 [(0, .ref (X 0)), (1, .ref (Y 0)), (2, .int x)] := hl
  obtain ⟨kc, hkc, ekc⟩ := bel_nI (x >>> (9 &&& 31)) (n := 16) (by omega) (by omega)
  rcases Nat.eq_zero_or_pos n with hn0 | hn1
  · refine lv_aload_n hx hb dL_act_0 rfl (lv_at hl 1 rfl) ?_
    refine va_get (D := (dC, dI)) (ci := 4) (v := .ref Ya) (C := RX4) (T := TX4) (N := 6) hx hb hts (by decide +kernel) hown hKK.1 (siP0 hP) 0 rfl rfl 5 (by decide) (hts (.fieldLink RL 9 "WidowPenniesLaw$Sim" "all" "[LWidowPenniesLaw$Widow;") (by decide +kernel)) (fun _ h9 => h9) rfl dL_act_1 ?_
    refine va_alen (v := nI n) hx hb hKV (siP0 hP) 3 0 rfl rfl rfl dL_act_4 ?_
    refine lv_istore_n (lv' := [(3, .int (nI n)), (0, .ref (X 0)), (1, .ref (Y 0)), (2, .int x)]) hx hb dL_act_5 rfl hl (by decide) rfl (fun ls hl => ?_)
    refine lv_iload_n hx hb dL_act_6 rfl (lv_at hl 0 rfl) ?_
    refine lv_if_ne (tgt := 14) hx hb dL_act_7 (by decide) (fun c_1 => ?_) (fun c_1 => ?_)
    · exact absurd (by rw [hn0]; rfl) c_1
    · refine lv_iconst (v := 0) hx hb dL_act_10 (by decide) ?_
      refine lv_goto (tgt := 21) hx hb dL_act_11 (by decide) ?_
      refine lv_istore (lv' := [(4, .int 0), (3, .int (nI n)), (0, .ref (X 0)), (1, .ref (Y 0)), (2, .int x)]) hx hb dL_act_21 hl (by decide) rfl (fun ls hl => ?_)
      refine lv_iload_n hx hb dL_act_23 rfl (lv_at hl 1 rfl) ?_
      refine lv_if_ne (tgt := 31) hx hb dL_act_24 (by decide) (fun c_2 => ?_) (fun c_2 => ?_)
      · exact absurd (by rw [hn0]; rfl) c_2
      · refine lv_null hx hb dL_act_27 ?_
        refine lv_goto (tgt := 38) hx hb dL_act_28 (by decide) ?_
        refine lv_astoreN (lv' := [(5, .null), (4, .int 0), (3, .int (nI n)), (0, .ref (X 0)), (1, .ref (Y 0)), (2, .int x)]) hx hb dL_act_38 hl (by decide) rfl (fun ls hl => ?_)
        refine lv_iload_n hx hb dL_act_40 rfl (lv_at hl 5 rfl) ?_
        refine lv_bipush (v := 9) hx hb dL_act_41 (by decide) ?_
        refine lv_ishr hx hb dL_act_43 ?_
        refine lv_bipush (v := 16) hx hb dL_act_44 (by decide) ?_
        refine rd_i (runS0 (As := [.int (x >>> (9 &&& 31)), .int 16]) (rest := []) ⟨hx, hb, hml, hown, hts⟩ (met_L_below l dC dI cI cW (x >>> (9 &&& 31)) 16 (by decide)) (va_cwS 2 hts gL_act_L_below rfl rfl rfl (by decide +kernel) ⟨Nat.le_of_ble_eq_true rfl, Nat.le_of_ble_eq_true rfl⟩) hKK nilP rfl hl.1 (Nat.le_of_ble_eq_true rfl) rfl dL_act_46 ⟨Nat.le_of_ble_eq_true rfl, Nat.le_of_ble_eq_true rfl⟩) (fun r_3 hr_3 => ?_)
        subst hr_3
        rw [show (belS (x >>> (9 &&& 31)) 16 : Int32) = nI kc from ekc]
        rcases (show kc = 0 ∨ kc = 1 ∨ kc = 2 ∨ kc = 3 ∨ kc = 4 ∨ kc = 5 ∨ kc = 6 ∨ kc = 7 ∨ kc = 8 ∨ kc = 9 ∨ 9 < kc by omega) with rfl | rfl | rfl | rfl | rfl | rfl | rfl | rfl | rfl | rfl | h9
        · refine lv_tableIn (tgt := 104) (off := 55) hx hb dL_act_49 (by decide) (by decide) rfl (by decide) ?_
          refine W.widen (k := 2) (n := 17) (by omega) (by omega) ?_
          exact act_c0 C9 hAe hI hi5 hP hD hS (lv_sub hl [3, 4, 5, 2] rfl)
        · refine lv_tableIn (tgt := 180) (off := 131) hx hb dL_act_49 (by decide) (by decide) rfl (by decide) ?_
          refine W.widen (k := 2) (n := 17) (by omega) (by omega) ?_
          exact act_c1 C9 hAe hI hi5 hP hD hS (lv_sub hl [3, 4, 5, 2] rfl)
        · refine lv_tableIn (tgt := 248) (off := 199) hx hb dL_act_49 (by decide) (by decide) rfl (by decide) ?_
          refine W.widen (k := 2) (n := 17) (by omega) (by omega) ?_
          exact act_c2n C9 hAe hI hi5 hn0 hP hD hS (lv_sub hl [0, 1, 3, 4, 5, 2] rfl)
        · refine lv_tableIn (tgt := 301) (off := 252) hx hb dL_act_49 (by decide) (by decide) rfl (by decide) ?_
          refine W.widen (k := 2) (n := 17) (by omega) (by omega) ?_
          exact act_c3n C9 hAe hI hi5 hn0 hP hD hS (lv_sub hl [0, 1, 3, 4, 5, 2] rfl)
        · refine lv_tableIn (tgt := 301) (off := 252) hx hb dL_act_49 (by decide) (by decide) rfl (by decide) ?_
          refine W.widen (k := 2) (n := 17) (by omega) (by omega) ?_
          exact act_c3n C9 hAe hI hi5 hn0 hP hD hS (lv_sub hl [0, 1, 3, 4, 5, 2] rfl)
        · refine lv_tableIn (tgt := 397) (off := 348) hx hb dL_act_49 (by decide) (by decide) rfl (by decide) ?_
          refine W.widen (k := 2) (n := 17) (by omega) (by omega) ?_
          exact act_c5 C9 hAe hI hi5 hP hD hS (lv_sub hl [3, 4, 5, 2] rfl)
        · refine lv_tableIn (tgt := 397) (off := 348) hx hb dL_act_49 (by decide) (by decide) rfl (by decide) ?_
          refine W.widen (k := 2) (n := 17) (by omega) (by omega) ?_
          exact act_c5 C9 hAe hI hi5 hP hD hS (lv_sub hl [3, 4, 5, 2] rfl)
        · refine lv_tableIn (tgt := 464) (off := 415) hx hb dL_act_49 (by decide) (by decide) rfl (by decide) ?_
          refine W.widen (k := 2) (n := 17) (by omega) (by omega) ?_
          exact act_c7 C9 hAe hI hi5 hP hD hS (lv_sub hl [3, 4, 5, 2] rfl)
        · refine lv_tableIn (tgt := 464) (off := 415) hx hb dL_act_49 (by decide) (by decide) rfl (by decide) ?_
          refine W.widen (k := 2) (n := 17) (by omega) (by omega) ?_
          exact act_c7 C9 hAe hI hi5 hP hD hS (lv_sub hl [3, 4, 5, 2] rfl)
        · refine lv_tableIn (tgt := 464) (off := 415) hx hb dL_act_49 (by decide) (by decide) rfl (by decide) ?_
          refine W.widen (k := 2) (n := 17) (by omega) (by omega) ?_
          exact act_c7 C9 hAe hI hi5 hP hD hS (lv_sub hl [3, 4, 5, 2] rfl)
        · refine lv_tableOut (tgt := 533) hx hb dL_act_49 (Or.inr (by rw [nI_toInt (by omega)]; omega)) (by decide) ?_
          exact act_c10 C9 hAe hI hi5 hP hD hS (lv_sub hl [3, 4, 5, 2] rfl)
  · obtain ⟨k, hk, ek⟩ := bel_nI (x >>> (1 &&& 31)) (n := n) hn1 (by omega)
    refine lv_aload_n hx hb dL_act_0 rfl (lv_at hl 1 rfl) ?_
    refine va_get (D := (dC, dI)) (ci := 4) (v := .ref Ya) (C := RX4) (T := TX4) (N := 6) hx hb hts (by decide +kernel) hown hKK.1 (siP0 hP) 0 rfl rfl 5 (by decide) (hts (.fieldLink RL 9 "WidowPenniesLaw$Sim" "all" "[LWidowPenniesLaw$Widow;") (by decide +kernel)) (fun _ h9 => h9) rfl dL_act_1 ?_
    refine va_alen (v := nI n) hx hb hKV (siP0 hP) 3 0 rfl rfl rfl dL_act_4 ?_
    refine lv_istore_n (lv' := [(3, .int (nI n)), (0, .ref (X 0)), (1, .ref (Y 0)), (2, .int x)]) hx hb dL_act_5 rfl hl (by decide) rfl (fun ls hl => ?_)
    refine lv_iload_n hx hb dL_act_6 rfl (lv_at hl 0 rfl) ?_
    refine lv_if_ne (tgt := 14) hx hb dL_act_7 (by decide) (fun c_1 => ?_) (fun c_1 => ?_)
    · refine lv_iload_n hx hb dL_act_14 rfl (lv_at hl 3 rfl) ?_
      refine lv_iconst (v := 1) hx hb dL_act_15 (by decide) ?_
      refine lv_ishr hx hb dL_act_16 ?_
      refine lv_iload_n hx hb dL_act_17 rfl (lv_at hl 0 rfl) ?_
      refine rd_i (runS0 (As := [.int (x >>> (1 &&& 31)), .int (nI n)]) (rest := []) ⟨hx, hb, hml, hown, hts⟩ (met_L_below l dC dI cI cW (x >>> (1 &&& 31)) (nI n) (nI_ne0 hn1 (by omega))) (va_cwS 2 hts gL_act_L_below rfl rfl rfl (by decide +kernel) ⟨Nat.le_of_ble_eq_true rfl, Nat.le_of_ble_eq_true rfl⟩) hKK nilP rfl hl.1 (Nat.le_of_ble_eq_true rfl) rfl dL_act_18 ⟨Nat.le_of_ble_eq_true rfl, Nat.le_of_ble_eq_true rfl⟩) (fun r_2 hr_2 => ?_)
      subst hr_2
      rw [show (belS (x >>> (1 &&& 31)) (nI n) : Int32) = nI k from ek]
      refine lv_istore (lv' := [(4, .int (nI k)), (3, .int (nI n)), (0, .ref (X 0)), (1, .ref (Y 0)), (2, .int x)]) hx hb dL_act_21 hl (by decide) rfl (fun ls hl => ?_)
      refine lv_iload_n hx hb dL_act_23 rfl (lv_at hl 1 rfl) ?_
      refine lv_if_ne (tgt := 31) hx hb dL_act_24 (by decide) (fun c_4 => ?_) (fun c_4 => ?_)
      · refine lv_aload_n hx hb dL_act_31 rfl (lv_at hl 3 rfl) ?_
        refine va_get (D := (dC, dI)) (ci := 4) (v := .ref Ya) (C := RX4) (T := TX4) (N := 6) hx hb hts (by decide +kernel) hown hKK.1 (siP0 hP) 0 rfl rfl 5 (by decide) (hts (.fieldLink RL 9 "WidowPenniesLaw$Sim" "all" "[LWidowPenniesLaw$Widow;") (by decide +kernel)) (fun _ h9 => h9) rfl dL_act_32 ?_
        refine lv_iload hx hb dL_act_35 (lv_at hl 0 rfl) ?_
        refine va_aldq hx hb hKV (siP0 hP) 3 0 rfl rfl (vp_in_nI hk (by omega)) dL_act_37 ?_
        rw [show va_rf ((fun k => some (V k)) (nI k).toNatClampNeg) = .ref (V k) from by rw [clamp_nI (show k < 2147483648 by omega)]; rfl]
        refine lv_astore (lv' := [(5, .ref (V k)), (4, .int (nI k)), (3, .int (nI n)), (0, .ref (X 0)), (1, .ref (Y 0)), (2, .int x)]) hx hb dL_act_38 hl (by decide) rfl (fun ls hl => ?_)
        refine lv_iload_n hx hb dL_act_40 rfl (lv_at hl 5 rfl) ?_
        refine lv_bipush (v := 9) hx hb dL_act_41 (by decide) ?_
        refine lv_ishr hx hb dL_act_43 ?_
        refine lv_bipush (v := 16) hx hb dL_act_44 (by decide) ?_
        refine rd_i (runS0 (As := [.int (x >>> (9 &&& 31)), .int 16]) (rest := []) ⟨hx, hb, hml, hown, hts⟩ (met_L_below l dC dI cI cW (x >>> (9 &&& 31)) 16 (by decide)) (va_cwS 2 hts gL_act_L_below rfl rfl rfl (by decide +kernel) ⟨Nat.le_of_ble_eq_true rfl, Nat.le_of_ble_eq_true rfl⟩) hKK nilP rfl hl.1 (Nat.le_of_ble_eq_true rfl) rfl dL_act_46 ⟨Nat.le_of_ble_eq_true rfl, Nat.le_of_ble_eq_true rfl⟩) (fun r_5 hr_5 => ?_)
        subst hr_5
        rw [show (belS (x >>> (9 &&& 31)) 16 : Int32) = nI kc from ekc]
        rcases (show kc = 0 ∨ kc = 1 ∨ kc = 2 ∨ kc = 3 ∨ kc = 4 ∨ kc = 5 ∨ kc = 6 ∨ kc = 7 ∨ kc = 8 ∨ kc = 9 ∨ 9 < kc by omega) with rfl | rfl | rfl | rfl | rfl | rfl | rfl | rfl | rfl | rfl | h9
        · refine lv_tableIn (tgt := 104) (off := 55) hx hb dL_act_49 (by decide) (by decide) rfl (by decide) ?_
          refine W.widen (k := 2) (n := 17) (by omega) (by omega) ?_
          exact act_c0 C9 hAe hI hi5 hP hD hS (lv_sub hl [3, 4, 5, 2] rfl)
        · refine lv_tableIn (tgt := 180) (off := 131) hx hb dL_act_49 (by decide) (by decide) rfl (by decide) ?_
          refine W.widen (k := 2) (n := 17) (by omega) (by omega) ?_
          exact act_c1 C9 hAe hI hi5 hP hD hS (lv_sub hl [3, 4, 5, 2] rfl)
        · refine lv_tableIn (tgt := 248) (off := 199) hx hb dL_act_49 (by decide) (by decide) rfl (by decide) ?_
          refine W.widen (k := 2) (n := 17) (by omega) (by omega) ?_
          exact act_c2k C9 hAe hI hi5 hk hP hD hS (lv_sub hl [0, 1, 3, 4, 5, 2] rfl)
        · refine lv_tableIn (tgt := 301) (off := 252) hx hb dL_act_49 (by decide) (by decide) rfl (by decide) ?_
          refine W.widen (k := 2) (n := 17) (by omega) (by omega) ?_
          exact act_c3k C9 hAe hI hi5 hk hP hD hS (lv_sub hl [0, 1, 3, 4, 5, 2] rfl)
        · refine lv_tableIn (tgt := 301) (off := 252) hx hb dL_act_49 (by decide) (by decide) rfl (by decide) ?_
          refine W.widen (k := 2) (n := 17) (by omega) (by omega) ?_
          exact act_c3k C9 hAe hI hi5 hk hP hD hS (lv_sub hl [0, 1, 3, 4, 5, 2] rfl)
        · refine lv_tableIn (tgt := 397) (off := 348) hx hb dL_act_49 (by decide) (by decide) rfl (by decide) ?_
          refine W.widen (k := 2) (n := 17) (by omega) (by omega) ?_
          exact act_c5 C9 hAe hI hi5 hP hD hS (lv_sub hl [3, 4, 5, 2] rfl)
        · refine lv_tableIn (tgt := 397) (off := 348) hx hb dL_act_49 (by decide) (by decide) rfl (by decide) ?_
          refine W.widen (k := 2) (n := 17) (by omega) (by omega) ?_
          exact act_c5 C9 hAe hI hi5 hP hD hS (lv_sub hl [3, 4, 5, 2] rfl)
        · refine lv_tableIn (tgt := 464) (off := 415) hx hb dL_act_49 (by decide) (by decide) rfl (by decide) ?_
          refine W.widen (k := 2) (n := 17) (by omega) (by omega) ?_
          exact act_c7 C9 hAe hI hi5 hP hD hS (lv_sub hl [3, 4, 5, 2] rfl)
        · refine lv_tableIn (tgt := 464) (off := 415) hx hb dL_act_49 (by decide) (by decide) rfl (by decide) ?_
          refine W.widen (k := 2) (n := 17) (by omega) (by omega) ?_
          exact act_c7 C9 hAe hI hi5 hP hD hS (lv_sub hl [3, 4, 5, 2] rfl)
        · refine lv_tableIn (tgt := 464) (off := 415) hx hb dL_act_49 (by decide) (by decide) rfl (by decide) ?_
          refine W.widen (k := 2) (n := 17) (by omega) (by omega) ?_
          exact act_c7 C9 hAe hI hi5 hP hD hS (lv_sub hl [3, 4, 5, 2] rfl)
        · refine lv_tableOut (tgt := 533) hx hb dL_act_49 (Or.inr (by rw [nI_toInt (by omega)]; omega)) (by decide) ?_
          exact act_c10 C9 hAe hI hi5 hP hD hS (lv_sub hl [3, 4, 5, 2] rfl)
      · exact absurd c_4 (nI_ne0 hn1 (by omega))
    · exact absurd c_1 (nI_ne0 hn1 (by omega))
