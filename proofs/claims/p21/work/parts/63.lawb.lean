set_option maxHeartbeats 4000000 in
set_option maxRecDepth 100000 in
theorem law_buyC {p : Program} {l : Launch} {e : Env} {s : State} {m : MethodId} {below : List Frame} {meth : Method} {c : Code} {b L : Nat} {xs : Nat → Int32} {dC : Nat → ClassId} {dI : Nat → Nat → Nat} {cI cW cV : ClassId} {X Bk Br Y : Nat → Nat} {Ya : Nat} {V : Nat → Nat} {d r : Nat → Int32} {n : Nat} {ch pd pr yr : Int32} {Wd : Nat → Nat → Int32} {A : Nat → Prop} {t : Nat} (C9 : LC p s m meth c b L xs dC dI cI cW cV) (hAe : A = NEW s.heap.size) (ht : t < 30) (hI : Inv2 (60 + 2 * t + 1) d r n ch pr Wd) (K : LOOP p l e s m below meth c b dC dI cI cW cV X Bk Br Y (t + 1)) {xx : Int32} {ka kb ks : Nat} (hn10 : n < 10) (h1 : 50 ≤ ka) (h2 : ka ≤ 99) (h3 : kb ≤ 30) (hks : ks < 999) (hx9 : 1 ≤ nI (1 + ks) ∧ nI (1 + ks) ≤ 999) (hw : ¬ wN d (r 0) (100 - ka) kb = 0) {H : Heap} {locs : List Loc} (hP : va_P (dC, dI) vwCl (tab cI X d r ++ (bk cW X Bk (n + 1) (takeS ch (priceS (r 1) (nI (1 + ks)) (wN d (r 0) (100 - ka) kb))) pd (pr + priceS (r 1) (nI (1 + ks)) (wN d (r 0) (100 - ka) kb)) yr (upW Wd n (mkW (nI ka) (nI (1 + ks)) (nI kb) (priceS (r 1) (nI (1 + ks)) (wN d (r 0) (100 - ka) kb)))) ++ (bk cW X Br 0 0 0 0 0 (fun _ _ => 0) ++ (obj X Bk Br :: (si cI cV Y Ya V n d r ch pd yr Wd ++ []))))) H) (hD : va_D A (tab cI X d r ++ (bk cW X Bk (n + 1) (takeS ch (priceS (r 1) (nI (1 + ks)) (wN d (r 0) (100 - ka) kb))) pd (pr + priceS (r 1) (nI (1 + ks)) (wN d (r 0) (100 - ka) kb)) yr (upW Wd n (mkW (nI ka) (nI (1 + ks)) (nI kb) (priceS (r 1) (nI (1 + ks)) (wN d (r 0) (100 - ka) kb)))) ++ (bk cW X Br 0 0 0 0 0 (fun _ _ => 0) ++ (obj X Bk Br :: (si cI cV Y Ya V n d r ch pd yr Wd ++ [])))))) (hS : va_S A s.heap H locs) {ls : Array Slot} (hl : lv_has ls 20 [(17, .int (priceS (r 1) (nI (1 + ks)) (wN d (r 0) (100 - ka) kb))), (16, .int (nI (1 + ks))), (15, .int (nI kb)), (14, .int (nI ka)), (8, .int yr), (7, .int pd), (6, .int ch), (5, .int (nI n)), (4, .int xx), (3, .int (nI t)), (0, .ref b), (1, .ref (X 0)), (2, .ref (Y 0))]) : W p l e room_1 s m (#[Value.ref b]) below meth c H locs (136 + 8 * t) (1181 + 74 * t) (lw_Z below #[Value.ref b] s) (F0 m 501 ls []) := by
  obtain ⟨hx, hb, hr, hml, hown, hts, hlocks, hKS, hX, hbl, hL⟩ := C9
  have hKK := hKS.1
  have hKV := hKS.2.1
  have hn := hI.1.2.2.1
  have hok := hI.1.2.2.2.1
  have hi := hI.1.hi.1
  have hi0 := hI.1.hi.2
  have hA : ∀ q : Nat, s.heap.size ≤ q → A q := fun q h => by rw [hAe]; exact h
  have hbA : ¬ A b := by rw [hAe]; exact Nat.not_le.mpr hbl
  have tail : ∀ (q : Nat) (H : Heap) (locs : List Loc), va_P (dC, dI) vwCl (tab cI X d r ++ (bk cW X Bk (n + 1) (takeS ch (priceS (r 1) (nI (1 + ks)) (wN d (r 0) (100 - ka) kb))) pd (pr + priceS (r 1) (nI (1 + ks)) (wN d (r 0) (100 - ka) kb)) yr (upW Wd n (mkW (nI ka) (nI (1 + ks)) (nI kb) (priceS (r 1) (nI (1 + ks)) (wN d (r 0) (100 - ka) kb)))) ++ (bk cW X Br 0 0 0 0 0 (fun _ _ => 0) ++ (obj X Bk Br :: ([(q, .inl (cV, n + 1, .inr (.inr (.inr (.inr (arrS V n))))))] ++ (si cI cV Y Ya V n d r ch pd yr Wd ++ [])))))) H → va_D A (tab cI X d r ++ (bk cW X Bk (n + 1) (takeS ch (priceS (r 1) (nI (1 + ks)) (wN d (r 0) (100 - ka) kb))) pd (pr + priceS (r 1) (nI (1 + ks)) (wN d (r 0) (100 - ka) kb)) yr (upW Wd n (mkW (nI ka) (nI (1 + ks)) (nI kb) (priceS (r 1) (nI (1 + ks)) (wN d (r 0) (100 - ka) kb)))) ++ (bk cW X Br 0 0 0 0 0 (fun _ _ => 0) ++ (obj X Bk Br :: ([(q, .inl (cV, n + 1, .inr (.inr (.inr (.inr (arrS V n))))))] ++ (si cI cV Y Ya V n d r ch pd yr Wd ++ [])))))) → va_S A s.heap H locs → ∀ ls : Array Slot, lv_has ls 20 [(18, .ref q), (17, .int (priceS (r 1) (nI (1 + ks)) (wN d (r 0) (100 - ka) kb))), (16, .int (nI (1 + ks))), (15, .int (nI kb)), (14, .int (nI ka)), (8, .int yr), (7, .int pd), (6, .int ch), (5, .int (nI n)), (4, .int xx), (3, .int (nI t)), (0, .ref b), (1, .ref (X 0)), (2, .ref (Y 0))] → W p l e room_1 s m (#[Value.ref b]) below meth c H locs (137 + 8 * t) (1181 + 74 * t + (n + 1)) (lw_Z below #[Value.ref b] s) (F0 m 538 ls []) := by
    intro q H locs hP hD hS ls hl
    refine lv_aload hx hb dL_law_538 (lv_at hl 0 rfl) ?_
    refine lv_iload hx hb dL_law_540 (lv_at hl 8 rfl) ?_
    refine va_new (ci := 5) (fs := row (fun _ => 0)) (C := RX5) (T := TX5) (N := 7) hx hb hts inlX5 tyX5 tyX5_ok hown (hts (.classLink RL 37 RX5) (by decide +kernel)) (hts (.instantiable RX5 7) (by decide +kernel)) (hts (.initialized RX5) (by decide +kernel)) hKK.1 hP hD hS hA rfl (fun j hj => by rcases (show j = 0 ∨ j = 1 ∨ j = 2 ∨ j = 3 ∨ j = 4 ∨ j = 5 ∨ j = 6 by omega) with rfl | rfl | rfl | rfl | rfl | rfl | rfl <;> rfl) (by show _ ≤ 600130; omega) (by show _ ≤ 7301080; omega) dL_law_542 (fun w H hP hD hS => ?_)
    have hP : va_P (dC, dI) vwCl ([(w, .inr (5, row (fun _ => 0)))] ++ (tab cI X d r ++ (bk cW X Bk (n + 1) (takeS ch (priceS (r 1) (nI (1 + ks)) (wN d (r 0) (100 - ka) kb))) pd (pr + priceS (r 1) (nI (1 + ks)) (wN d (r 0) (100 - ka) kb)) yr (upW Wd n (mkW (nI ka) (nI (1 + ks)) (nI kb) (priceS (r 1) (nI (1 + ks)) (wN d (r 0) (100 - ka) kb)))) ++ (bk cW X Br 0 0 0 0 0 (fun _ _ => 0) ++ (obj X Bk Br :: ([(q, .inl (cV, n + 1, .inr (.inr (.inr (.inr (arrS V n))))))] ++ (si cI cV Y Ya V n d r ch pd yr Wd ++ []))))))) H := va_P_perm (perm_front _ _) hP
    have hD : va_D A ([(w, .inr (5, row (fun _ => 0)))] ++ (tab cI X d r ++ (bk cW X Bk (n + 1) (takeS ch (priceS (r 1) (nI (1 + ks)) (wN d (r 0) (100 - ka) kb))) pd (pr + priceS (r 1) (nI (1 + ks)) (wN d (r 0) (100 - ka) kb)) yr (upW Wd n (mkW (nI ka) (nI (1 + ks)) (nI kb) (priceS (r 1) (nI (1 + ks)) (wN d (r 0) (100 - ka) kb)))) ++ (bk cW X Br 0 0 0 0 0 (fun _ _ => 0) ++ (obj X Bk Br :: ([(q, .inl (cV, n + 1, .inr (.inr (.inr (.inr (arrS V n))))))] ++ (si cI cV Y Ya V n d r ch pd yr Wd ++ []))))))) := va_D_perm (perm_front _ _) hD
    refine lv_dup hx hb dL_law_545 rfl ?_
    refine wr_u (runIN1 (As := []) (rest := [.ref w, .int (nI n), .ref q]) (host := RL) ⟨hx, hb, hml, hown, hts⟩ (met_X5_init l dC dI cI cW _ w _) ⟨va_cnB 0 hts gL_law_X5_init_n86 rfl rfl rfl hKS.2.2.1 (hts (.initialized RX5) (by decide +kernel)) (by decide +kernel) ⟨Nat.le_of_ble_eq_true rfl, Nat.le_of_ble_eq_true rfl⟩, rfl, hts (.instanceMethod yX5_init) (by decide +kernel)⟩ hKK hP hD rfl hl.1 (Nat.le_of_ble_eq_true rfl) rfl dL_law_546 ⟨by show _ ≤ 600130; omega, by show _ ≤ 7301080; omega⟩) hD hS hA (fun u H locs hP hD hS => ?_)
    have hP : va_P (dC, dI) vwCl (tab cI X d r ++ (bk cW X Bk (n + 1) (takeS ch (priceS (r 1) (nI (1 + ks)) (wN d (r 0) (100 - ka) kb))) pd (pr + priceS (r 1) (nI (1 + ks)) (wN d (r 0) (100 - ka) kb)) yr (upW Wd n (mkW (nI ka) (nI (1 + ks)) (nI kb) (priceS (r 1) (nI (1 + ks)) (wN d (r 0) (100 - ka) kb)))) ++ (bk cW X Br 0 0 0 0 0 (fun _ _ => 0) ++ (obj X Bk Br :: ([(w, .inr (5, row (fun _ => 0))), (q, .inl (cV, n + 1, .inr (.inr (.inr (.inr (arrS V n))))))] ++ (si cI cV Y Ya V n d r ch pd yr Wd ++ [])))))) H := va_P_perm (pm_out _ _ _ [_] ([_] ++ _) _).symm hP
    have hD : va_D A (tab cI X d r ++ (bk cW X Bk (n + 1) (takeS ch (priceS (r 1) (nI (1 + ks)) (wN d (r 0) (100 - ka) kb))) pd (pr + priceS (r 1) (nI (1 + ks)) (wN d (r 0) (100 - ka) kb)) yr (upW Wd n (mkW (nI ka) (nI (1 + ks)) (nI kb) (priceS (r 1) (nI (1 + ks)) (wN d (r 0) (100 - ka) kb)))) ++ (bk cW X Br 0 0 0 0 0 (fun _ _ => 0) ++ (obj X Bk Br :: ([(w, .inr (5, row (fun _ => 0))), (q, .inl (cV, n + 1, .inr (.inr (.inr (.inr (arrS V n))))))] ++ (si cI cV Y Ya V n d r ch pd yr Wd ++ [])))))) := va_D_perm (pm_out _ _ _ [_] ([_] ++ _) _).symm hD
    refine W.widen (k := 138 + 8 * t) (n := 1198 + 74 * t) (by omega) (by omega) ?_
    refine va_astq hx hb hKV hP hD hS (27 + 2) 0 (27 + 1) 5 (cw_at (k := 2) rfl) rfl (cw_at (k := 1) rfl) rfl (vp_in_nI (by omega) (by omega)) dL_law_549 (fun H locs hP hD hS => ?_)
    rw [clamp_nI (show n < 2147483648 by omega), cw_aset] at hP hD
    have hP : va_P (dC, dI) vwCl (tab cI X d r ++ (bk cW X Bk (n + 1) (takeS ch (priceS (r 1) (nI (1 + ks)) (wN d (r 0) (100 - ka) kb))) pd (pr + priceS (r 1) (nI (1 + ks)) (wN d (r 0) (100 - ka) kb)) yr (upW Wd n (mkW (nI ka) (nI (1 + ks)) (nI kb) (priceS (r 1) (nI (1 + ks)) (wN d (r 0) (100 - ka) kb)))) ++ (bk cW X Br 0 0 0 0 0 (fun _ _ => 0) ++ (obj X Bk Br :: ([(w, .inr (5, row (fun _ => 0))), (q, .inl (cV, n + 1, .inr (.inr (.inr (.inr (va_up (arrS V n) n (some w)))))))] ++ (si cI cV Y Ya V n d r ch pd yr Wd ++ [])))))) H := hP
    have hD : va_D A (tab cI X d r ++ (bk cW X Bk (n + 1) (takeS ch (priceS (r 1) (nI (1 + ks)) (wN d (r 0) (100 - ka) kb))) pd (pr + priceS (r 1) (nI (1 + ks)) (wN d (r 0) (100 - ka) kb)) yr (upW Wd n (mkW (nI ka) (nI (1 + ks)) (nI kb) (priceS (r 1) (nI (1 + ks)) (wN d (r 0) (100 - ka) kb)))) ++ (bk cW X Br 0 0 0 0 0 (fun _ _ => 0) ++ (obj X Bk Br :: ([(w, .inr (5, row (fun _ => 0))), (q, .inl (cV, n + 1, .inr (.inr (.inr (.inr (va_up (arrS V n) n (some w)))))))] ++ (si cI cV Y Ya V n d r ch pd yr Wd ++ [])))))) := hD
    refine lv_aload hx hb dL_law_550 (lv_at hl 0 rfl) ?_
    refine lv_iload hx hb dL_law_552 (lv_at hl 8 rfl) ?_
    refine va_aldq hx hb hKV hP (27 + 2) 0 (cw_at (k := 2) rfl) rfl (vp_in_nI (show n < n + 1 by omega) (by omega)) dL_law_554 ?_
    rw [show va_rf (va_up (arrS V n) n (some w) (nI n).toNatClampNeg) = .ref w from by rw [clamp_nI (show n < 2147483648 by omega)]; simp [va_up, va_rf]]
    refine lv_iload hx hb dL_law_555 (lv_at hl 4 rfl) ?_
    refine va_put (D := (dC, dI)) (ci := 5) (v := .int (nI ka)) (ty := .int) (C := RX5) (T := TX5) (N := 7) hx hb hts (by decide +kernel) tyX5 tyX5_ok nmX5 hown hKK.1 hP hD hS (27 + 1) (cw_at (k := 1) rfl) rfl 0 (by decide) (hts (.fieldLink RL 87 "WidowPenniesLaw$Widow" "age" "I") (by decide +kernel)) (fun _ h9 => h9) rfl (by decide +kernel) rfl rfl (Nat.le_of_ble_eq_true rfl) dL_law_557 (fun H locs hP hD hS => ?_)
    rw [cw_aset] at hP hD
    have hP : va_P (dC, dI) vwCl (tab cI X d r ++ (bk cW X Bk (n + 1) (takeS ch (priceS (r 1) (nI (1 + ks)) (wN d (r 0) (100 - ka) kb))) pd (pr + priceS (r 1) (nI (1 + ks)) (wN d (r 0) (100 - ka) kb)) yr (upW Wd n (mkW (nI ka) (nI (1 + ks)) (nI kb) (priceS (r 1) (nI (1 + ks)) (wN d (r 0) (100 - ka) kb)))) ++ (bk cW X Br 0 0 0 0 0 (fun _ _ => 0) ++ (obj X Bk Br :: ([(w, .inr (5, row (upd (fun _ => 0) 0 (nI ka)))), (q, .inl (cV, n + 1, .inr (.inr (.inr (.inr (va_up (arrS V n) n (some w)))))))] ++ (si cI cV Y Ya V n d r ch pd yr Wd ++ [])))))) H := hP
    have hD : va_D A (tab cI X d r ++ (bk cW X Bk (n + 1) (takeS ch (priceS (r 1) (nI (1 + ks)) (wN d (r 0) (100 - ka) kb))) pd (pr + priceS (r 1) (nI (1 + ks)) (wN d (r 0) (100 - ka) kb)) yr (upW Wd n (mkW (nI ka) (nI (1 + ks)) (nI kb) (priceS (r 1) (nI (1 + ks)) (wN d (r 0) (100 - ka) kb)))) ++ (bk cW X Br 0 0 0 0 0 (fun _ _ => 0) ++ (obj X Bk Br :: ([(w, .inr (5, row (upd (fun _ => 0) 0 (nI ka)))), (q, .inl (cV, n + 1, .inr (.inr (.inr (.inr (va_up (arrS V n) n (some w)))))))] ++ (si cI cV Y Ya V n d r ch pd yr Wd ++ [])))))) := hD
    refine lv_aload hx hb dL_law_560 (lv_at hl 0 rfl) ?_
    refine lv_iload hx hb dL_law_562 (lv_at hl 8 rfl) ?_
    refine va_aldq hx hb hKV hP (27 + 2) 0 (cw_at (k := 2) rfl) rfl (vp_in_nI (show n < n + 1 by omega) (by omega)) dL_law_564 ?_
    rw [show va_rf (va_up (arrS V n) n (some w) (nI n).toNatClampNeg) = .ref w from by rw [clamp_nI (show n < 2147483648 by omega)]; simp [va_up, va_rf]]
    refine lv_iload hx hb dL_law_565 (lv_at hl 2 rfl) ?_
    refine va_put (D := (dC, dI)) (ci := 5) (v := .int (nI (1 + ks))) (ty := .int) (C := RX5) (T := TX5) (N := 7) hx hb hts (by decide +kernel) tyX5 tyX5_ok nmX5 hown hKK.1 hP hD hS (27 + 1) (cw_at (k := 1) rfl) rfl 1 (by decide) (hts (.fieldLink RL 90 "WidowPenniesLaw$Widow" "sum" "I") (by decide +kernel)) (fun _ h9 => h9) rfl (by decide +kernel) rfl rfl (Nat.le_of_ble_eq_true rfl) dL_law_567 (fun H locs hP hD hS => ?_)
    rw [cw_aset] at hP hD
    have hP : va_P (dC, dI) vwCl (tab cI X d r ++ (bk cW X Bk (n + 1) (takeS ch (priceS (r 1) (nI (1 + ks)) (wN d (r 0) (100 - ka) kb))) pd (pr + priceS (r 1) (nI (1 + ks)) (wN d (r 0) (100 - ka) kb)) yr (upW Wd n (mkW (nI ka) (nI (1 + ks)) (nI kb) (priceS (r 1) (nI (1 + ks)) (wN d (r 0) (100 - ka) kb)))) ++ (bk cW X Br 0 0 0 0 0 (fun _ _ => 0) ++ (obj X Bk Br :: ([(w, .inr (5, row (upd (upd (fun _ => 0) 0 (nI ka)) 1 (nI (1 + ks))))), (q, .inl (cV, n + 1, .inr (.inr (.inr (.inr (va_up (arrS V n) n (some w)))))))] ++ (si cI cV Y Ya V n d r ch pd yr Wd ++ [])))))) H := hP
    have hD : va_D A (tab cI X d r ++ (bk cW X Bk (n + 1) (takeS ch (priceS (r 1) (nI (1 + ks)) (wN d (r 0) (100 - ka) kb))) pd (pr + priceS (r 1) (nI (1 + ks)) (wN d (r 0) (100 - ka) kb)) yr (upW Wd n (mkW (nI ka) (nI (1 + ks)) (nI kb) (priceS (r 1) (nI (1 + ks)) (wN d (r 0) (100 - ka) kb)))) ++ (bk cW X Br 0 0 0 0 0 (fun _ _ => 0) ++ (obj X Bk Br :: ([(w, .inr (5, row (upd (upd (fun _ => 0) 0 (nI ka)) 1 (nI (1 + ks))))), (q, .inl (cV, n + 1, .inr (.inr (.inr (.inr (va_up (arrS V n) n (some w)))))))] ++ (si cI cV Y Ya V n d r ch pd yr Wd ++ [])))))) := hD
    refine lv_aload hx hb dL_law_570 (lv_at hl 0 rfl) ?_
    refine lv_iload hx hb dL_law_572 (lv_at hl 8 rfl) ?_
    refine va_aldq hx hb hKV hP (27 + 2) 0 (cw_at (k := 2) rfl) rfl (vp_in_nI (show n < n + 1 by omega) (by omega)) dL_law_574 ?_
    rw [show va_rf (va_up (arrS V n) n (some w) (nI n).toNatClampNeg) = .ref w from by rw [clamp_nI (show n < 2147483648 by omega)]; simp [va_up, va_rf]]
    refine lv_iload hx hb dL_law_575 (lv_at hl 3 rfl) ?_
    refine va_put (D := (dC, dI)) (ci := 5) (v := .int (nI kb)) (ty := .int) (C := RX5) (T := TX5) (N := 7) hx hb hts (by decide +kernel) tyX5 tyX5_ok nmX5 hown hKK.1 hP hD hS (27 + 1) (cw_at (k := 1) rfl) rfl 2 (by decide) (hts (.fieldLink RL 93 "WidowPenniesLaw$Widow" "waits" "I") (by decide +kernel)) (fun _ h9 => h9) rfl (by decide +kernel) rfl rfl (Nat.le_of_ble_eq_true rfl) dL_law_577 (fun H locs hP hD hS => ?_)
    rw [cw_aset] at hP hD
    have hP : va_P (dC, dI) vwCl (tab cI X d r ++ (bk cW X Bk (n + 1) (takeS ch (priceS (r 1) (nI (1 + ks)) (wN d (r 0) (100 - ka) kb))) pd (pr + priceS (r 1) (nI (1 + ks)) (wN d (r 0) (100 - ka) kb)) yr (upW Wd n (mkW (nI ka) (nI (1 + ks)) (nI kb) (priceS (r 1) (nI (1 + ks)) (wN d (r 0) (100 - ka) kb)))) ++ (bk cW X Br 0 0 0 0 0 (fun _ _ => 0) ++ (obj X Bk Br :: ([(w, .inr (5, row (upd (upd (upd (fun _ => 0) 0 (nI ka)) 1 (nI (1 + ks))) 2 (nI kb)))), (q, .inl (cV, n + 1, .inr (.inr (.inr (.inr (va_up (arrS V n) n (some w)))))))] ++ (si cI cV Y Ya V n d r ch pd yr Wd ++ [])))))) H := hP
    have hD : va_D A (tab cI X d r ++ (bk cW X Bk (n + 1) (takeS ch (priceS (r 1) (nI (1 + ks)) (wN d (r 0) (100 - ka) kb))) pd (pr + priceS (r 1) (nI (1 + ks)) (wN d (r 0) (100 - ka) kb)) yr (upW Wd n (mkW (nI ka) (nI (1 + ks)) (nI kb) (priceS (r 1) (nI (1 + ks)) (wN d (r 0) (100 - ka) kb)))) ++ (bk cW X Br 0 0 0 0 0 (fun _ _ => 0) ++ (obj X Bk Br :: ([(w, .inr (5, row (upd (upd (upd (fun _ => 0) 0 (nI ka)) 1 (nI (1 + ks))) 2 (nI kb)))), (q, .inl (cV, n + 1, .inr (.inr (.inr (.inr (va_up (arrS V n) n (some w)))))))] ++ (si cI cV Y Ya V n d r ch pd yr Wd ++ [])))))) := hD
    refine lv_aload hx hb dL_law_580 (lv_at hl 0 rfl) ?_
    refine lv_iload hx hb dL_law_582 (lv_at hl 8 rfl) ?_
    refine va_aldq hx hb hKV hP (27 + 2) 0 (cw_at (k := 2) rfl) rfl (vp_in_nI (show n < n + 1 by omega) (by omega)) dL_law_584 ?_
    rw [show va_rf (va_up (arrS V n) n (some w) (nI n).toNatClampNeg) = .ref w from by rw [clamp_nI (show n < 2147483648 by omega)]; simp [va_up, va_rf]]
    refine lv_iload hx hb dL_law_585 (lv_at hl 1 rfl) ?_
    refine va_put (D := (dC, dI)) (ci := 5) (v := .int (priceS (r 1) (nI (1 + ks)) (wN d (r 0) (100 - ka) kb))) (ty := .int) (C := RX5) (T := TX5) (N := 7) hx hb hts (by decide +kernel) tyX5 tyX5_ok nmX5 hown hKK.1 hP hD hS (27 + 1) (cw_at (k := 1) rfl) rfl 6 (by decide) (hts (.fieldLink RL 100 "WidowPenniesLaw$Widow" "price" "I") (by decide +kernel)) (fun _ h9 => h9) rfl (by decide +kernel) rfl rfl (Nat.le_of_ble_eq_true rfl) dL_law_587 (fun H locs hP hD hS => ?_)
    rw [cw_aset] at hP hD
    have hP : va_P (dC, dI) vwCl (tab cI X d r ++ (bk cW X Bk (n + 1) (takeS ch (priceS (r 1) (nI (1 + ks)) (wN d (r 0) (100 - ka) kb))) pd (pr + priceS (r 1) (nI (1 + ks)) (wN d (r 0) (100 - ka) kb)) yr (upW Wd n (mkW (nI ka) (nI (1 + ks)) (nI kb) (priceS (r 1) (nI (1 + ks)) (wN d (r 0) (100 - ka) kb)))) ++ (bk cW X Br 0 0 0 0 0 (fun _ _ => 0) ++ (obj X Bk Br :: ([(w, .inr (5, row (upd (upd (upd (upd (fun _ => 0) 0 (nI ka)) 1 (nI (1 + ks))) 2 (nI kb)) 6 (priceS (r 1) (nI (1 + ks)) (wN d (r 0) (100 - ka) kb))))), (q, .inl (cV, n + 1, .inr (.inr (.inr (.inr (va_up (arrS V n) n (some w)))))))] ++ (si cI cV Y Ya V n d r ch pd yr Wd ++ [])))))) H := hP
    have hD : va_D A (tab cI X d r ++ (bk cW X Bk (n + 1) (takeS ch (priceS (r 1) (nI (1 + ks)) (wN d (r 0) (100 - ka) kb))) pd (pr + priceS (r 1) (nI (1 + ks)) (wN d (r 0) (100 - ka) kb)) yr (upW Wd n (mkW (nI ka) (nI (1 + ks)) (nI kb) (priceS (r 1) (nI (1 + ks)) (wN d (r 0) (100 - ka) kb)))) ++ (bk cW X Br 0 0 0 0 0 (fun _ _ => 0) ++ (obj X Bk Br :: ([(w, .inr (5, row (upd (upd (upd (upd (fun _ => 0) 0 (nI ka)) 1 (nI (1 + ks))) 2 (nI kb)) 6 (priceS (r 1) (nI (1 + ks)) (wN d (r 0) (100 - ka) kb))))), (q, .inl (cV, n + 1, .inr (.inr (.inr (.inr (va_up (arrS V n) n (some w)))))))] ++ (si cI cV Y Ya V n d r ch pd yr Wd ++ [])))))) := hD
    refine lv_aload_n hx hb dL_law_590 rfl (lv_at hl 13 rfl) ?_
    refine lv_aload hx hb dL_law_591 (lv_at hl 0 rfl) ?_
    refine va_put (D := (dC, dI)) (ci := 4) (v := .ref q) (ty := (.array (.object "WidowPenniesLaw$Widow"))) (C := RX4) (T := TX4) (N := 6) hx hb hts (by decide +kernel) tyX4 tyX4_ok nmX4 hown hKK.1 hP hD hS (27 + 3) (cw_at (k := 3) rfl) rfl 5 (by decide) (hts (.fieldLink RL 9 "WidowPenniesLaw$Sim" "all" "[LWidowPenniesLaw$Widow;") (by decide +kernel)) (fun _ h9 => h9) rfl (by decide +kernel) rfl rfl (Nat.le_of_ble_eq_true rfl) dL_law_593 (fun H locs hP hD hS => ?_)
    rw [cw_aset] at hP hD
    have eR : row (upd (upd (upd (upd (fun _ => 0) 0 (nI ka)) 1 (nI (1 + ks))) 2 (nI kb)) 6 (priceS (r 1) (nI (1 + ks)) (wN d (r 0) (100 - ka) kb))) = row (mkW (nI ka) (nI (1 + ks)) (nI kb) (priceS (r 1) (nI (1 + ks)) (wN d (r 0) (100 - ka) kb))) := rfl
    rw [eR] at hP hD
    have hP : va_P (dC, dI) vwCl (tab cI X d r ++ (bk cW X Bk (n + 1) (takeS ch (priceS (r 1) (nI (1 + ks)) (wN d (r 0) (100 - ka) kb))) pd (pr + priceS (r 1) (nI (1 + ks)) (wN d (r 0) (100 - ka) kb)) yr (upW Wd n (mkW (nI ka) (nI (1 + ks)) (nI kb) (priceS (r 1) (nI (1 + ks)) (wN d (r 0) (100 - ka) kb)))) ++ (bk cW X Br 0 0 0 0 0 (fun _ _ => 0) ++ (obj X Bk Br :: (((Y 0, .inr (4, [.int yr, .int ch, .int pd, .ref (Y 1), .ref (Y 2), .ref q])) :: (Y 1, .inl (cI, 3, .inl r)) :: (Y 2, .inl (cI, 50, .inl d)) :: (q, .inl (cV, n + 1, .inr (.inr (.inr (.inr (va_up (arrS V n) n (some w))))))) :: (sw n V Wd ++ [(w, .inr (5, row (mkW (nI ka) (nI (1 + ks)) (nI kb) (priceS (r 1) (nI (1 + ks)) (wN d (r 0) (100 - ka) kb)))))])) ++ []))))) H := va_P_tl (va_P_perm (act_lay _ _ _ (sw n V Wd) _ _ (Y 0, .inr (4, [.int yr, .int ch, .int pd, .ref (Y 1), .ref (Y 2), .ref q])) (Y 1, .inl (cI, 3, .inl r)) (Y 2, .inl (cI, 50, .inl d)) (Ya, .inl (cV, n, .inr (.inr (.inr (.inr (fun k => some (V k))))))) (w, .inr (5, row (mkW (nI ka) (nI (1 + ks)) (nI kb) (priceS (r 1) (nI (1 + ks)) (wN d (r 0) (100 - ka) kb))))) (q, .inl (cV, n + 1, .inr (.inr (.inr (.inr (va_up (arrS V n) n (some w)))))))) hP)
    have hD : va_D A (tab cI X d r ++ (bk cW X Bk (n + 1) (takeS ch (priceS (r 1) (nI (1 + ks)) (wN d (r 0) (100 - ka) kb))) pd (pr + priceS (r 1) (nI (1 + ks)) (wN d (r 0) (100 - ka) kb)) yr (upW Wd n (mkW (nI ka) (nI (1 + ks)) (nI kb) (priceS (r 1) (nI (1 + ks)) (wN d (r 0) (100 - ka) kb)))) ++ (bk cW X Br 0 0 0 0 0 (fun _ _ => 0) ++ (obj X Bk Br :: (((Y 0, .inr (4, [.int yr, .int ch, .int pd, .ref (Y 1), .ref (Y 2), .ref q])) :: (Y 1, .inl (cI, 3, .inl r)) :: (Y 2, .inl (cI, 50, .inl d)) :: (q, .inl (cV, n + 1, .inr (.inr (.inr (.inr (va_up (arrS V n) n (some w))))))) :: (sw n V Wd ++ [(w, .inr (5, row (mkW (nI ka) (nI (1 + ks)) (nI kb) (priceS (r 1) (nI (1 + ks)) (wN d (r 0) (100 - ka) kb)))))])) ++ []))))) := va_D_tl (va_D_perm (act_lay _ _ _ (sw n V Wd) _ _ (Y 0, .inr (4, [.int yr, .int ch, .int pd, .ref (Y 1), .ref (Y 2), .ref q])) (Y 1, .inl (cI, 3, .inl r)) (Y 2, .inl (cI, 50, .inl d)) (Ya, .inl (cV, n, .inr (.inr (.inr (.inr (fun k => some (V k))))))) (w, .inr (5, row (mkW (nI ka) (nI (1 + ks)) (nI kb) (priceS (r 1) (nI (1 + ks)) (wN d (r 0) (100 - ka) kb))))) (q, .inl (cV, n + 1, .inr (.inr (.inr (.inr (va_up (arrS V n) n (some w)))))))) hD)
    have hP := cell_objs (cA := cV) (g := fun k => some ((fun i => if i = n then w else V i) k)) (i := 27 + 4) hP (cw_at (k := 4) rfl) (arrS_w V n w)
    have hD := va_D.set (e := .inl (cV, n + 1, .inr (.inr (.inr (.inr (fun k => some ((fun i => if i = n then w else V i) k))))))) (p := 27 + 4) hD (cw_at (k := 4) rfl)
    rw [cw_aset] at hP hD
    have hP : va_P (dC, dI) vwCl (tab cI X d r ++ (bk cW X Bk (n + 1) (takeS ch (priceS (r 1) (nI (1 + ks)) (wN d (r 0) (100 - ka) kb))) pd (pr + priceS (r 1) (nI (1 + ks)) (wN d (r 0) (100 - ka) kb)) yr (upW Wd n (mkW (nI ka) (nI (1 + ks)) (nI kb) (priceS (r 1) (nI (1 + ks)) (wN d (r 0) (100 - ka) kb)))) ++ (bk cW X Br 0 0 0 0 0 (fun _ _ => 0) ++ (obj X Bk Br :: (((Y 0, .inr (4, [.int yr, .int ch, .int pd, .ref (Y 1), .ref (Y 2), .ref q])) :: (Y 1, .inl (cI, 3, .inl r)) :: (Y 2, .inl (cI, 50, .inl d)) :: (q, .inl (cV, n + 1, .inr (.inr (.inr (.inr (fun k => some ((fun i => if i = n then w else V i) k))))))) :: (sw n V Wd ++ [(w, .inr (5, row (mkW (nI ka) (nI (1 + ks)) (nI kb) (priceS (r 1) (nI (1 + ks)) (wN d (r 0) (100 - ka) kb)))))])) ++ []))))) H := hP
    have hD : va_D A (tab cI X d r ++ (bk cW X Bk (n + 1) (takeS ch (priceS (r 1) (nI (1 + ks)) (wN d (r 0) (100 - ka) kb))) pd (pr + priceS (r 1) (nI (1 + ks)) (wN d (r 0) (100 - ka) kb)) yr (upW Wd n (mkW (nI ka) (nI (1 + ks)) (nI kb) (priceS (r 1) (nI (1 + ks)) (wN d (r 0) (100 - ka) kb)))) ++ (bk cW X Br 0 0 0 0 0 (fun _ _ => 0) ++ (obj X Bk Br :: (((Y 0, .inr (4, [.int yr, .int ch, .int pd, .ref (Y 1), .ref (Y 2), .ref q])) :: (Y 1, .inl (cI, 3, .inl r)) :: (Y 2, .inl (cI, 50, .inl d)) :: (q, .inl (cV, n + 1, .inr (.inr (.inr (.inr (fun k => some ((fun i => if i = n then w else V i) k))))))) :: (sw n V Wd ++ [(w, .inr (5, row (mkW (nI ka) (nI (1 + ks)) (nI kb) (priceS (r 1) (nI (1 + ks)) (wN d (r 0) (100 - ka) kb)))))])) ++ []))))) := hD
    rw [sw_snoc] at hP hD
    obtain ⟨V2, hV2⟩ : ∃ V2 : Nat → Nat, V2 = (fun i => if i = n then w else V i) := ⟨_, rfl⟩
    rw [← hV2] at hP hD
    have hP : va_P (dC, dI) vwCl (tab cI X d r ++ (bk cW X Bk (n + 1) (takeS ch (priceS (r 1) (nI (1 + ks)) (wN d (r 0) (100 - ka) kb))) pd (pr + priceS (r 1) (nI (1 + ks)) (wN d (r 0) (100 - ka) kb)) yr (upW Wd n (mkW (nI ka) (nI (1 + ks)) (nI kb) (priceS (r 1) (nI (1 + ks)) (wN d (r 0) (100 - ka) kb)))) ++ (bk cW X Br 0 0 0 0 0 (fun _ _ => 0) ++ (obj X Bk Br :: (si cI cV Y q V2 (n + 1) d r ch pd yr (upW Wd n (mkW (nI ka) (nI (1 + ks)) (nI kb) (priceS (r 1) (nI (1 + ks)) (wN d (r 0) (100 - ka) kb)))) ++ []))))) H := hP
    have hD : va_D A (tab cI X d r ++ (bk cW X Bk (n + 1) (takeS ch (priceS (r 1) (nI (1 + ks)) (wN d (r 0) (100 - ka) kb))) pd (pr + priceS (r 1) (nI (1 + ks)) (wN d (r 0) (100 - ka) kb)) yr (upW Wd n (mkW (nI ka) (nI (1 + ks)) (nI kb) (priceS (r 1) (nI (1 + ks)) (wN d (r 0) (100 - ka) kb)))) ++ (bk cW X Br 0 0 0 0 0 (fun _ _ => 0) ++ (obj X Bk Br :: (si cI cV Y q V2 (n + 1) d r ch pd yr (upW Wd n (mkW (nI ka) (nI (1 + ks)) (nI kb) (priceS (r 1) (nI (1 + ks)) (wN d (r 0) (100 - ka) kb)))) ++ []))))) := hD
    refine lv_aload_n hx hb dL_law_596 rfl (lv_at hl 13 rfl) ?_
    refine lv_iload hx hb dL_law_597 (lv_at hl 1 rfl) ?_
    refine lv_i2l hx hb dL_law_599 rfl ?_
    have hP : va_P (dC, dI) vwCl (si cI cV Y q V2 (n + 1) d r ch pd yr (upW Wd n (mkW (nI ka) (nI (1 + ks)) (nI kb) (priceS (r 1) (nI (1 + ks)) (wN d (r 0) (100 - ka) kb)))) ++ (tab cI X d r ++ (bk cW X Bk (n + 1) (takeS ch (priceS (r 1) (nI (1 + ks)) (wN d (r 0) (100 - ka) kb))) pd (pr + priceS (r 1) (nI (1 + ks)) (wN d (r 0) (100 - ka) kb)) yr (upW Wd n (mkW (nI ka) (nI (1 + ks)) (nI kb) (priceS (r 1) (nI (1 + ks)) (wN d (r 0) (100 - ka) kb)))) ++ (bk cW X Br 0 0 0 0 0 (fun _ _ => 0) ++ (obj X Bk Br :: ([])))))) _ := va_P_perm (pm_in0 _ _ _ _ _ _) hP
    have hD : va_D A (si cI cV Y q V2 (n + 1) d r ch pd yr (upW Wd n (mkW (nI ka) (nI (1 + ks)) (nI kb) (priceS (r 1) (nI (1 + ks)) (wN d (r 0) (100 - ka) kb)))) ++ (tab cI X d r ++ (bk cW X Bk (n + 1) (takeS ch (priceS (r 1) (nI (1 + ks)) (wN d (r 0) (100 - ka) kb))) pd (pr + priceS (r 1) (nI (1 + ks)) (wN d (r 0) (100 - ka) kb)) yr (upW Wd n (mkW (nI ka) (nI (1 + ks)) (nI kb) (priceS (r 1) (nI (1 + ks)) (wN d (r 0) (100 - ka) kb)))) ++ (bk cW X Br 0 0 0 0 0 (fun _ _ => 0) ++ (obj X Bk Br :: ([])))))) := va_D_perm (pm_in0 _ _ _ _ _ _) hD
    refine wr_v (runV1S (As := [.long ((priceS (r 1) (nI (1 + ks)) (wN d (r 0) (100 - ka) kb)).toInt64)]) (rest := []) ⟨hx, hb, hml, hown, hts⟩ (met_X4_come l dC dI cI cW cV Y q V2 (n + 1) d r ch pd yr (upW Wd n (mkW (nI ka) (nI (1 + ks)) (nI kb) (priceS (r 1) (nI (1 + ks)) (wN d (r 0) (100 - ka) kb)))) _ ((priceS (r 1) (nI (1 + ks)) (wN d (r 0) (100 - ka) kb)).toInt64) _) (cwV 1 hts gL_law_X4_come rfl rfl rfl (by decide +kernel) ⟨Nat.le_of_ble_eq_true rfl, Nat.le_of_ble_eq_true rfl⟩) hKS hP hD 4 0 rfl rfl rfl hl.1 (Nat.le_of_ble_eq_true rfl) rfl dL_law_600 ⟨by show _ ≤ 600130; omega, by show _ ≤ 7301080; omega⟩) hD hS hA (fun H locs hP hD hS => ?_)
    have hP : va_P (dC, dI) vwCl (tab cI X d r ++ (bk cW X Bk (n + 1) (takeS ch (priceS (r 1) (nI (1 + ks)) (wN d (r 0) (100 - ka) kb))) pd (pr + priceS (r 1) (nI (1 + ks)) (wN d (r 0) (100 - ka) kb)) yr (upW Wd n (mkW (nI ka) (nI (1 + ks)) (nI kb) (priceS (r 1) (nI (1 + ks)) (wN d (r 0) (100 - ka) kb)))) ++ (bk cW X Br 0 0 0 0 0 (fun _ _ => 0) ++ (obj X Bk Br :: (si cI cV Y q V2 (n + 1) d r (comeS ch ((priceS (r 1) (nI (1 + ks)) (wN d (r 0) (100 - ka) kb)).toInt64)) pd yr (upW Wd n (mkW (nI ka) (nI (1 + ks)) (nI kb) (priceS (r 1) (nI (1 + ks)) (wN d (r 0) (100 - ka) kb)))) ++ []))))) H := va_P_perm (pm_in0 _ _ _ _ _ _).symm hP
    have hD : va_D A (tab cI X d r ++ (bk cW X Bk (n + 1) (takeS ch (priceS (r 1) (nI (1 + ks)) (wN d (r 0) (100 - ka) kb))) pd (pr + priceS (r 1) (nI (1 + ks)) (wN d (r 0) (100 - ka) kb)) yr (upW Wd n (mkW (nI ka) (nI (1 + ks)) (nI kb) (priceS (r 1) (nI (1 + ks)) (wN d (r 0) (100 - ka) kb)))) ++ (bk cW X Br 0 0 0 0 0 (fun _ _ => 0) ++ (obj X Bk Br :: (si cI cV Y q V2 (n + 1) d r (comeS ch ((priceS (r 1) (nI (1 + ks)) (wN d (r 0) (100 - ka) kb)).toInt64)) pd yr (upW Wd n (mkW (nI ka) (nI (1 + ks)) (nI kb) (priceS (r 1) (nI (1 + ks)) (wN d (r 0) (100 - ka) kb)))) ++ []))))) := va_D_perm (pm_in0 _ _ _ _ _ _).symm hD
    refine lv_goto (tgt := 863) hx hb dL_law_603 (by decide) ?_
    rw [(hI.buy (show 60 + 2 * t + 1 ≤ 512 by omega) hn10 h1 h2 hx9 h3 hw).1] at hP hD
    have hP : va_P (dC, dI) vwCl (tab cI X d r ++ (bk cW X Bk (n + 1) (takeS ch (priceS (r 1) (nI (1 + ks)) (wN d (r 0) (100 - ka) kb))) pd (pr + priceS (r 1) (nI (1 + ks)) (wN d (r 0) (100 - ka) kb)) yr (upW Wd n (mkW (nI ka) (nI (1 + ks)) (nI kb) (priceS (r 1) (nI (1 + ks)) (wN d (r 0) (100 - ka) kb)))) ++ (bk cW X Br 0 0 0 0 0 (fun _ _ => 0) ++ (obj X Bk Br :: (si cI cV Y q V2 (n + 1) d r (takeS ch (priceS (r 1) (nI (1 + ks)) (wN d (r 0) (100 - ka) kb))) pd yr (upW Wd n (mkW (nI ka) (nI (1 + ks)) (nI kb) (priceS (r 1) (nI (1 + ks)) (wN d (r 0) (100 - ka) kb)))) ++ []))))) _ := hP
    have hD : va_D A (tab cI X d r ++ (bk cW X Bk (n + 1) (takeS ch (priceS (r 1) (nI (1 + ks)) (wN d (r 0) (100 - ka) kb))) pd (pr + priceS (r 1) (nI (1 + ks)) (wN d (r 0) (100 - ka) kb)) yr (upW Wd n (mkW (nI ka) (nI (1 + ks)) (nI kb) (priceS (r 1) (nI (1 + ks)) (wN d (r 0) (100 - ka) kb)))) ++ (bk cW X Br 0 0 0 0 0 (fun _ _ => 0) ++ (obj X Bk Br :: (si cI cV Y q V2 (n + 1) d r (takeS ch (priceS (r 1) (nI (1 + ks)) (wN d (r 0) (100 - ka) kb))) pd yr (upW Wd n (mkW (nI ka) (nI (1 + ks)) (nI kb) (priceS (r 1) (nI (1 + ks)) (wN d (r 0) (100 - ka) kb)))) ++ []))))) := hD
    refine lv_iinc (v := (nI (t + 1))) (lv' := [(3, .int (nI (t + 1))), (18, .ref q), (17, .int (priceS (r 1) (nI (1 + ks)) (wN d (r 0) (100 - ka) kb))), (16, .int (nI (1 + ks))), (15, .int (nI kb)), (14, .int (nI ka)), (8, .int yr), (7, .int pd), (6, .int ch), (5, .int (nI n)), (4, .int xx), (0, .ref b), (1, .ref (X 0)), (2, .ref (Y 0))]) hx hb dL_law_863 hl (k := 10) rfl (nI_1 t) (by decide) rfl (fun ls hl => ?_)
    refine lv_goto (tgt := 22) hx hb dL_law_866 (by decide) ?_
    refine W.widen (k := 130 + 8 * (t + 1)) (n := 1124 + 74 * (t + 1)) (by omega) (by omega) ?_
    have hP9 : va_P (dC, dI) vwCl (gW cI cW cV X Bk Br Y [] (d, r, n + 1, takeS ch (priceS (r 1) (nI (1 + ks)) (wN d (r 0) (100 - ka) kb)), pd, pr + priceS (r 1) (nI (1 + ks)) (wN d (r 0) (100 - ka) kb), yr, upW Wd n (mkW (nI ka) (nI (1 + ks)) (nI kb) (priceS (r 1) (nI (1 + ks)) (wN d (r 0) (100 - ka) kb))), q, V2)) _ := hP
    have hD9 : va_D A (gW cI cW cV X Bk Br Y [] (d, r, n + 1, takeS ch (priceS (r 1) (nI (1 + ks)) (wN d (r 0) (100 - ka) kb)), pd, pr + priceS (r 1) (nI (1 + ks)) (wN d (r 0) (100 - ka) kb), yr, upW Wd n (mkW (nI ka) (nI (1 + ks)) (nI kb) (priceS (r 1) (nI (1 + ks)) (wN d (r 0) (100 - ka) kb))), q, V2)) := hD
    exact K (d, r, n + 1, takeS ch (priceS (r 1) (nI (1 + ks)) (wN d (r 0) (100 - ka) kb)), pd, pr + priceS (r 1) (nI (1 + ks)) (wN d (r 0) (100 - ka) kb), yr, upW Wd n (mkW (nI ka) (nI (1 + ks)) (nI kb) (priceS (r 1) (nI (1 + ks)) (wN d (r 0) (100 - ka) kb))), q, V2) (GI.mono (by omega) (show GI (60 + 2 * t + 1 + 1) (d, r, n + 1, takeS ch (priceS (r 1) (nI (1 + ks)) (wN d (r 0) (100 - ka) kb)), pd, pr + priceS (r 1) (nI (1 + ks)) (wN d (r 0) (100 - ka) kb), yr, upW Wd n (mkW (nI ka) (nI (1 + ks)) (nI kb) (priceS (r 1) (nI (1 + ks)) (wN d (r 0) (100 - ka) kb))), q, V2) from (hI.buy (show 60 + 2 * t + 1 ≤ 512 by omega) hn10 h1 h2 hx9 h3 hw).2)) _ _ hP9 (hAe ▸ hD9) (hAe ▸ hS) ls (lv_sub hl [0, 11, 12, 13] rfl)
  have keyc : ∀ (q m9 j : Nat), j + m9 = n → ∀ (H : Heap) (locs : List Loc), va_P (dC, dI) vwCl (tab cI X d r ++ (bk cW X Bk (n + 1) (takeS ch (priceS (r 1) (nI (1 + ks)) (wN d (r 0) (100 - ka) kb))) pd (pr + priceS (r 1) (nI (1 + ks)) (wN d (r 0) (100 - ka) kb)) yr (upW Wd n (mkW (nI ka) (nI (1 + ks)) (nI kb) (priceS (r 1) (nI (1 + ks)) (wN d (r 0) (100 - ka) kb)))) ++ (bk cW X Br 0 0 0 0 0 (fun _ _ => 0) ++ (obj X Bk Br :: ([(q, .inl (cV, n + 1, .inr (.inr (.inr (.inr (arrS V j))))))] ++ (si cI cV Y Ya V n d r ch pd yr Wd ++ [])))))) H → va_D A (tab cI X d r ++ (bk cW X Bk (n + 1) (takeS ch (priceS (r 1) (nI (1 + ks)) (wN d (r 0) (100 - ka) kb))) pd (pr + priceS (r 1) (nI (1 + ks)) (wN d (r 0) (100 - ka) kb)) yr (upW Wd n (mkW (nI ka) (nI (1 + ks)) (nI kb) (priceS (r 1) (nI (1 + ks)) (wN d (r 0) (100 - ka) kb)))) ++ (bk cW X Br 0 0 0 0 0 (fun _ _ => 0) ++ (obj X Bk Br :: ([(q, .inl (cV, n + 1, .inr (.inr (.inr (.inr (arrS V j))))))] ++ (si cI cV Y Ya V n d r ch pd yr Wd ++ [])))))) → va_S A s.heap H locs → ∀ ls : Array Slot, lv_has ls 20 [(19, .int (nI j)), (18, .ref q), (17, .int (priceS (r 1) (nI (1 + ks)) (wN d (r 0) (100 - ka) kb))), (16, .int (nI (1 + ks))), (15, .int (nI kb)), (14, .int (nI ka)), (8, .int yr), (7, .int pd), (6, .int ch), (5, .int (nI n)), (4, .int xx), (3, .int (nI t)), (0, .ref b), (1, .ref (X 0)), (2, .ref (Y 0))] → W p l e room_1 s m (#[Value.ref b]) below meth c H locs (137 + 8 * t) (1181 + 74 * t + (n + 1)) (lw_Z below #[Value.ref b] s) (F0 m 513 ls []) := by
    intro q m9
    induction m9 with
    | zero =>
      intro j hj H locs hP hD hS ls hl
      have hjn : j = n := by omega
      refine lv_iload hx hb dL_law_513 (lv_at hl 0 rfl) ?_
      refine lv_iload hx hb dL_law_515 (lv_at hl 9 rfl) ?_
      refine lv_icmp_ge (tgt := 538) hx hb dL_law_517 (by decide) (fun c_1 => ?_) (fun c_1 => ?_)
      · rw [hjn] at hP hD
        exact tail q H locs hP hD hS ls (lv_sub hl [1, 2, 3, 4, 5, 6, 7, 8, 9, 10, 11, 12, 13, 14] rfl)
      · exact absurd (by rw [hjn]; exact Int32.le_refl _) c_1
    | succ m9 ih =>
      intro j hj H locs hP hD hS ls hl
      have hjn : j < n := by omega
      refine lv_iload hx hb dL_law_513 (lv_at hl 0 rfl) ?_
      refine lv_iload hx hb dL_law_515 (lv_at hl 9 rfl) ?_
      refine lv_icmp_ge (tgt := 538) hx hb dL_law_517 (by decide) (fun c_1 => ?_) (fun c_1 => ?_)
      · exact absurd c_1 (fun q9 => absurd ((le_nI (by omega)).mp q9) (by omega))
      · refine lv_aload hx hb dL_law_520 (lv_at hl 1 rfl) ?_
        refine lv_iload hx hb dL_law_522 (lv_at hl 0 rfl) ?_
        refine lv_aload_n hx hb dL_law_524 rfl (lv_at hl 14 rfl) ?_
        refine va_get (D := (dC, dI)) (ci := 4) (v := .ref Ya) (C := RX4) (T := TX4) (N := 6) hx hb hts (by decide +kernel) hown hKK.1 (siP1 hP) 0 rfl rfl 5 (by decide) (hts (.fieldLink RL 9 "WidowPenniesLaw$Sim" "all" "[LWidowPenniesLaw$Widow;") (by decide +kernel)) (fun _ h9 => h9) rfl dL_law_525 ?_
        refine lv_iload hx hb dL_law_528 (lv_at hl 0 rfl) ?_
        refine va_aldq hx hb hKV (siP1 hP) 3 0 rfl rfl (vp_in_nI hjn (by omega)) dL_law_530 ?_
        rw [show va_rf ((fun k => some (V k)) (nI j).toNatClampNeg) = .ref (V j) from by rw [clamp_nI (show j < 2147483648 by omega)]; rfl]
        refine va_astq hx hb hKV hP hD hS (27 + 1) 0 (27 + (j + 4 + 1 + 1)) 5 (cw_at (k := 1) rfl) rfl (c1_at hjn) rfl (vp_in_nI (by omega) (by omega)) dL_law_531 (fun H locs hP hD hS => ?_)
        rw [clamp_nI (show j < 2147483648 by omega), arrS_s, cw_aset] at hP hD
        have hP : va_P (dC, dI) vwCl (tab cI X d r ++ (bk cW X Bk (n + 1) (takeS ch (priceS (r 1) (nI (1 + ks)) (wN d (r 0) (100 - ka) kb))) pd (pr + priceS (r 1) (nI (1 + ks)) (wN d (r 0) (100 - ka) kb)) yr (upW Wd n (mkW (nI ka) (nI (1 + ks)) (nI kb) (priceS (r 1) (nI (1 + ks)) (wN d (r 0) (100 - ka) kb)))) ++ (bk cW X Br 0 0 0 0 0 (fun _ _ => 0) ++ (obj X Bk Br :: ([(q, .inl (cV, n + 1, .inr (.inr (.inr (.inr (arrS V (j + 1)))))))] ++ (si cI cV Y Ya V n d r ch pd yr Wd ++ [])))))) H := hP
        have hD : va_D A (tab cI X d r ++ (bk cW X Bk (n + 1) (takeS ch (priceS (r 1) (nI (1 + ks)) (wN d (r 0) (100 - ka) kb))) pd (pr + priceS (r 1) (nI (1 + ks)) (wN d (r 0) (100 - ka) kb)) yr (upW Wd n (mkW (nI ka) (nI (1 + ks)) (nI kb) (priceS (r 1) (nI (1 + ks)) (wN d (r 0) (100 - ka) kb)))) ++ (bk cW X Br 0 0 0 0 0 (fun _ _ => 0) ++ (obj X Bk Br :: ([(q, .inl (cV, n + 1, .inr (.inr (.inr (.inr (arrS V (j + 1)))))))] ++ (si cI cV Y Ya V n d r ch pd yr Wd ++ [])))))) := hD
        refine lv_iinc (v := (nI (j + 1))) (lv' := [(19, .int (nI (j + 1))), (18, .ref q), (17, .int (priceS (r 1) (nI (1 + ks)) (wN d (r 0) (100 - ka) kb))), (16, .int (nI (1 + ks))), (15, .int (nI kb)), (14, .int (nI ka)), (8, .int yr), (7, .int pd), (6, .int ch), (5, .int (nI n)), (4, .int xx), (3, .int (nI t)), (0, .ref b), (1, .ref (X 0)), (2, .ref (Y 0))]) hx hb dL_law_532 hl (k := 0) rfl (nI_1 j) (by decide) rfl (fun ls hl => ?_)
        refine lv_goto (tgt := 513) hx hb dL_law_535 (by decide) ?_
        exact ih (j + 1) (by omega) H locs hP hD hS ls (lv_sub hl [0, 1, 2, 3, 4, 5, 6, 7, 8, 9, 10, 11, 12, 13, 14] rfl)
  refine lv_iload hx hb dL_law_501 (lv_at hl 7 rfl) ?_
  refine lv_iconst (v := 1) hx hb dL_law_503 (by decide) ?_
  refine lv_iadd hx hb dL_law_504 ?_
  rw [show ((nI n) + 1 : Int32) = nI (n + 1) from nI_1 n]
  refine va_newq (N' := n + 1) hx hb hown (hts (.classLink RL 37 RX5) (by decide +kernel)) hKS.2.2.2 hKV hP hD hS hA (nI_pos (by omega)) (clamp_nI (by omega)) (by omega) (by show _ ≤ 600130; omega) (by show _ ≤ 7301080; omega) dL_law_505 (fun q cA H hK2 hP hD hS => ?_)
  have hcA := cls_objV hK2
  rw [hcA] at hP hD
  clear hK2 hcA
  refine W.widen (k := 137 + 8 * t) (n := 1181 + 74 * t + (n + 1)) (by omega) (by omega) ?_
  have hP : va_P (dC, dI) vwCl (tab cI X d r ++ (bk cW X Bk (n + 1) (takeS ch (priceS (r 1) (nI (1 + ks)) (wN d (r 0) (100 - ka) kb))) pd (pr + priceS (r 1) (nI (1 + ks)) (wN d (r 0) (100 - ka) kb)) yr (upW Wd n (mkW (nI ka) (nI (1 + ks)) (nI kb) (priceS (r 1) (nI (1 + ks)) (wN d (r 0) (100 - ka) kb)))) ++ (bk cW X Br 0 0 0 0 0 (fun _ _ => 0) ++ (obj X Bk Br :: ([(q, .inl (cV, n + 1, .inr (.inr (.inr (.inr (fun _ => none))))))] ++ (si cI cV Y Ya V n d r ch pd yr Wd ++ [])))))) H := va_P_perm (pm_new _ _ _ _ _ _) hP
  have hD : va_D A (tab cI X d r ++ (bk cW X Bk (n + 1) (takeS ch (priceS (r 1) (nI (1 + ks)) (wN d (r 0) (100 - ka) kb))) pd (pr + priceS (r 1) (nI (1 + ks)) (wN d (r 0) (100 - ka) kb)) yr (upW Wd n (mkW (nI ka) (nI (1 + ks)) (nI kb) (priceS (r 1) (nI (1 + ks)) (wN d (r 0) (100 - ka) kb)))) ++ (bk cW X Br 0 0 0 0 0 (fun _ _ => 0) ++ (obj X Bk Br :: ([(q, .inl (cV, n + 1, .inr (.inr (.inr (.inr (fun _ => none))))))] ++ (si cI cV Y Ya V n d r ch pd yr Wd ++ [])))))) := va_D_perm (pm_new _ _ _ _ _ _) hD
  rw [← arrS_0 V] at hP hD
  have hP : va_P (dC, dI) vwCl (tab cI X d r ++ (bk cW X Bk (n + 1) (takeS ch (priceS (r 1) (nI (1 + ks)) (wN d (r 0) (100 - ka) kb))) pd (pr + priceS (r 1) (nI (1 + ks)) (wN d (r 0) (100 - ka) kb)) yr (upW Wd n (mkW (nI ka) (nI (1 + ks)) (nI kb) (priceS (r 1) (nI (1 + ks)) (wN d (r 0) (100 - ka) kb)))) ++ (bk cW X Br 0 0 0 0 0 (fun _ _ => 0) ++ (obj X Bk Br :: ([(q, .inl (cV, n + 1, .inr (.inr (.inr (.inr (arrS V 0))))))] ++ (si cI cV Y Ya V n d r ch pd yr Wd ++ [])))))) H := hP
  have hD : va_D A (tab cI X d r ++ (bk cW X Bk (n + 1) (takeS ch (priceS (r 1) (nI (1 + ks)) (wN d (r 0) (100 - ka) kb))) pd (pr + priceS (r 1) (nI (1 + ks)) (wN d (r 0) (100 - ka) kb)) yr (upW Wd n (mkW (nI ka) (nI (1 + ks)) (nI kb) (priceS (r 1) (nI (1 + ks)) (wN d (r 0) (100 - ka) kb)))) ++ (bk cW X Br 0 0 0 0 0 (fun _ _ => 0) ++ (obj X Bk Br :: ([(q, .inl (cV, n + 1, .inr (.inr (.inr (.inr (arrS V 0))))))] ++ (si cI cV Y Ya V n d r ch pd yr Wd ++ [])))))) := hD
  refine lv_astore (lv' := [(18, .ref q), (17, .int (priceS (r 1) (nI (1 + ks)) (wN d (r 0) (100 - ka) kb))), (16, .int (nI (1 + ks))), (15, .int (nI kb)), (14, .int (nI ka)), (8, .int yr), (7, .int pd), (6, .int ch), (5, .int (nI n)), (4, .int xx), (3, .int (nI t)), (0, .ref b), (1, .ref (X 0)), (2, .ref (Y 0))]) hx hb dL_law_508 hl (by decide) rfl (fun ls hl => ?_)
  refine lv_iconst (v := 0) hx hb dL_law_510 (by decide) ?_
  refine lv_istore (lv' := [(19, .int 0), (18, .ref q), (17, .int (priceS (r 1) (nI (1 + ks)) (wN d (r 0) (100 - ka) kb))), (16, .int (nI (1 + ks))), (15, .int (nI kb)), (14, .int (nI ka)), (8, .int yr), (7, .int pd), (6, .int ch), (5, .int (nI n)), (4, .int xx), (3, .int (nI t)), (0, .ref b), (1, .ref (X 0)), (2, .ref (Y 0))]) hx hb dL_law_511 hl (by decide) rfl (fun ls hl => ?_)
  exact keyc q n 0 (by omega) _ _ hP hD hS ls (lv_sub hl [0, 1, 2, 3, 4, 5, 6, 7, 8, 9, 10, 11, 12, 13, 14] rfl)
set_option maxHeartbeats 4000000 in
set_option maxRecDepth 100000 in
theorem law_buyB {p : Program} {l : Launch} {e : Env} {s : State} {m : MethodId} {below : List Frame} {meth : Method} {c : Code} {b L : Nat} {xs : Nat → Int32} {dC : Nat → ClassId} {dI : Nat → Nat → Nat} {cI cW cV : ClassId} {X Bk Br Y : Nat → Nat} {Ya : Nat} {V : Nat → Nat} {d r : Nat → Int32} {n : Nat} {ch pd pr yr : Int32} {Wd : Nat → Nat → Int32} {A : Nat → Prop} {t : Nat} (C9 : LC p s m meth c b L xs dC dI cI cW cV) (hAe : A = NEW s.heap.size) (ht : t < 30) (hI : Inv2 (60 + 2 * t + 1) d r n ch pr Wd) (K : LOOP p l e s m below meth c b dC dI cI cW cV X Bk Br Y (t + 1)) {xx : Int32} {ka kb : Nat} (hn10 : n < 10) (h1 : 50 ≤ ka) (h2 : ka ≤ 99) (h3 : kb ≤ 30) {H : Heap} {locs : List Loc} (hP : va_P (dC, dI) vwCl (tab cI X d r ++ (bk cW X Bk n ch pd pr yr Wd ++ (bk cW X Br 0 0 0 0 0 (fun _ _ => 0) ++ (obj X Bk Br :: (si cI cV Y Ya V n d r ch pd yr Wd ++ []))))) H) (hD : va_D A (tab cI X d r ++ (bk cW X Bk n ch pd pr yr Wd ++ (bk cW X Br 0 0 0 0 0 (fun _ _ => 0) ++ (obj X Bk Br :: (si cI cV Y Ya V n d r ch pd yr Wd ++ [])))))) (hS : va_S A s.heap H locs) {ls : Array Slot} (hl : lv_has ls 20 [(15, .int (nI kb)), (14, .int (nI ka)), (8, .int yr), (7, .int pd), (6, .int ch), (5, .int (nI n)), (4, .int xx), (3, .int (nI t)), (0, .ref b), (1, .ref (X 0)), (2, .ref (Y 0))]) : W p l e room_1 s m (#[Value.ref b]) below meth c H locs (136 + 8 * t) (1181 + 74 * t) (lw_Z below #[Value.ref b] s) (F0 m 373 ls []) := by
  obtain ⟨hx, hb, hr, hml, hown, hts, hlocks, hKS, hX, hbl, hL⟩ := C9
  have hKK := hKS.1
  have hKV := hKS.2.1
  have hn := hI.1.2.2.1
  have hok := hI.1.2.2.2.1
  have hi := hI.1.hi.1
  have hi0 := hI.1.hi.2
  have hA : ∀ q : Nat, s.heap.size ≤ q → A q := fun q h => by rw [hAe]; exact h
  have hbA : ¬ A b := by rw [hAe]; exact Nat.not_le.mpr hbl
  obtain ⟨ks, hks, eks⟩ := bel_nI (xx >>> (1 &&& 31)) (n := 999) (by omega) (by omega)
  have hx9 : 1 ≤ nI (1 + ks) ∧ nI (1 + ks) ≤ 999 := ⟨(le_nI (a := 1) (by omega)).mpr (by omega), (le_nI (b := 999) (by omega)).mpr (by omega)⟩
  have hrg := price_rng (show 60 + 2 * t + 1 ≤ 512 by omega) hI.1 (ks := 1 + ks) (kb := kb) h1 h2 (by omega)
  refine lv_iconst (v := 1) hx hb dL_law_373 (by decide) ?_
  refine lv_iload hx hb dL_law_374 (lv_at hl 6 rfl) ?_
  refine lv_iconst (v := 1) hx hb dL_law_376 (by decide) ?_
  refine lv_ishr hx hb dL_law_377 ?_
  refine lv_sipush (v := 999) hx hb dL_law_378 (by decide) ?_
  refine rd_i (runS0 (As := [.int (xx >>> (1 &&& 31)), .int 999]) (rest := [.int 1]) ⟨hx, hb, hml, hown, hts⟩ (met_L_below l dC dI cI cW (xx >>> (1 &&& 31)) 999 (by decide)) (va_cwS 2 hts gL_law_L_below rfl rfl rfl (by decide +kernel) ⟨Nat.le_of_ble_eq_true rfl, Nat.le_of_ble_eq_true rfl⟩) hKK nilP rfl hl.1 (Nat.le_of_ble_eq_true rfl) rfl dL_law_381 ⟨by show _ ≤ 600130; omega, by show _ ≤ 7301080; omega⟩) (fun r_1 hr_1 => ?_)
  subst hr_1
  rw [show (belS (xx >>> (1 &&& 31)) 999 : Int32) = nI ks from eks]
  refine lv_iadd hx hb dL_law_384 ?_
  rw [show (1 + (nI ks) : Int32) = nI (1 + ks) from nI_add 1 ks]
  refine lv_istore (lv' := [(16, .int (nI (1 + ks))), (15, .int (nI kb)), (14, .int (nI ka)), (8, .int yr), (7, .int pd), (6, .int ch), (5, .int (nI n)), (4, .int xx), (3, .int (nI t)), (0, .ref b), (1, .ref (X 0)), (2, .ref (Y 0))]) hx hb dL_law_385 hl (by decide) rfl (fun ls hl => ?_)
  refine lv_aload_n hx hb dL_law_387 rfl (lv_at hl 10 rfl) ?_
  refine lv_iload hx hb dL_law_388 (lv_at hl 2 rfl) ?_
  refine lv_iload hx hb dL_law_390 (lv_at hl 0 rfl) ?_
  refine lv_iload hx hb dL_law_392 (lv_at hl 1 rfl) ?_
  refine rd_i (runV0 (As := [.int (nI ka), .int (nI (1 + ks)), .int (nI kb)]) (rest := []) ⟨hx, hb, hml, hown, hts⟩ (met_X3_price l dC dI cI cW X Bk Br d r n ch pd pr yr Wd 0 0 0 0 0 (fun _ _ => 0) _ ka (nI (1 + ks)) kb h1 h2 hx9 h3 hi hi0) (cwV 3 hts gL_law_X3_price rfl rfl rfl (by decide +kernel) ⟨Nat.le_of_ble_eq_true rfl, Nat.le_of_ble_eq_true rfl⟩) hKK hP 3 27 rfl cw_obj rfl hl.1 (Nat.le_of_ble_eq_true rfl) rfl dL_law_394 ⟨by show _ ≤ 600130; omega, by show _ ≤ 7301080; omega⟩) (fun r_4 hr_4 => ?_)
  subst hr_4
  refine lv_istore (lv' := [(17, .int (priceS (r 1) (nI (1 + ks)) (wN d (r 0) (100 - ka) kb))), (16, .int (nI (1 + ks))), (15, .int (nI kb)), (14, .int (nI ka)), (8, .int yr), (7, .int pd), (6, .int ch), (5, .int (nI n)), (4, .int xx), (3, .int (nI t)), (0, .ref b), (1, .ref (X 0)), (2, .ref (Y 0))]) hx hb dL_law_397 hl (by decide) rfl (fun ls hl => ?_)
  refine lv_iload hx hb dL_law_399 (lv_at hl 0 rfl) ?_
  refine lv_if_le (tgt := 863) hx hb dL_law_401 (by decide) (fun c_5 => ?_) (fun c_5 => ?_)
  · refine lv_iinc (v := (nI (t + 1))) (lv' := [(3, .int (nI (t + 1))), (17, .int (priceS (r 1) (nI (1 + ks)) (wN d (r 0) (100 - ka) kb))), (16, .int (nI (1 + ks))), (15, .int (nI kb)), (14, .int (nI ka)), (8, .int yr), (7, .int pd), (6, .int ch), (5, .int (nI n)), (4, .int xx), (0, .ref b), (1, .ref (X 0)), (2, .ref (Y 0))]) hx hb dL_law_863 hl (k := 9) rfl (nI_1 t) (by decide) rfl (fun ls hl => ?_)
    refine lv_goto (tgt := 22) hx hb dL_law_866 (by decide) ?_
    refine W.widen (k := 130 + 8 * (t + 1)) (n := 1124 + 74 * (t + 1)) (by omega) (by omega) ?_
    have hP9 : va_P (dC, dI) vwCl (gW cI cW cV X Bk Br Y [] (d, r, n, ch, pd, pr, yr, Wd, Ya, V)) _ := hP
    have hD9 : va_D A (gW cI cW cV X Bk Br Y [] (d, r, n, ch, pd, pr, yr, Wd, Ya, V)) := hD
    exact K (d, r, n, ch, pd, pr, yr, Wd, Ya, V) (GI.mono (by omega) (show GI (60 + 2 * t + 1) (d, r, n, ch, pd, pr, yr, Wd, Ya, V) from hI)) _ _ hP9 (hAe ▸ hD9) (hAe ▸ hS) ls (lv_sub hl [0, 10, 11, 12] rfl)
  · have hw := price_pos c_5
    have hI2 := (hI.buy (show 60 + 2 * t + 1 ≤ 512 by omega) hn10 h1 h2 hx9 h3 hw).2
    have hn1 : n + 1 ≤ 10 := by omega
    have hok1 := hI2.1.2.2.2.1
    refine lv_aload_n hx hb dL_law_404 rfl (lv_at hl 11 rfl) ?_
    refine lv_iload hx hb dL_law_405 (lv_at hl 3 rfl) ?_
    refine lv_iload hx hb dL_law_407 (lv_at hl 1 rfl) ?_
    refine lv_iload hx hb dL_law_409 (lv_at hl 2 rfl) ?_
    refine wr_i (runV1 (As := [.int (nI ka), .int (nI (1 + ks)), .int (nI kb)]) (rest := []) ⟨hx, hb, hml, hown, hts⟩ (met_X3_buy l dC dI cI cW X Bk Br d r n ch pd pr yr Wd 0 0 0 0 0 (fun _ _ => 0) _ hn10 ka (nI (1 + ks)) kb h1 h2 hx9 h3 hw hi hi0 _) (cwV 3 hts gL_law_X3_buy rfl rfl rfl (by decide +kernel) ⟨Nat.le_of_ble_eq_true rfl, Nat.le_of_ble_eq_true rfl⟩) hKK hP hD 3 27 rfl cw_obj rfl hl.1 (Nat.le_of_ble_eq_true rfl) rfl dL_law_411 ⟨by show _ ≤ 600130; omega, by show _ ≤ 7301080; omega⟩) hD hS hA (fun r_6 H locs hr_6 hP hD hS => ?_)
    subst hr_6
    have hP : va_P (dC, dI) vwCl (tab cI X d r ++ (bk cW X Bk (n + 1) (takeS ch (priceS (r 1) (nI (1 + ks)) (wN d (r 0) (100 - ka) kb))) pd (pr + priceS (r 1) (nI (1 + ks)) (wN d (r 0) (100 - ka) kb)) yr (upW Wd n (mkW (nI ka) (nI (1 + ks)) (nI kb) (priceS (r 1) (nI (1 + ks)) (wN d (r 0) (100 - ka) kb)))) ++ (bk cW X Br 0 0 0 0 0 (fun _ _ => 0) ++ (obj X Bk Br :: (si cI cV Y Ya V n d r ch pd yr Wd ++ []))))) H := hP
    have hD : va_D A (tab cI X d r ++ (bk cW X Bk (n + 1) (takeS ch (priceS (r 1) (nI (1 + ks)) (wN d (r 0) (100 - ka) kb))) pd (pr + priceS (r 1) (nI (1 + ks)) (wN d (r 0) (100 - ka) kb)) yr (upW Wd n (mkW (nI ka) (nI (1 + ks)) (nI kb) (priceS (r 1) (nI (1 + ks)) (wN d (r 0) (100 - ka) kb)))) ++ (bk cW X Br 0 0 0 0 0 (fun _ _ => 0) ++ (obj X Bk Br :: (si cI cV Y Ya V n d r ch pd yr Wd ++ []))))) := hD
    refine lv_iload hx hb dL_law_414 (lv_at hl 7 rfl) ?_
    refine lv_icmp_ne (tgt := 499) hx hb dL_law_416 (by decide) (fun c_7 => ?_) (fun c_7 => ?_)
    · exact absurd rfl c_7
    · refine lv_aload_n hx hb dL_law_419 rfl (lv_at hl 12 rfl) ?_
      refine va_get (D := (dC, dI)) (ci := 4) (v := .int ch) (C := RX4) (T := TX4) (N := 6) hx hb hts (by decide +kernel) hown hKK.1 (siP0 hP) 0 rfl rfl 1 (by decide) (hts (.fieldLink RL 56 "WidowPenniesLaw$Sim" "chest" "I") (by decide +kernel)) (fun _ h9 => h9) rfl dL_law_420 ?_
      refine lv_iload hx hb dL_law_423 (lv_at hl 6 rfl) ?_
      refine lv_icmp_ne (tgt := 499) hx hb dL_law_425 (by decide) (fun c_8 => ?_) (fun c_8 => ?_)
      · exact absurd rfl c_8
      · refine lv_aload_n hx hb dL_law_428 rfl (lv_at hl 11 rfl) ?_
        refine lv_iload hx hb dL_law_429 (lv_at hl 7 rfl) ?_
        refine lv_bipush (v := 7) hx hb dL_law_431 (by decide) ?_
        refine rd_i (runV0 (As := [.int (nI n), .int 7]) (rest := []) ⟨hx, hb, hml, hown, hts⟩ (met_X3_told l dC dI cI cW X Bk Br d r (n + 1) (takeS ch (priceS (r 1) (nI (1 + ks)) (wN d (r 0) (100 - ka) kb))) pd (pr + priceS (r 1) (nI (1 + ks)) (wN d (r 0) (100 - ka) kb)) yr (upW Wd n (mkW (nI ka) (nI (1 + ks)) (nI kb) (priceS (r 1) (nI (1 + ks)) (wN d (r 0) (100 - ka) kb)))) 0 0 0 0 0 (fun _ _ => 0) _ hn1 hok1 n 7 (Nat.lt_succ_self n) (by omega) hi hi0) (cwV 2 hts gL_law_X3_told rfl rfl rfl (by decide +kernel) ⟨Nat.le_of_ble_eq_true rfl, Nat.le_of_ble_eq_true rfl⟩) hKK hP 3 27 rfl cw_obj rfl hl.1 (Nat.le_of_ble_eq_true rfl) rfl dL_law_433 ⟨by show _ ≤ 600130; omega, by show _ ≤ 7301080; omega⟩) (fun r_9 hr_9 => ?_)
        subst hr_9
        rw [show (tellS d r ((upW Wd n (mkW (nI ka) (nI (1 + ks)) (nI kb) (priceS (r 1) (nI (1 + ks)) (wN d (r 0) (100 - ka) kb)))) n) 7 : Int32) = priceS (r 1) (nI (1 + ks)) (wN d (r 0) (100 - ka) kb) from by show upW Wd n _ n 6 = _; rw [upW_at]; rfl]
        refine lv_iload hx hb dL_law_436 (lv_at hl 0 rfl) ?_
        refine lv_icmp_ne (tgt := 499) hx hb dL_law_438 (by decide) (fun c_11 => ?_) (fun c_11 => ?_)
        · exact absurd rfl c_11
        · refine lv_aload_n hx hb dL_law_441 rfl (lv_at hl 11 rfl) ?_
          refine lv_iload hx hb dL_law_442 (lv_at hl 7 rfl) ?_
          refine lv_iconst (v := 5) hx hb dL_law_444 (by decide) ?_
          refine rd_i (runV0 (As := [.int (nI n), .int 5]) (rest := []) ⟨hx, hb, hml, hown, hts⟩ (met_X3_told l dC dI cI cW X Bk Br d r (n + 1) (takeS ch (priceS (r 1) (nI (1 + ks)) (wN d (r 0) (100 - ka) kb))) pd (pr + priceS (r 1) (nI (1 + ks)) (wN d (r 0) (100 - ka) kb)) yr (upW Wd n (mkW (nI ka) (nI (1 + ks)) (nI kb) (priceS (r 1) (nI (1 + ks)) (wN d (r 0) (100 - ka) kb)))) 0 0 0 0 0 (fun _ _ => 0) _ hn1 hok1 n 5 (Nat.lt_succ_self n) (by omega) hi hi0) (cwV 2 hts gL_law_X3_told rfl rfl rfl (by decide +kernel) ⟨Nat.le_of_ble_eq_true rfl, Nat.le_of_ble_eq_true rfl⟩) hKK hP 3 27 rfl cw_obj rfl hl.1 (Nat.le_of_ble_eq_true rfl) rfl dL_law_445 ⟨by show _ ≤ 600130; omega, by show _ ≤ 7301080; omega⟩) (fun r_12 hr_12 => ?_)
          subst hr_12
          rw [show (tellS d r ((upW Wd n (mkW (nI ka) (nI (1 + ks)) (nI kb) (priceS (r 1) (nI (1 + ks)) (wN d (r 0) (100 - ka) kb)))) n) 5 : Int32) = keptS d (r 0) (mkW (nI ka) (nI (1 + ks)) (nI kb) (priceS (r 1) (nI (1 + ks)) (wN d (r 0) (100 - ka) kb))) from by show keptS d (r 0) (upW Wd n _ n) = _; rw [upW_at]]
          refine lv_iload hx hb dL_law_448 (lv_at hl 0 rfl) ?_
          refine lv_icmp_gt (tgt := 499) hx hb dL_law_450 (by decide) (fun c_14 => ?_) (fun c_14 => ?_)
          · exact absurd c_14 (Int32.not_lt.mpr (kept_le hI.1 h1 h2 (by omega) (by omega) h3))
          · refine lv_aload_n hx hb dL_law_453 rfl (lv_at hl 11 rfl) ?_
            refine lv_iload hx hb dL_law_454 (lv_at hl 7 rfl) ?_
            refine lv_iconst (v := 2) hx hb dL_law_456 (by decide) ?_
            refine rd_i (runV0 (As := [.int (nI n), .int 2]) (rest := []) ⟨hx, hb, hml, hown, hts⟩ (met_X3_told l dC dI cI cW X Bk Br d r (n + 1) (takeS ch (priceS (r 1) (nI (1 + ks)) (wN d (r 0) (100 - ka) kb))) pd (pr + priceS (r 1) (nI (1 + ks)) (wN d (r 0) (100 - ka) kb)) yr (upW Wd n (mkW (nI ka) (nI (1 + ks)) (nI kb) (priceS (r 1) (nI (1 + ks)) (wN d (r 0) (100 - ka) kb)))) 0 0 0 0 0 (fun _ _ => 0) _ hn1 hok1 n 2 (Nat.lt_succ_self n) (by omega) hi hi0) (cwV 2 hts gL_law_X3_told rfl rfl rfl (by decide +kernel) ⟨Nat.le_of_ble_eq_true rfl, Nat.le_of_ble_eq_true rfl⟩) hKK hP 3 27 rfl cw_obj rfl hl.1 (Nat.le_of_ble_eq_true rfl) rfl dL_law_457 ⟨by show _ ≤ 600130; omega, by show _ ≤ 7301080; omega⟩) (fun r_15 hr_15 => ?_)
            subst hr_15
            rw [show (tellS d r ((upW Wd n (mkW (nI ka) (nI (1 + ks)) (nI kb) (priceS (r 1) (nI (1 + ks)) (wN d (r 0) (100 - ka) kb)))) n) 2 : Int32) = nI kb from by show upW Wd n _ n 2 = _; rw [upW_at]; rfl]
            refine lv_iload hx hb dL_law_460 (lv_at hl 2 rfl) ?_
            refine lv_icmp_ne (tgt := 499) hx hb dL_law_462 (by decide) (fun c_17 => ?_) (fun c_17 => ?_)
            · exact absurd rfl c_17
            · refine lv_aload_n hx hb dL_law_465 rfl (lv_at hl 11 rfl) ?_
              refine lv_iconst (v := 3) hx hb dL_law_466 (by decide) ?_
              refine rd_i (runV0 (As := [.int 3]) (rest := []) ⟨hx, hb, hml, hown, hts⟩ (met_X3_count l dC dI cI cW X Bk Br d r (n + 1) (takeS ch (priceS (r 1) (nI (1 + ks)) (wN d (r 0) (100 - ka) kb))) pd (pr + priceS (r 1) (nI (1 + ks)) (wN d (r 0) (100 - ka) kb)) yr (upW Wd n (mkW (nI ka) (nI (1 + ks)) (nI kb) (priceS (r 1) (nI (1 + ks)) (wN d (r 0) (100 - ka) kb)))) 0 0 0 0 0 (fun _ _ => 0) _ hn1 hok1 3 (by omega) hi hi0) (cwV 1 hts gL_law_X3_count rfl rfl rfl (by decide +kernel) ⟨Nat.le_of_ble_eq_true rfl, Nat.le_of_ble_eq_true rfl⟩) hKK hP 3 27 rfl cw_obj rfl hl.1 (Nat.le_of_ble_eq_true rfl) rfl dL_law_467 ⟨by show _ ≤ 600130; omega, by show _ ≤ 7301080; omega⟩) (fun r_18 hr_18 => ?_)
              rw [hr_18]
              rw [show (countS d r (n + 1) (takeS ch (priceS (r 1) (nI (1 + ks)) (wN d (r 0) (100 - ka) kb))) pd (pr + priceS (r 1) (nI (1 + ks)) (wN d (r 0) (100 - ka) kb)) yr (upW Wd n (mkW (nI ka) (nI (1 + ks)) (nI kb) (priceS (r 1) (nI (1 + ks)) (wN d (r 0) (100 - ka) kb)))) 3 : Int32) = takeS ch (priceS (r 1) (nI (1 + ks)) (wN d (r 0) (100 - ka) kb)) from rfl]
              refine lv_i2l hx hb dL_law_470 rfl ?_
              refine lv_ldc2 (v := 99999999) hx hb hown (hts (.constantLong RL 126 99999999) (by decide +kernel)) dL_law_471 ?_
              refine lv_iload hx hb dL_law_474 (lv_at hl 6 rfl) ?_
              refine lv_i2l hx hb dL_law_476 rfl ?_
              refine lv_iload hx hb dL_law_477 (lv_at hl 0 rfl) ?_
              refine lv_i2l hx hb dL_law_479 rfl ?_
              refine lv_ladd hx hb dL_law_480 ?_
              refine va_mmin_long hx hb (hml.trans hl.1.symm) hown (hts (.methodLink RL 128 Lib.MathLoose.min_long.x) (by decide +kernel)) (hts (.static Lib.MathLoose.min_long.x) (by decide +kernel)) (hts (.initialized "java/lang/Math") (by decide +kernel)) (hts (.code Lib.MathLoose.min_long.x Lib.MathLoose.min_long.code 4 (some .long)) (by decide +kernel)) (Nat.le_of_ble_eq_true rfl) (Nat.le_of_ble_eq_true rfl) (by show _ ≤ 600130; omega) (by show _ ≤ 7301080; omega) dL_law_481 ?_
              rw [show (if (ch.toInt64 + ((priceS (r 1) (nI (1 + ks)) (wN d (r 0) (100 - ka) kb)).toInt64)) < 99999999 then (ch.toInt64 + ((priceS (r 1) (nI (1 + ks)) (wN d (r 0) (100 - ka) kb)).toInt64)) else 99999999 : Int64) = (takeS ch (priceS (r 1) (nI (1 + ks)) (wN d (r 0) (100 - ka) kb))).toInt64 from take64 hrg.1 hrg.2]
              refine W.lcmp hx hb dL_law_484 ?_
              refine lv_if_ne (tgt := 499) hx hb dL_law_485 (by decide) (fun c_21 => ?_) (fun c_21 => ?_)
              · exact absurd (lg_self _) c_21
              · refine lv_aload_n hx hb dL_law_488 rfl (lv_at hl 11 rfl) ?_
                refine lv_bipush (v := 7) hx hb dL_law_489 (by decide) ?_
                refine rd_i (runV0 (As := [.int 7]) (rest := []) ⟨hx, hb, hml, hown, hts⟩ (met_X3_count l dC dI cI cW X Bk Br d r (n + 1) (takeS ch (priceS (r 1) (nI (1 + ks)) (wN d (r 0) (100 - ka) kb))) pd (pr + priceS (r 1) (nI (1 + ks)) (wN d (r 0) (100 - ka) kb)) yr (upW Wd n (mkW (nI ka) (nI (1 + ks)) (nI kb) (priceS (r 1) (nI (1 + ks)) (wN d (r 0) (100 - ka) kb)))) 0 0 0 0 0 (fun _ _ => 0) _ hn1 hok1 7 (by omega) hi hi0) (cwV 1 hts gL_law_X3_count rfl rfl rfl (by decide +kernel) ⟨Nat.le_of_ble_eq_true rfl, Nat.le_of_ble_eq_true rfl⟩) hKK hP 3 27 rfl cw_obj rfl hl.1 (Nat.le_of_ble_eq_true rfl) rfl dL_law_491 ⟨by show _ ≤ 600130; omega, by show _ ≤ 7301080; omega⟩) (fun r_22 hr_22 => ?_)
                rw [hr_22]
                rw [show (countS d r (n + 1) (takeS ch (priceS (r 1) (nI (1 + ks)) (wN d (r 0) (100 - ka) kb))) pd (pr + priceS (r 1) (nI (1 + ks)) (wN d (r 0) (100 - ka) kb)) yr (upW Wd n (mkW (nI ka) (nI (1 + ks)) (nI kb) (priceS (r 1) (nI (1 + ks)) (wN d (r 0) (100 - ka) kb)))) 7 : Int32) = pd from rfl]
                refine lv_iload hx hb dL_law_494 (lv_at hl 5 rfl) ?_
                refine lv_icmp_eq (tgt := 501) hx hb dL_law_496 (by decide) (fun c_24 => ?_) (fun c_24 => ?_)
                · exact law_buyC ⟨hx, hb, hr, hml, hown, hts, hlocks, hKS, hX, hbl, hL⟩ hAe ht hI K (xx := xx) hn10 h1 h2 h3 hks hx9 hw hP hD hS (lv_sub hl [0, 1, 2, 3, 4, 5, 6, 7, 8, 9, 10, 11, 12] rfl)
                · exact absurd rfl c_24
set_option maxHeartbeats 4000000 in
set_option maxRecDepth 100000 in
theorem law_buy {p : Program} {l : Launch} {e : Env} {s : State} {m : MethodId} {below : List Frame} {meth : Method} {c : Code} {b L : Nat} {xs : Nat → Int32} {dC : Nat → ClassId} {dI : Nat → Nat → Nat} {cI cW cV : ClassId} {X Bk Br Y : Nat → Nat} {Ya : Nat} {V : Nat → Nat} {d r : Nat → Int32} {n : Nat} {ch pd pr yr : Int32} {Wd : Nat → Nat → Int32} {A : Nat → Prop} {t : Nat} (C9 : LC p s m meth c b L xs dC dI cI cW cV) (hAe : A = NEW s.heap.size) (ht : t < 30) (hI : Inv2 (60 + 2 * t + 1) d r n ch pr Wd) (K : LOOP p l e s m below meth c b dC dI cI cW cV X Bk Br Y (t + 1)) {xx : Int32} {o1 o2 o3 o4 : Nat} (hn10 : n < 10) {H : Heap} {locs : List Loc} (hP : va_P (dC, dI) vwCl (tab cI X d r ++ (bk cW X Bk n ch pd pr yr Wd ++ (bk cW X Br 0 0 0 0 0 (fun _ _ => 0) ++ (obj X Bk Br :: ([(o4, .inl (cI, n, .inl (msk (fun k => Wd k 4) n))), (o3, .inl (cI, n, .inl (msk (fun k => Wd k 0) n))), (o2, .inl (cI, n, .inl (msk (fun k => Wd k 5) n))), (o1, .inl (cI, n, .inl (msk (fun k => Wd k 2) n)))] ++ (si cI cV Y Ya V n d r ch pd yr Wd ++ [])))))) H) (hD : va_D A (tab cI X d r ++ (bk cW X Bk n ch pd pr yr Wd ++ (bk cW X Br 0 0 0 0 0 (fun _ _ => 0) ++ (obj X Bk Br :: ([(o4, .inl (cI, n, .inl (msk (fun k => Wd k 4) n))), (o3, .inl (cI, n, .inl (msk (fun k => Wd k 0) n))), (o2, .inl (cI, n, .inl (msk (fun k => Wd k 5) n))), (o1, .inl (cI, n, .inl (msk (fun k => Wd k 2) n)))] ++ (si cI cV Y Ya V n d r ch pd yr Wd ++ []))))))) (hS : va_S A s.heap H locs) {ls : Array Slot} (hl : lv_has ls 20 [(12, .ref o4), (11, .ref o3), (10, .ref o2), (9, .ref o1), (8, .int yr), (7, .int pd), (6, .int ch), (5, .int (nI n)), (4, .int xx), (3, .int (nI t)), (0, .ref b), (1, .ref (X 0)), (2, .ref (Y 0))]) : W p l e room_1 s m (#[Value.ref b]) below meth c H locs (136 + 8 * t) (1181 + 74 * t) (lw_Z below #[Value.ref b] s) (F0 m 335 ls []) := by
  obtain ⟨hx, hb, hr, hml, hown, hts, hlocks, hKS, hX, hbl, hL⟩ := C9
  have hKK := hKS.1
  have hKV := hKS.2.1
  have hn := hI.1.2.2.1
  have hok := hI.1.2.2.2.1
  have hi := hI.1.hi.1
  have hi0 := hI.1.hi.2
  have hA : ∀ q : Nat, s.heap.size ≤ q → A q := fun q h => by rw [hAe]; exact h
  have hbA : ¬ A b := by rw [hAe]; exact Nat.not_le.mpr hbl
  obtain ⟨ka, hka, eka⟩ := bel_nI (xx >>> (2 &&& 31)) (n := 50) (by omega) (by omega)
  have hP : va_P (dC, dI) vwCl (tab cI X d r ++ (bk cW X Bk n ch pd pr yr Wd ++ (bk cW X Br 0 0 0 0 0 (fun _ _ => 0) ++ (obj X Bk Br :: (si cI cV Y Ya V n d r ch pd yr Wd ++ []))))) _ := dropP hP
  have hD : va_D A (tab cI X d r ++ (bk cW X Bk n ch pd pr yr Wd ++ (bk cW X Br 0 0 0 0 0 (fun _ _ => 0) ++ (obj X Bk Br :: (si cI cV Y Ya V n d r ch pd yr Wd ++ []))))) := dropD hD
  refine lv_bipush (v := 50) hx hb dL_law_335 (by decide) ?_
  refine lv_iload hx hb dL_law_337 (lv_at hl 8 rfl) ?_
  refine lv_iconst (v := 2) hx hb dL_law_339 (by decide) ?_
  refine lv_ishr hx hb dL_law_340 ?_
  refine lv_bipush (v := 50) hx hb dL_law_341 (by decide) ?_
  refine rd_i (runS0 (As := [.int (xx >>> (2 &&& 31)), .int 50]) (rest := [.int 50]) ⟨hx, hb, hml, hown, hts⟩ (met_L_below l dC dI cI cW (xx >>> (2 &&& 31)) 50 (by decide)) (va_cwS 2 hts gL_law_L_below rfl rfl rfl (by decide +kernel) ⟨Nat.le_of_ble_eq_true rfl, Nat.le_of_ble_eq_true rfl⟩) hKK nilP rfl hl.1 (Nat.le_of_ble_eq_true rfl) rfl dL_law_343 ⟨by show _ ≤ 600130; omega, by show _ ≤ 7301080; omega⟩) (fun r_1 hr_1 => ?_)
  subst hr_1
  rw [show (belS (xx >>> (2 &&& 31)) 50 : Int32) = nI ka from eka]
  refine lv_iadd hx hb dL_law_346 ?_
  rw [show (50 + (nI ka) : Int32) = nI (50 + ka) from nI_add 50 ka]
  refine lv_istore (lv' := [(14, .int (nI (50 + ka))), (12, .ref o4), (11, .ref o3), (10, .ref o2), (9, .ref o1), (8, .int yr), (7, .int pd), (6, .int ch), (5, .int (nI n)), (4, .int xx), (3, .int (nI t)), (0, .ref b), (1, .ref (X 0)), (2, .ref (Y 0))]) hx hb dL_law_347 hl (by decide) rfl (fun ls hl => ?_)
  refine lv_iload hx hb dL_law_349 (lv_at hl 9 rfl) ?_
  refine lv_iconst (v := 2) hx hb dL_law_351 (by decide) ?_
  refine rd_i (runS0 (As := [.int xx, .int 2]) (rest := []) ⟨hx, hb, hml, hown, hts⟩ (met_L_below l dC dI cI cW xx 2 (by decide)) (va_cwS 2 hts gL_law_L_below rfl rfl rfl (by decide +kernel) ⟨Nat.le_of_ble_eq_true rfl, Nat.le_of_ble_eq_true rfl⟩) hKK nilP rfl hl.1 (Nat.le_of_ble_eq_true rfl) rfl dL_law_352 ⟨by show _ ≤ 600130; omega, by show _ ≤ 7301080; omega⟩) (fun r_4 hr_4 => ?_)
  subst hr_4
  refine lv_if_ne (tgt := 362) hx hb dL_law_355 (by decide) (fun c_5 => ?_) (fun c_5 => ?_)
  · obtain ⟨kb, hkb, ekb⟩ := bel_nI (xx >>> (3 &&& 31)) (n := 31) (by omega) (by omega)
    refine lv_iload hx hb dL_law_362 (lv_at hl 9 rfl) ?_
    refine lv_iconst (v := 3) hx hb dL_law_364 (by decide) ?_
    refine lv_ishr hx hb dL_law_365 ?_
    refine lv_bipush (v := 31) hx hb dL_law_366 (by decide) ?_
    refine rd_i (runS0 (As := [.int (xx >>> (3 &&& 31)), .int 31]) (rest := []) ⟨hx, hb, hml, hown, hts⟩ (met_L_below l dC dI cI cW (xx >>> (3 &&& 31)) 31 (by decide)) (va_cwS 2 hts gL_law_L_below rfl rfl rfl (by decide +kernel) ⟨Nat.le_of_ble_eq_true rfl, Nat.le_of_ble_eq_true rfl⟩) hKK nilP rfl hl.1 (Nat.le_of_ble_eq_true rfl) rfl dL_law_368 ⟨by show _ ≤ 600130; omega, by show _ ≤ 7301080; omega⟩) (fun r_6 hr_6 => ?_)
    subst hr_6
    rw [show (belS (xx >>> (3 &&& 31)) 31 : Int32) = nI kb from ekb]
    refine lv_istore (lv' := [(15, .int (nI kb)), (14, .int (nI (50 + ka))), (12, .ref o4), (11, .ref o3), (10, .ref o2), (9, .ref o1), (8, .int yr), (7, .int pd), (6, .int ch), (5, .int (nI n)), (4, .int xx), (3, .int (nI t)), (0, .ref b), (1, .ref (X 0)), (2, .ref (Y 0))]) hx hb dL_law_371 hl (by decide) rfl (fun ls hl => ?_)
    exact law_buyB ⟨hx, hb, hr, hml, hown, hts, hlocks, hKS, hX, hbl, hL⟩ hAe ht hI K (xx := xx) (ka := 50 + ka) (kb := kb) hn10 (by omega) (by omega) (by omega) hP hD hS (lv_sub hl [0, 1, 6, 7, 8, 9, 10, 11, 12, 13, 14] rfl)
  · refine lv_iconst (v := 0) hx hb dL_law_358 (by decide) ?_
    refine lv_goto (tgt := 371) hx hb dL_law_359 (by decide) ?_
    refine lv_istore (lv' := [(15, .int 0), (14, .int (nI (50 + ka))), (12, .ref o4), (11, .ref o3), (10, .ref o2), (9, .ref o1), (8, .int yr), (7, .int pd), (6, .int ch), (5, .int (nI n)), (4, .int xx), (3, .int (nI t)), (0, .ref b), (1, .ref (X 0)), (2, .ref (Y 0))]) hx hb dL_law_371 hl (by decide) rfl (fun ls hl => ?_)
    exact law_buyB ⟨hx, hb, hr, hml, hown, hts, hlocks, hKS, hX, hbl, hL⟩ hAe ht hI K (xx := xx) (ka := 50 + ka) (kb := 0) hn10 (by omega) (by omega) (by omega) hP hD hS (lv_sub hl [0, 1, 6, 7, 8, 9, 10, 11, 12, 13, 14] rfl)
