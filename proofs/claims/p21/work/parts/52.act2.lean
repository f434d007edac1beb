def arrS (V : Nat → Nat) (k : Nat) : Nat → Option Nat := fun j => if j < k then some (V j) else none
theorem arrS_0 (V : Nat → Nat) : arrS V 0 = fun _ => none := by
  funext j
  simp [arrS]
theorem arrS_s (V : Nat → Nat) (k : Nat) : va_up (arrS V k) k (some (V k)) = arrS V (k + 1) := by
  funext j
  unfold va_up arrS
  by_cases h : j = k
  · subst h; simp
  · by_cases h2 : j < k
    · simp [h, h2, show j < k + 1 by omega]
    · simp [h, h2, show ¬ j < k + 1 by omega]
theorem arrS_w (V : Nat → Nat) (n w : Nat) : ∀ k, k < n + 1 → va_up (arrS V n) n (some w) k = some ((fun i => if i = n then w else V i) k) := by
  intro k hk
  unfold va_up arrS
  by_cases h : k = n
  · subst h; simp
  · simp [h, show k < n by omega]
theorem c1_at {cI cW cV : ClassId} {X Bk Br Y : Nat → Nat} {Ya : Nat} {V : Nat → Nat} {d r d2 r2 : Nat → Int32} {n nn n2 : Nat} {ch pd pr yr ch2 pd2 pr2 yr2 sch spd syr : Int32} {Wd W2 Ws : Nat → Nat → Int32} {R : va_W} {k : Nat} {f : Nat × va_E} (h : k < nn) :
    (tab cI X d r ++ (bk cW X Bk n ch pd pr yr Wd ++ (bk cW X Br n2 ch2 pd2 pr2 yr2 W2 ++ (obj X Bk Br :: ([f] ++ (si cI cV Y Ya V nn d2 r2 sch spd syr Ws ++ R))))))[27 + (k + 4 + 1 + 1)]? = some (V k, .inr (5, row (Ws k))) := by
  have h9 : (obj X Bk Br :: ([f] ++ (si cI cV Y Ya V nn d2 r2 sch spd syr Ws ++ R)))[k + 4 + 1 + 1]? = some (V k, .inr (5, row (Ws k))) := by
    show (si cI cV Y Ya V nn d2 r2 sch spd syr Ws ++ R)[k + 4]? = _
    exact si_at h
  exact cw_at h9
theorem act_lay {α : Type} (T K1 K2 SW R : List α) (o s0 c1 c2 old w q : α) : (T ++ (K1 ++ (K2 ++ (o :: ([w, q] ++ ((s0 :: c1 :: c2 :: old :: SW) ++ R)))))).Perm (old :: (T ++ (K1 ++ (K2 ++ (o :: ((s0 :: c1 :: c2 :: q :: (SW ++ [w])) ++ R)))))) := by
  have h1 : ([w, q] ++ [s0, c1, c2, old]).Perm ([s0, c1, c2, old] ++ [w, q]) := List.perm_append_comm
  have h2 : ([s0, c1, c2] ++ old :: [w, q]).Perm (old :: ([s0, c1, c2] ++ [w, q])) := List.perm_middle
  have h3 : ([s0, c1, c2] ++ [w, q]).Perm ([s0, c1, c2] ++ [q, w]) := List.Perm.append_left _ (List.Perm.swap q w [])
  have h4 : ([w, q] ++ [s0, c1, c2, old]).Perm (old :: ([s0, c1, c2] ++ [q, w])) := h1.trans (h2.trans (List.Perm.cons old h3))
  have h5 : (SW ++ w :: R).Perm (w :: (SW ++ R)) := List.perm_middle
  have h6 : (([w, q] ++ [s0, c1, c2, old]) ++ (SW ++ R)).Perm ((old :: ([s0, c1, c2] ++ [q, w])) ++ (SW ++ R)) := List.Perm.append_right _ h4
  have h7 : ((old :: ([s0, c1, c2] ++ [q])) ++ (w :: (SW ++ R))).Perm ((old :: ([s0, c1, c2] ++ [q])) ++ (SW ++ w :: R)) := List.Perm.append_left _ h5.symm
  have h8 : (w :: q :: s0 :: c1 :: c2 :: old :: (SW ++ R)).Perm (old :: s0 :: c1 :: c2 :: q :: (SW ++ w :: R)) := by
    have h9 : (w :: q :: s0 :: c1 :: c2 :: old :: (SW ++ R)).Perm (old :: s0 :: c1 :: c2 :: q :: w :: (SW ++ R)) := h6
    exact h9.trans h7
  have h10 : ((T ++ (K1 ++ (K2 ++ [o]))) ++ (w :: q :: s0 :: c1 :: c2 :: old :: (SW ++ R))).Perm ((T ++ (K1 ++ (K2 ++ [o]))) ++ (old :: s0 :: c1 :: c2 :: q :: (SW ++ w :: R))) := List.Perm.append_left _ h8
  have h11 : ((T ++ (K1 ++ (K2 ++ [o]))) ++ (old :: s0 :: c1 :: c2 :: q :: (SW ++ w :: R))).Perm (old :: ((T ++ (K1 ++ (K2 ++ [o]))) ++ (s0 :: c1 :: c2 :: q :: (SW ++ w :: R)))) := List.perm_middle
  have h12 := h10.trans h11
  simpa [List.append_assoc] using h12
set_option maxHeartbeats 4000000 in
set_option maxRecDepth 100000 in
theorem act_c10b {p : Program} {l : Launch} {e : Env} {s : State} {m : MethodId} {below : List Frame} {meth : Method} {c : Code} {dC : Nat → ClassId} {dI : Nat → Nat → Nat} {cI cW cV : ClassId} {X Bk Br Y : Nat → Nat} {Ya : Nat} {V : Nat → Nat} {d r : Nat → Int32} {n : Nat} {ch pd pr yr : Int32} {Wd : Nat → Nat → Int32} {R : va_W} {x : Int32} {A : Nat → Prop} {i : Nat} (C9 : AC p s m meth c dC dI cI cW cV ([.ref (X 0), .ref (Y 0), .int x] : List Value).toArray) (hAe : va_A (tab cI X d r ++ (bk cW X Bk n ch pd pr yr Wd ++ (bk cW X Br 0 0 0 0 0 (fun _ _ => 0) ++ (obj X Bk Br :: (si cI cV Y Ya V n d r ch pd yr Wd ++ R))))) s.heap.size = A) (hI : Inv2 i d r n ch pr Wd) (hi5 : i ≤ 500) {ka kb : Nat} (h1 : 50 ≤ ka) (h2 : ka ≤ 99) (h3 : kb ≤ 30) {H : Heap} {locs : List Loc} (hP : va_P (dC, dI) vwCl (tab cI X d r ++ (bk cW X Bk n ch pd pr yr Wd ++ (bk cW X Br 0 0 0 0 0 (fun _ _ => 0) ++ (obj X Bk Br :: (si cI cV Y Ya V n d r ch pd yr Wd ++ R))))) H) (hD : va_D A (tab cI X d r ++ (bk cW X Bk n ch pd pr yr Wd ++ (bk cW X Br 0 0 0 0 0 (fun _ _ => 0) ++ (obj X Bk Br :: (si cI cV Y Ya V n d r ch pd yr Wd ++ R)))))) (hS : va_S A s.heap H locs) {ls : Array Slot} (hl : lv_has ls 19 [(16, .int (nI kb)), (15, .int (nI ka)), (0, .ref (X 0)), (1, .ref (Y 0)), (2, .int x), (3, .int (nI n))]) : W p l e (headSpec wsL_act ({ frames := 8, cells := 2, slots := 17, locals := 156 })).room s m (([.ref (X 0), .ref (Y 0), .int x] : List Value).toArray) below meth c H locs 0 0 (MQ below (QA dC dI cI cW cV X Bk Br Y R (i + 1) (tab cI X d r ++ (bk cW X Bk n ch pd pr yr Wd ++ (bk cW X Br 0 0 0 0 0 (fun _ _ => 0) ++ (obj X Bk Br :: (si cI cV Y Ya V n d r ch pd yr Wd ++ R))))) s.heap.size) ([.ref (X 0), .ref (Y 0), .int x] : List Value).toArray s 2 17 A) (F0 m 570 ls []) := by
  obtain ⟨hx, hb, hr, hml, hown, hts, hlocks, hKS⟩ := C9
  have hKK := hKS.1
  have hKV := hKS.2.1
  have hn := hI.1.2.2.1
  have hok := hI.1.2.2.2.1
  have hi := hI.1.hi.1
  have hi0 := hI.1.hi.2
  have hA : ∀ q : Nat, s.heap.size ≤ q → A q := fun q h => by rw [← hAe]; exact Or.inr h
  have hcore : n < 10 → ¬ wN d (r 0) (100 - ka) kb = 0 → W p l e (headSpec wsL_act ({ frames := 8, cells := 2, slots := 17, locals := 156 })).room s m (([.ref (X 0), .ref (Y 0), .int x] : List Value).toArray) below meth c H locs 0 0 (MQ below (QA dC dI cI cW cV X Bk Br Y R (i + 1) (tab cI X d r ++ (bk cW X Bk n ch pd pr yr Wd ++ (bk cW X Br 0 0 0 0 0 (fun _ _ => 0) ++ (obj X Bk Br :: (si cI cV Y Ya V n d r ch pd yr Wd ++ R))))) s.heap.size) ([.ref (X 0), .ref (Y 0), .int x] : List Value).toArray s 2 17 A) (F0 m 589 ls []) := by
    intro hn10 hw
    have tail : ∀ (q : Nat) (H : Heap) (locs : List Loc), va_P (dC, dI) vwCl (tab cI X d r ++ (bk cW X Bk n ch pd pr yr Wd ++ (bk cW X Br 0 0 0 0 0 (fun _ _ => 0) ++ (obj X Bk Br :: ([(q, .inl (cV, n + 1, .inr (.inr (.inr (.inr (arrS V n))))))] ++ (si cI cV Y Ya V n d r ch pd yr Wd ++ R)))))) H → va_D A (tab cI X d r ++ (bk cW X Bk n ch pd pr yr Wd ++ (bk cW X Br 0 0 0 0 0 (fun _ _ => 0) ++ (obj X Bk Br :: ([(q, .inl (cV, n + 1, .inr (.inr (.inr (.inr (arrS V n))))))] ++ (si cI cV Y Ya V n d r ch pd yr Wd ++ R)))))) → va_S A s.heap H locs → ∀ ls : Array Slot, lv_has ls 19 [(17, .ref q), (16, .int (nI kb)), (15, .int (nI ka)), (0, .ref (X 0)), (1, .ref (Y 0)), (2, .int x), (3, .int (nI n))] → W p l e (headSpec wsL_act ({ frames := 8, cells := 2, slots := 17, locals := 156 })).room s m (([.ref (X 0), .ref (Y 0), .int x] : List Value).toArray) below meth c H locs 1 (n + 1) (MQ below (QA dC dI cI cW cV X Bk Br Y R (i + 1) (tab cI X d r ++ (bk cW X Bk n ch pd pr yr Wd ++ (bk cW X Br 0 0 0 0 0 (fun _ _ => 0) ++ (obj X Bk Br :: (si cI cV Y Ya V n d r ch pd yr Wd ++ R))))) s.heap.size) ([.ref (X 0), .ref (Y 0), .int x] : List Value).toArray s 2 17 A) (F0 m 624 ls []) := by
      intro q H locs hP hD hS ls hl
      refine lv_aload hx hb dL_act_624 (lv_at hl 0 rfl) ?_
      refine lv_iload_n hx hb dL_act_626 rfl (lv_at hl 6 rfl) ?_
      refine va_new (ci := 5) (fs := row (fun _ => 0)) (C := RX5) (T := TX5) (N := 7) hx hb hts (by decide +kernel) tyX5 tyX5_ok hown (hts (.classLink RL 37 RX5) (by decide +kernel)) (hts (.instantiable RX5 7) (by decide +kernel)) (hts (.initialized RX5) (by decide +kernel)) hKK.1 hP hD hS hA rfl (fun j hj => by rcases (show j = 0 ∨ j = 1 ∨ j = 2 ∨ j = 3 ∨ j = 4 ∨ j = 5 ∨ j = 6 by omega) with rfl | rfl | rfl | rfl | rfl | rfl | rfl <;> rfl) (by show 1 + 1 ≤ 2; omega) (by show n + 1 + 7 ≤ 17; omega) dL_act_627 (fun w H hP hD hS => ?_)
      have hP : va_P (dC, dI) vwCl ([(w, .inr (5, row (fun _ => 0)))] ++ (tab cI X d r ++ (bk cW X Bk n ch pd pr yr Wd ++ (bk cW X Br 0 0 0 0 0 (fun _ _ => 0) ++ (obj X Bk Br :: ([(q, .inl (cV, n + 1, .inr (.inr (.inr (.inr (arrS V n))))))] ++ (si cI cV Y Ya V n d r ch pd yr Wd ++ R))))))) H := va_P_perm (perm_front _ _) hP
      have hD : va_D A ([(w, .inr (5, row (fun _ => 0)))] ++ (tab cI X d r ++ (bk cW X Bk n ch pd pr yr Wd ++ (bk cW X Br 0 0 0 0 0 (fun _ _ => 0) ++ (obj X Bk Br :: ([(q, .inl (cV, n + 1, .inr (.inr (.inr (.inr (arrS V n))))))] ++ (si cI cV Y Ya V n d r ch pd yr Wd ++ R))))))) := va_D_perm (perm_front _ _) hD
      refine lv_dup hx hb dL_act_630 rfl ?_
      refine wr_u (runIN1 (As := []) (rest := [.ref w, .int (nI n), .ref q]) (host := RL) ⟨hx, hb, hml, hown, hts⟩ (met_X5_init l dC dI cI cW (tab cI X d r ++ (bk cW X Bk n ch pd pr yr Wd ++ (bk cW X Br 0 0 0 0 0 (fun _ _ => 0) ++ (obj X Bk Br :: ([(q, .inl (cV, n + 1, .inr (.inr (.inr (.inr (arrS V n))))))] ++ (si cI cV Y Ya V n d r ch pd yr Wd ++ R)))))) w _) ⟨va_cnB 0 hts gL_act_X5_init_n86 rfl rfl rfl hKS.2.2.1 (hts (.initialized RX5) (by decide +kernel)) (by decide +kernel) ⟨Nat.le_of_ble_eq_true rfl, Nat.le_of_ble_eq_true rfl⟩, rfl, hts (.instanceMethod yX5_init) (by decide +kernel)⟩ hKK hP hD rfl hl.1 (Nat.le_of_ble_eq_true rfl) rfl dL_act_631 ⟨by show 1 + 1 + 0 ≤ 2; omega, by show n + 1 + 7 + 0 ≤ 17; omega⟩) hD hS hA (fun u H locs hP hD hS => ?_)
      have hP : va_P (dC, dI) vwCl (tab cI X d r ++ (bk cW X Bk n ch pd pr yr Wd ++ (bk cW X Br 0 0 0 0 0 (fun _ _ => 0) ++ (obj X Bk Br :: ([(w, .inr (5, row (fun _ => 0))), (q, .inl (cV, n + 1, .inr (.inr (.inr (.inr (arrS V n))))))] ++ (si cI cV Y Ya V n d r ch pd yr Wd ++ R)))))) H := va_P_perm (pm_out _ _ _ [(w, .inr (5, row (fun _ => 0)))] ([(q, .inl (cV, n + 1, .inr (.inr (.inr (.inr (arrS V n))))))] ++ (si cI cV Y Ya V n d r ch pd yr Wd ++ R)) _).symm hP
      have hD : va_D A (tab cI X d r ++ (bk cW X Bk n ch pd pr yr Wd ++ (bk cW X Br 0 0 0 0 0 (fun _ _ => 0) ++ (obj X Bk Br :: ([(w, .inr (5, row (fun _ => 0))), (q, .inl (cV, n + 1, .inr (.inr (.inr (.inr (arrS V n))))))] ++ (si cI cV Y Ya V n d r ch pd yr Wd ++ R)))))) := va_D_perm (pm_out _ _ _ [(w, .inr (5, row (fun _ => 0)))] ([(q, .inl (cV, n + 1, .inr (.inr (.inr (.inr (arrS V n))))))] ++ (si cI cV Y Ya V n d r ch pd yr Wd ++ R)) _).symm hD
      refine W.widen (k := 2) (n := 17) (by omega) (by omega) ?_
      refine va_astq hx hb hKV hP hD hS (27 + 2) 0 (27 + 1) 5 (cw_at (k := 2) rfl) rfl (cw_at (k := 1) rfl) rfl (vp_in_nI (by omega) (by omega)) dL_act_634 (fun H locs hP hD hS => ?_)
      rw [clamp_nI (show n < 2147483648 by omega), cw_aset] at hP hD
      have hP : va_P (dC, dI) vwCl (tab cI X d r ++ (bk cW X Bk n ch pd pr yr Wd ++ (bk cW X Br 0 0 0 0 0 (fun _ _ => 0) ++ (obj X Bk Br :: ([(w, .inr (5, row (fun _ => 0))), (q, .inl (cV, n + 1, .inr (.inr (.inr (.inr (va_up (arrS V n) n (some w)))))))] ++ (si cI cV Y Ya V n d r ch pd yr Wd ++ R)))))) H := hP
      have hD : va_D A (tab cI X d r ++ (bk cW X Bk n ch pd pr yr Wd ++ (bk cW X Br 0 0 0 0 0 (fun _ _ => 0) ++ (obj X Bk Br :: ([(w, .inr (5, row (fun _ => 0))), (q, .inl (cV, n + 1, .inr (.inr (.inr (.inr (va_up (arrS V n) n (some w)))))))] ++ (si cI cV Y Ya V n d r ch pd yr Wd ++ R)))))) := hD
      refine lv_aload hx hb dL_act_635 (lv_at hl 0 rfl) ?_
      refine lv_iload_n hx hb dL_act_637 rfl (lv_at hl 6 rfl) ?_
      refine va_aldq hx hb hKV hP (27 + 2) 0 (cw_at (k := 2) rfl) rfl (vp_in_nI (show n < n + 1 by omega) (by omega)) dL_act_638 ?_
      rw [show va_rf (va_up (arrS V n) n (some w) (nI n).toNatClampNeg) = .ref w from by rw [clamp_nI (show n < 2147483648 by omega)]; simp [va_up, va_rf]]
      refine lv_iload hx hb dL_act_639 (lv_at hl 2 rfl) ?_
      refine va_put (D := (dC, dI)) (ci := 5) (v := .int (nI ka)) (ty := .int) (C := RX5) (T := TX5) (N := 7) hx hb hts (by decide +kernel) tyX5 tyX5_ok nmX5 hown hKK.1 hP hD hS (27 + 1) (cw_at (k := 1) rfl) rfl 0 (by decide) (hts (.fieldLink RL 87 "WidowPenniesLaw$Widow" "age" "I") (by decide +kernel)) (fun _ h9 => h9) rfl (by decide +kernel) rfl rfl (Nat.le_of_ble_eq_true rfl) dL_act_641 (fun H locs hP hD hS => ?_)
      rw [cw_aset] at hP hD
      have hP : va_P (dC, dI) vwCl (tab cI X d r ++ (bk cW X Bk n ch pd pr yr Wd ++ (bk cW X Br 0 0 0 0 0 (fun _ _ => 0) ++ (obj X Bk Br :: ([(w, .inr (5, row (upd (fun _ => 0) 0 (nI ka)))), (q, .inl (cV, n + 1, .inr (.inr (.inr (.inr (va_up (arrS V n) n (some w)))))))] ++ (si cI cV Y Ya V n d r ch pd yr Wd ++ R)))))) H := hP
      have hD : va_D A (tab cI X d r ++ (bk cW X Bk n ch pd pr yr Wd ++ (bk cW X Br 0 0 0 0 0 (fun _ _ => 0) ++ (obj X Bk Br :: ([(w, .inr (5, row (upd (fun _ => 0) 0 (nI ka)))), (q, .inl (cV, n + 1, .inr (.inr (.inr (.inr (va_up (arrS V n) n (some w)))))))] ++ (si cI cV Y Ya V n d r ch pd yr Wd ++ R)))))) := hD
      refine lv_aload hx hb dL_act_644 (lv_at hl 0 rfl) ?_
      refine lv_iload_n hx hb dL_act_646 rfl (lv_at hl 6 rfl) ?_
      refine va_aldq hx hb hKV hP (27 + 2) 0 (cw_at (k := 2) rfl) rfl (vp_in_nI (show n < n + 1 by omega) (by omega)) dL_act_647 ?_
      rw [show va_rf (va_up (arrS V n) n (some w) (nI n).toNatClampNeg) = .ref w from by rw [clamp_nI (show n < 2147483648 by omega)]; simp [va_up, va_rf]]
      refine lv_iconst (v := 1) hx hb dL_act_648 (by decide) ?_
      refine lv_iload_n hx hb dL_act_649 rfl (lv_at hl 5 rfl) ?_
      refine lv_iconst (v := 3) hx hb dL_act_650 (by decide) ?_
      refine lv_ishr hx hb dL_act_651 ?_
      refine lv_iload_n hx hb dL_act_652 rfl (lv_at hl 5 rfl) ?_
      refine lv_iconst (v := 2) hx hb dL_act_653 (by decide) ?_
      refine rd_i (runS0 (As := [.int x, .int 2]) (rest := [.int (x >>> (3 &&& 31)), .int 1, .ref w]) ⟨hx, hb, hml, hown, hts⟩ (met_L_below l dC dI cI cW x 2 (by decide)) (va_cwS 2 hts gL_act_L_below rfl rfl rfl (by decide +kernel) ⟨Nat.le_of_ble_eq_true rfl, Nat.le_of_ble_eq_true rfl⟩) hKK nilP rfl hl.1 (Nat.le_of_ble_eq_true rfl) rfl dL_act_654 ⟨Nat.le_of_ble_eq_true rfl, Nat.le_of_ble_eq_true rfl⟩) (fun r_1 hr_1 => ?_)
      subst hr_1
      refine lv_if_ne (tgt := 666) hx hb dL_act_657 (by decide) (fun c_2 => ?_) (fun c_2 => ?_)
      · obtain ⟨ks, hks, eks⟩ := bel_nI (x >>> (3 &&& 31)) (n := 60) (by omega) (by omega)
        have hx9 : 1 ≤ nI (1 + ks) ∧ nI (1 + ks) ≤ 999 := ⟨(le_nI (a := 1) (by omega)).mpr (by omega), (le_nI (b := 999) (by omega)).mpr (by omega)⟩
        refine lv_bipush (v := 60) hx hb dL_act_666 (by decide) ?_
        refine rd_i (runS0 (As := [.int (x >>> (3 &&& 31)), .int 60]) (rest := [.int 1, .ref w]) ⟨hx, hb, hml, hown, hts⟩ (met_L_below l dC dI cI cW (x >>> (3 &&& 31)) 60 (by decide)) (va_cwS 2 hts gL_act_L_below rfl rfl rfl (by decide +kernel) ⟨Nat.le_of_ble_eq_true rfl, Nat.le_of_ble_eq_true rfl⟩) hKK nilP rfl hl.1 (Nat.le_of_ble_eq_true rfl) rfl dL_act_668 ⟨Nat.le_of_ble_eq_true rfl, Nat.le_of_ble_eq_true rfl⟩) (fun r_3 hr_3 => ?_)
        subst hr_3
        rw [show (belS (x >>> (3 &&& 31)) 60 : Int32) = nI ks from eks]
        refine lv_iadd hx hb dL_act_671 ?_
        rw [show (1 + (nI ks) : Int32) = nI (1 + ks) from nI_add 1 ks]
        refine va_put (D := (dC, dI)) (ci := 5) (v := .int (nI (1 + ks))) (ty := .int) (C := RX5) (T := TX5) (N := 7) hx hb hts (by decide +kernel) tyX5 tyX5_ok nmX5 hown hKK.1 hP hD hS (27 + 1) (cw_at (k := 1) rfl) rfl 1 (by decide) (hts (.fieldLink RL 90 "WidowPenniesLaw$Widow" "sum" "I") (by decide +kernel)) (fun _ h9 => h9) rfl (by decide +kernel) rfl rfl (Nat.le_of_ble_eq_true rfl) dL_act_672 (fun H locs hP hD hS => ?_)
        rw [cw_aset] at hP hD
        have hP : va_P (dC, dI) vwCl (tab cI X d r ++ (bk cW X Bk n ch pd pr yr Wd ++ (bk cW X Br 0 0 0 0 0 (fun _ _ => 0) ++ (obj X Bk Br :: ([(w, .inr (5, row (upd (upd (fun _ => 0) 0 (nI ka)) 1 (nI (1 + ks))))), (q, .inl (cV, n + 1, .inr (.inr (.inr (.inr (va_up (arrS V n) n (some w)))))))] ++ (si cI cV Y Ya V n d r ch pd yr Wd ++ R)))))) H := hP
        have hD : va_D A (tab cI X d r ++ (bk cW X Bk n ch pd pr yr Wd ++ (bk cW X Br 0 0 0 0 0 (fun _ _ => 0) ++ (obj X Bk Br :: ([(w, .inr (5, row (upd (upd (fun _ => 0) 0 (nI ka)) 1 (nI (1 + ks))))), (q, .inl (cV, n + 1, .inr (.inr (.inr (.inr (va_up (arrS V n) n (some w)))))))] ++ (si cI cV Y Ya V n d r ch pd yr Wd ++ R)))))) := hD
        refine lv_aload hx hb dL_act_675 (lv_at hl 0 rfl) ?_
        refine lv_iload_n hx hb dL_act_677 rfl (lv_at hl 6 rfl) ?_
        refine va_aldq hx hb hKV hP (27 + 2) 0 (cw_at (k := 2) rfl) rfl (vp_in_nI (show n < n + 1 by omega) (by omega)) dL_act_678 ?_
        rw [show va_rf (va_up (arrS V n) n (some w) (nI n).toNatClampNeg) = .ref w from by rw [clamp_nI (show n < 2147483648 by omega)]; simp [va_up, va_rf]]
        refine lv_iload hx hb dL_act_679 (lv_at hl 1 rfl) ?_
        refine va_put (D := (dC, dI)) (ci := 5) (v := .int (nI kb)) (ty := .int) (C := RX5) (T := TX5) (N := 7) hx hb hts (by decide +kernel) tyX5 tyX5_ok nmX5 hown hKK.1 hP hD hS (27 + 1) (cw_at (k := 1) rfl) rfl 2 (by decide) (hts (.fieldLink RL 93 "WidowPenniesLaw$Widow" "waits" "I") (by decide +kernel)) (fun _ h9 => h9) rfl (by decide +kernel) rfl rfl (Nat.le_of_ble_eq_true rfl) dL_act_681 (fun H locs hP hD hS => ?_)
        rw [cw_aset] at hP hD
        have hP : va_P (dC, dI) vwCl (tab cI X d r ++ (bk cW X Bk n ch pd pr yr Wd ++ (bk cW X Br 0 0 0 0 0 (fun _ _ => 0) ++ (obj X Bk Br :: ([(w, .inr (5, row (upd (upd (upd (fun _ => 0) 0 (nI ka)) 1 (nI (1 + ks))) 2 (nI kb)))), (q, .inl (cV, n + 1, .inr (.inr (.inr (.inr (va_up (arrS V n) n (some w)))))))] ++ (si cI cV Y Ya V n d r ch pd yr Wd ++ R)))))) H := hP
        have hD : va_D A (tab cI X d r ++ (bk cW X Bk n ch pd pr yr Wd ++ (bk cW X Br 0 0 0 0 0 (fun _ _ => 0) ++ (obj X Bk Br :: ([(w, .inr (5, row (upd (upd (upd (fun _ => 0) 0 (nI ka)) 1 (nI (1 + ks))) 2 (nI kb)))), (q, .inl (cV, n + 1, .inr (.inr (.inr (.inr (va_up (arrS V n) n (some w)))))))] ++ (si cI cV Y Ya V n d r ch pd yr Wd ++ R)))))) := hD
        refine lv_aload hx hb dL_act_684 (lv_at hl 0 rfl) ?_
        refine lv_iload_n hx hb dL_act_686 rfl (lv_at hl 6 rfl) ?_
        refine va_aldq hx hb hKV hP (27 + 2) 0 (cw_at (k := 2) rfl) rfl (vp_in_nI (show n < n + 1 by omega) (by omega)) dL_act_687 ?_
        rw [show va_rf (va_up (arrS V n) n (some w) (nI n).toNatClampNeg) = .ref w from by rw [clamp_nI (show n < 2147483648 by omega)]; simp [va_up, va_rf]]
        refine lv_aload_n hx hb dL_act_688 rfl (lv_at hl 4 rfl) ?_
        refine lv_iload hx hb dL_act_689 (lv_at hl 2 rfl) ?_
        refine lv_aload hx hb dL_act_691 (lv_at hl 0 rfl) ?_
        refine lv_iload_n hx hb dL_act_693 rfl (lv_at hl 6 rfl) ?_
        refine va_aldq hx hb hKV hP (27 + 2) 0 (cw_at (k := 2) rfl) rfl (vp_in_nI (show n < n + 1 by omega) (by omega)) dL_act_694 ?_
        rw [show va_rf (va_up (arrS V n) n (some w) (nI n).toNatClampNeg) = .ref w from by rw [clamp_nI (show n < 2147483648 by omega)]; simp [va_up, va_rf]]
        refine va_get (D := (dC, dI)) (ci := 5) (v := .int (nI (1 + ks))) (C := RX5) (T := TX5) (N := 7) hx hb hts (by decide +kernel) hown hKK.1 hP (27 + 1) (cw_at (k := 1) rfl) rfl 1 (by decide) (hts (.fieldLink RL 90 "WidowPenniesLaw$Widow" "sum" "I") (by decide +kernel)) (fun _ h9 => h9) rfl dL_act_695 ?_
        refine lv_iload hx hb dL_act_698 (lv_at hl 1 rfl) ?_
        refine rd_i (runV0S (As := [.int (nI ka), .int (nI (1 + ks)), .int (nI kb)]) (rest := [.ref w]) ⟨hx, hb, hml, hown, hts⟩ (met_X4_price l dC dI cI cW cV Y Ya V n d r ch pd yr Wd ka (nI (1 + ks)) kb h1 h2 h3 hi) (cwV 3 hts gL_act_X4_price rfl rfl rfl (by decide +kernel) ⟨Nat.le_of_ble_eq_true rfl, Nat.le_of_ble_eq_true rfl⟩) hKS (siP1 hP) 4 0 rfl rfl rfl hl.1 (Nat.le_of_ble_eq_true rfl) rfl dL_act_700 ⟨Nat.le_of_ble_eq_true rfl, Nat.le_of_ble_eq_true rfl⟩) (fun r_6 hr_6 => ?_)
        subst hr_6
        refine va_put (D := (dC, dI)) (ci := 5) (v := .int (priceS (r 1) (nI (1 + ks)) (wN d (r 0) (100 - ka) kb))) (ty := .int) (C := RX5) (T := TX5) (N := 7) hx hb hts (by decide +kernel) tyX5 tyX5_ok nmX5 hown hKK.1 hP hD hS (27 + 1) (cw_at (k := 1) rfl) rfl 6 (by decide) (hts (.fieldLink RL 100 "WidowPenniesLaw$Widow" "price" "I") (by decide +kernel)) (fun _ h9 => h9) rfl (by decide +kernel) rfl rfl (Nat.le_of_ble_eq_true rfl) dL_act_703 (fun H locs hP hD hS => ?_)
        rw [cw_aset] at hP hD
        have hP : va_P (dC, dI) vwCl (tab cI X d r ++ (bk cW X Bk n ch pd pr yr Wd ++ (bk cW X Br 0 0 0 0 0 (fun _ _ => 0) ++ (obj X Bk Br :: ([(w, .inr (5, row (upd (upd (upd (upd (fun _ => 0) 0 (nI ka)) 1 (nI (1 + ks))) 2 (nI kb)) 6 (priceS (r 1) (nI (1 + ks)) (wN d (r 0) (100 - ka) kb))))), (q, .inl (cV, n + 1, .inr (.inr (.inr (.inr (va_up (arrS V n) n (some w)))))))] ++ (si cI cV Y Ya V n d r ch pd yr Wd ++ R)))))) H := hP
        have hD : va_D A (tab cI X d r ++ (bk cW X Bk n ch pd pr yr Wd ++ (bk cW X Br 0 0 0 0 0 (fun _ _ => 0) ++ (obj X Bk Br :: ([(w, .inr (5, row (upd (upd (upd (upd (fun _ => 0) 0 (nI ka)) 1 (nI (1 + ks))) 2 (nI kb)) 6 (priceS (r 1) (nI (1 + ks)) (wN d (r 0) (100 - ka) kb))))), (q, .inl (cV, n + 1, .inr (.inr (.inr (.inr (va_up (arrS V n) n (some w)))))))] ++ (si cI cV Y Ya V n d r ch pd yr Wd ++ R)))))) := hD
        refine lv_aload_n hx hb dL_act_706 rfl (lv_at hl 4 rfl) ?_
        refine lv_aload hx hb dL_act_707 (lv_at hl 0 rfl) ?_
        refine va_put (D := (dC, dI)) (ci := 4) (v := .ref q) (ty := (.array (.object "WidowPenniesLaw$Widow"))) (C := RX4) (T := TX4) (N := 6) hx hb hts (by decide +kernel) tyX4 tyX4_ok nmX4 hown hKK.1 hP hD hS (27 + 3) (cw_at (k := 3) rfl) rfl 5 (by decide) (hts (.fieldLink RL 9 "WidowPenniesLaw$Sim" "all" "[LWidowPenniesLaw$Widow;") (by decide +kernel)) (fun _ h9 => h9) rfl (by decide +kernel) rfl rfl (Nat.le_of_ble_eq_true rfl) dL_act_709 (fun H locs hP hD hS => ?_)
        rw [cw_aset] at hP hD
        have eR : row (upd (upd (upd (upd (fun _ => 0) 0 (nI ka)) 1 (nI (1 + ks))) 2 (nI kb)) 6 (priceS (r 1) (nI (1 + ks)) (wN d (r 0) (100 - ka) kb))) = row (mkW (nI ka) (nI (1 + ks)) (nI kb) (priceS (r 1) (nI (1 + ks)) (wN d (r 0) (100 - ka) kb))) := rfl
        rw [eR] at hP hD
        have hP : va_P (dC, dI) vwCl (tab cI X d r ++ (bk cW X Bk n ch pd pr yr Wd ++ (bk cW X Br 0 0 0 0 0 (fun _ _ => 0) ++ (obj X Bk Br :: (((Y 0, .inr (4, [.int yr, .int ch, .int pd, .ref (Y 1), .ref (Y 2), .ref q])) :: (Y 1, .inl (cI, 3, .inl r)) :: (Y 2, .inl (cI, 50, .inl d)) :: (q, .inl (cV, n + 1, .inr (.inr (.inr (.inr (va_up (arrS V n) n (some w))))))) :: (sw n V Wd ++ [(w, .inr (5, row (mkW (nI ka) (nI (1 + ks)) (nI kb) (priceS (r 1) (nI (1 + ks)) (wN d (r 0) (100 - ka) kb)))))])) ++ R))))) H := va_P_tl (va_P_perm (act_lay _ _ _ (sw n V Wd) R _ (Y 0, .inr (4, [.int yr, .int ch, .int pd, .ref (Y 1), .ref (Y 2), .ref q])) (Y 1, .inl (cI, 3, .inl r)) (Y 2, .inl (cI, 50, .inl d)) (Ya, .inl (cV, n, .inr (.inr (.inr (.inr (fun k => some (V k))))))) (w, .inr (5, row (mkW (nI ka) (nI (1 + ks)) (nI kb) (priceS (r 1) (nI (1 + ks)) (wN d (r 0) (100 - ka) kb))))) (q, .inl (cV, n + 1, .inr (.inr (.inr (.inr (va_up (arrS V n) n (some w)))))))) hP)
        have hD : va_D A (tab cI X d r ++ (bk cW X Bk n ch pd pr yr Wd ++ (bk cW X Br 0 0 0 0 0 (fun _ _ => 0) ++ (obj X Bk Br :: (((Y 0, .inr (4, [.int yr, .int ch, .int pd, .ref (Y 1), .ref (Y 2), .ref q])) :: (Y 1, .inl (cI, 3, .inl r)) :: (Y 2, .inl (cI, 50, .inl d)) :: (q, .inl (cV, n + 1, .inr (.inr (.inr (.inr (va_up (arrS V n) n (some w))))))) :: (sw n V Wd ++ [(w, .inr (5, row (mkW (nI ka) (nI (1 + ks)) (nI kb) (priceS (r 1) (nI (1 + ks)) (wN d (r 0) (100 - ka) kb)))))])) ++ R))))) := va_D_tl (va_D_perm (act_lay _ _ _ (sw n V Wd) R _ (Y 0, .inr (4, [.int yr, .int ch, .int pd, .ref (Y 1), .ref (Y 2), .ref q])) (Y 1, .inl (cI, 3, .inl r)) (Y 2, .inl (cI, 50, .inl d)) (Ya, .inl (cV, n, .inr (.inr (.inr (.inr (fun k => some (V k))))))) (w, .inr (5, row (mkW (nI ka) (nI (1 + ks)) (nI kb) (priceS (r 1) (nI (1 + ks)) (wN d (r 0) (100 - ka) kb))))) (q, .inl (cV, n + 1, .inr (.inr (.inr (.inr (va_up (arrS V n) n (some w)))))))) hD)
        have hP := cell_objs (cA := cV) (g := fun k => some ((fun i => if i = n then w else V i) k)) (i := 27 + 4) hP (cw_at (k := 4) rfl) (arrS_w V n w)
        have hD := va_D.set (e := .inl (cV, n + 1, .inr (.inr (.inr (.inr (fun k => some ((fun i => if i = n then w else V i) k))))))) (p := 27 + 4) hD (cw_at (k := 4) rfl)
        rw [cw_aset] at hP hD
        have hP : va_P (dC, dI) vwCl (tab cI X d r ++ (bk cW X Bk n ch pd pr yr Wd ++ (bk cW X Br 0 0 0 0 0 (fun _ _ => 0) ++ (obj X Bk Br :: (((Y 0, .inr (4, [.int yr, .int ch, .int pd, .ref (Y 1), .ref (Y 2), .ref q])) :: (Y 1, .inl (cI, 3, .inl r)) :: (Y 2, .inl (cI, 50, .inl d)) :: (q, .inl (cV, n + 1, .inr (.inr (.inr (.inr (fun k => some ((fun i => if i = n then w else V i) k))))))) :: (sw n V Wd ++ [(w, .inr (5, row (mkW (nI ka) (nI (1 + ks)) (nI kb) (priceS (r 1) (nI (1 + ks)) (wN d (r 0) (100 - ka) kb)))))])) ++ R))))) H := hP
        have hD : va_D A (tab cI X d r ++ (bk cW X Bk n ch pd pr yr Wd ++ (bk cW X Br 0 0 0 0 0 (fun _ _ => 0) ++ (obj X Bk Br :: (((Y 0, .inr (4, [.int yr, .int ch, .int pd, .ref (Y 1), .ref (Y 2), .ref q])) :: (Y 1, .inl (cI, 3, .inl r)) :: (Y 2, .inl (cI, 50, .inl d)) :: (q, .inl (cV, n + 1, .inr (.inr (.inr (.inr (fun k => some ((fun i => if i = n then w else V i) k))))))) :: (sw n V Wd ++ [(w, .inr (5, row (mkW (nI ka) (nI (1 + ks)) (nI kb) (priceS (r 1) (nI (1 + ks)) (wN d (r 0) (100 - ka) kb)))))])) ++ R))))) := hD
        rw [sw_snoc] at hP hD
        obtain ⟨V2, hV2⟩ : ∃ V2 : Nat → Nat, V2 = (fun i => if i = n then w else V i) := ⟨_, rfl⟩
        rw [← hV2] at hP hD
        have hP : va_P (dC, dI) vwCl (tab cI X d r ++ (bk cW X Bk n ch pd pr yr Wd ++ (bk cW X Br 0 0 0 0 0 (fun _ _ => 0) ++ (obj X Bk Br :: (si cI cV Y q V2 (n + 1) d r ch pd yr (upW Wd n (mkW (nI ka) (nI (1 + ks)) (nI kb) (priceS (r 1) (nI (1 + ks)) (wN d (r 0) (100 - ka) kb)))) ++ R))))) H := hP
        have hD : va_D A (tab cI X d r ++ (bk cW X Bk n ch pd pr yr Wd ++ (bk cW X Br 0 0 0 0 0 (fun _ _ => 0) ++ (obj X Bk Br :: (si cI cV Y q V2 (n + 1) d r ch pd yr (upW Wd n (mkW (nI ka) (nI (1 + ks)) (nI kb) (priceS (r 1) (nI (1 + ks)) (wN d (r 0) (100 - ka) kb)))) ++ R))))) := hD
        refine lv_aload_n hx hb dL_act_712 rfl (lv_at hl 4 rfl) ?_
        refine lv_aload hx hb dL_act_713 (lv_at hl 0 rfl) ?_
        refine lv_iload_n hx hb dL_act_715 rfl (lv_at hl 6 rfl) ?_
        refine va_aldq hx hb hKV (siP0 hP) 3 0 rfl rfl (vp_in_nI (Nat.lt_succ_self n) (by omega)) dL_act_716 ?_
        rw [show va_rf ((fun k => some (V2 k)) (nI n).toNatClampNeg) = .ref (V2 n) from by rw [clamp_nI (show n < 2147483648 by omega)]; rfl]
        refine va_get (D := (dC, dI)) (ci := 5) (v := .int ((upW Wd n (mkW (nI ka) (nI (1 + ks)) (nI kb) (priceS (r 1) (nI (1 + ks)) (wN d (r 0) (100 - ka) kb)))) n 6)) (C := RX5) (T := TX5) (N := 7) hx hb hts (by decide +kernel) hown hKK.1 (siP0 hP) (n + 4) (si_at0 (Nat.lt_succ_self n)) rfl 6 (by decide) (hts (.fieldLink RL 100 "WidowPenniesLaw$Widow" "price" "I") (by decide +kernel)) (fun _ h9 => h9) rfl dL_act_717 ?_
        rw [show ((upW Wd n (mkW (nI ka) (nI (1 + ks)) (nI kb) (priceS (r 1) (nI (1 + ks)) (wN d (r 0) (100 - ka) kb)))) n 6 : Int32) = priceS (r 1) (nI (1 + ks)) (wN d (r 0) (100 - ka) kb) from by rw [upW_at]; rfl]
        refine lv_i2l hx hb dL_act_720 rfl ?_
        have hP : va_P (dC, dI) vwCl (si cI cV Y q V2 (n + 1) d r ch pd yr (upW Wd n (mkW (nI ka) (nI (1 + ks)) (nI kb) (priceS (r 1) (nI (1 + ks)) (wN d (r 0) (100 - ka) kb)))) ++ (tab cI X d r ++ (bk cW X Bk n ch pd pr yr Wd ++ (bk cW X Br 0 0 0 0 0 (fun _ _ => 0) ++ (obj X Bk Br :: (R)))))) _ := va_P_perm (pm_in0 _ _ _ _ _ _) hP
        have hD : va_D A (si cI cV Y q V2 (n + 1) d r ch pd yr (upW Wd n (mkW (nI ka) (nI (1 + ks)) (nI kb) (priceS (r 1) (nI (1 + ks)) (wN d (r 0) (100 - ka) kb)))) ++ (tab cI X d r ++ (bk cW X Bk n ch pd pr yr Wd ++ (bk cW X Br 0 0 0 0 0 (fun _ _ => 0) ++ (obj X Bk Br :: (R)))))) := va_D_perm (pm_in0 _ _ _ _ _ _) hD
        refine wr_v (runV1S (As := [.long ((priceS (r 1) (nI (1 + ks)) (wN d (r 0) (100 - ka) kb)).toInt64)]) (rest := []) ⟨hx, hb, hml, hown, hts⟩ (met_X4_come l dC dI cI cW cV Y q V2 (n + 1) d r ch pd yr (upW Wd n (mkW (nI ka) (nI (1 + ks)) (nI kb) (priceS (r 1) (nI (1 + ks)) (wN d (r 0) (100 - ka) kb)))) (tab cI X d r ++ (bk cW X Bk n ch pd pr yr Wd ++ (bk cW X Br 0 0 0 0 0 (fun _ _ => 0) ++ (obj X Bk Br :: (R))))) ((priceS (r 1) (nI (1 + ks)) (wN d (r 0) (100 - ka) kb)).toInt64) _) (cwV 1 hts gL_act_X4_come rfl rfl rfl (by decide +kernel) ⟨Nat.le_of_ble_eq_true rfl, Nat.le_of_ble_eq_true rfl⟩) hKS hP hD 4 0 rfl rfl rfl hl.1 (Nat.le_of_ble_eq_true rfl) rfl dL_act_721 ⟨Nat.le_of_ble_eq_true rfl, Nat.le_of_ble_eq_true rfl⟩) hD hS hA (fun H locs hP hD hS => ?_)
        have hP : va_P (dC, dI) vwCl (tab cI X d r ++ (bk cW X Bk n ch pd pr yr Wd ++ (bk cW X Br 0 0 0 0 0 (fun _ _ => 0) ++ (obj X Bk Br :: (si cI cV Y q V2 (n + 1) d r (comeS ch ((priceS (r 1) (nI (1 + ks)) (wN d (r 0) (100 - ka) kb)).toInt64)) pd yr (upW Wd n (mkW (nI ka) (nI (1 + ks)) (nI kb) (priceS (r 1) (nI (1 + ks)) (wN d (r 0) (100 - ka) kb)))) ++ R))))) H := va_P_perm (pm_in0 _ _ _ _ _ _).symm hP
        have hD : va_D A (tab cI X d r ++ (bk cW X Bk n ch pd pr yr Wd ++ (bk cW X Br 0 0 0 0 0 (fun _ _ => 0) ++ (obj X Bk Br :: (si cI cV Y q V2 (n + 1) d r (comeS ch ((priceS (r 1) (nI (1 + ks)) (wN d (r 0) (100 - ka) kb)).toInt64)) pd yr (upW Wd n (mkW (nI ka) (nI (1 + ks)) (nI kb) (priceS (r 1) (nI (1 + ks)) (wN d (r 0) (100 - ka) kb)))) ++ R))))) := va_D_perm (pm_in0 _ _ _ _ _ _).symm hD
        refine lv_aload_n hx hb dL_act_724 rfl (lv_at hl 3 rfl) ?_
        refine lv_iload hx hb dL_act_725 (lv_at hl 2 rfl) ?_
        refine lv_aload hx hb dL_act_727 (lv_at hl 0 rfl) ?_
        refine lv_iload_n hx hb dL_act_729 rfl (lv_at hl 6 rfl) ?_
        refine va_aldq hx hb hKV (siP0 hP) 3 0 rfl rfl (vp_in_nI (Nat.lt_succ_self n) (by omega)) dL_act_730 ?_
        rw [show va_rf ((fun k => some (V2 k)) (nI n).toNatClampNeg) = .ref (V2 n) from by rw [clamp_nI (show n < 2147483648 by omega)]; rfl]
        refine va_get (D := (dC, dI)) (ci := 5) (v := .int ((upW Wd n (mkW (nI ka) (nI (1 + ks)) (nI kb) (priceS (r 1) (nI (1 + ks)) (wN d (r 0) (100 - ka) kb)))) n 1)) (C := RX5) (T := TX5) (N := 7) hx hb hts (by decide +kernel) hown hKK.1 (siP0 hP) (n + 4) (si_at0 (Nat.lt_succ_self n)) rfl 1 (by decide) (hts (.fieldLink RL 90 "WidowPenniesLaw$Widow" "sum" "I") (by decide +kernel)) (fun _ h9 => h9) rfl dL_act_731 ?_
        rw [show ((upW Wd n (mkW (nI ka) (nI (1 + ks)) (nI kb) (priceS (r 1) (nI (1 + ks)) (wN d (r 0) (100 - ka) kb)))) n 1 : Int32) = nI (1 + ks) from by rw [upW_at]; rfl]
        refine lv_iload hx hb dL_act_734 (lv_at hl 1 rfl) ?_
        refine wr_i (runV1 (As := [.int (nI ka), .int (nI (1 + ks)), .int (nI kb)]) (rest := []) ⟨hx, hb, hml, hown, hts⟩ (met_X3_buy l dC dI cI cW X Bk Br d r n ch pd pr yr Wd 0 0 0 0 0 (fun _ _ => 0) (si cI cV Y q V2 (n + 1) d r (comeS ch ((priceS (r 1) (nI (1 + ks)) (wN d (r 0) (100 - ka) kb)).toInt64)) pd yr (upW Wd n (mkW (nI ka) (nI (1 + ks)) (nI kb) (priceS (r 1) (nI (1 + ks)) (wN d (r 0) (100 - ka) kb)))) ++ R) hn10 ka (nI (1 + ks)) kb h1 h2 hx9 h3 hw hi hi0 _) (cwV 3 hts gL_act_X3_buy rfl rfl rfl (by decide +kernel) ⟨Nat.le_of_ble_eq_true rfl, Nat.le_of_ble_eq_true rfl⟩) hKK hP hD 3 27 rfl cw_obj rfl hl.1 (Nat.le_of_ble_eq_true rfl) rfl dL_act_736 ⟨Nat.le_of_ble_eq_true rfl, Nat.le_of_ble_eq_true rfl⟩) hD hS hA (fun r_9 H locs hr_9 hP hD hS => ?_)
        subst hr_9
        have hP : va_P (dC, dI) vwCl (tab cI X d r ++ (bk cW X Bk (n + 1) (takeS ch (priceS (r 1) (nI (1 + ks)) (wN d (r 0) (100 - ka) kb))) pd (pr + priceS (r 1) (nI (1 + ks)) (wN d (r 0) (100 - ka) kb)) yr (upW Wd n (mkW (nI ka) (nI (1 + ks)) (nI kb) (priceS (r 1) (nI (1 + ks)) (wN d (r 0) (100 - ka) kb)))) ++ (bk cW X Br 0 0 0 0 0 (fun _ _ => 0) ++ (obj X Bk Br :: (si cI cV Y q V2 (n + 1) d r (comeS ch ((priceS (r 1) (nI (1 + ks)) (wN d (r 0) (100 - ka) kb)).toInt64)) pd yr (upW Wd n (mkW (nI ka) (nI (1 + ks)) (nI kb) (priceS (r 1) (nI (1 + ks)) (wN d (r 0) (100 - ka) kb)))) ++ R))))) H := hP
        have hD : va_D A (tab cI X d r ++ (bk cW X Bk (n + 1) (takeS ch (priceS (r 1) (nI (1 + ks)) (wN d (r 0) (100 - ka) kb))) pd (pr + priceS (r 1) (nI (1 + ks)) (wN d (r 0) (100 - ka) kb)) yr (upW Wd n (mkW (nI ka) (nI (1 + ks)) (nI kb) (priceS (r 1) (nI (1 + ks)) (wN d (r 0) (100 - ka) kb)))) ++ (bk cW X Br 0 0 0 0 0 (fun _ _ => 0) ++ (obj X Bk Br :: (si cI cV Y q V2 (n + 1) d r (comeS ch ((priceS (r 1) (nI (1 + ks)) (wN d (r 0) (100 - ka) kb)).toInt64)) pd yr (upW Wd n (mkW (nI ka) (nI (1 + ks)) (nI kb) (priceS (r 1) (nI (1 + ks)) (wN d (r 0) (100 - ka) kb)))) ++ R))))) := hD
        refine lv_iload_n hx hb dL_act_739 rfl (lv_at hl 6 rfl) ?_
        refine lv_icmp_ne (tgt := 747) hx hb dL_act_740 (by decide) (fun c_10 => ?_) (fun c_10 => ?_)
        · exact absurd rfl c_10
        · refine lv_iconst (v := 1) hx hb dL_act_743 (by decide) ?_
          refine lv_goto (tgt := 748) hx hb dL_act_744 (by decide) ?_
          rw [(hI.buy (show i ≤ 512 by omega) hn10 h1 h2 hx9 h3 hw).1] at hP hD
          have hP : va_P (dC, dI) vwCl (tab cI X d r ++ (bk cW X Bk (n + 1) (takeS ch (priceS (r 1) (nI (1 + ks)) (wN d (r 0) (100 - ka) kb))) pd (pr + priceS (r 1) (nI (1 + ks)) (wN d (r 0) (100 - ka) kb)) yr (upW Wd n (mkW (nI ka) (nI (1 + ks)) (nI kb) (priceS (r 1) (nI (1 + ks)) (wN d (r 0) (100 - ka) kb)))) ++ (bk cW X Br 0 0 0 0 0 (fun _ _ => 0) ++ (obj X Bk Br :: (si cI cV Y q V2 (n + 1) d r (takeS ch (priceS (r 1) (nI (1 + ks)) (wN d (r 0) (100 - ka) kb))) pd yr (upW Wd n (mkW (nI ka) (nI (1 + ks)) (nI kb) (priceS (r 1) (nI (1 + ks)) (wN d (r 0) (100 - ka) kb)))) ++ R))))) _ := hP
          have hD : va_D A (tab cI X d r ++ (bk cW X Bk (n + 1) (takeS ch (priceS (r 1) (nI (1 + ks)) (wN d (r 0) (100 - ka) kb))) pd (pr + priceS (r 1) (nI (1 + ks)) (wN d (r 0) (100 - ka) kb)) yr (upW Wd n (mkW (nI ka) (nI (1 + ks)) (nI kb) (priceS (r 1) (nI (1 + ks)) (wN d (r 0) (100 - ka) kb)))) ++ (bk cW X Br 0 0 0 0 0 (fun _ _ => 0) ++ (obj X Bk Br :: (si cI cV Y q V2 (n + 1) d r (takeS ch (priceS (r 1) (nI (1 + ks)) (wN d (r 0) (100 - ka) kb))) pd yr (upW Wd n (mkW (nI ka) (nI (1 + ks)) (nI kb) (priceS (r 1) (nI (1 + ks)) (wN d (r 0) (100 - ka) kb)))) ++ R))))) := hD
          have hP9 : va_P (dC, dI) vwCl (gW cI cW cV X Bk Br Y R (d, r, n + 1, takeS ch (priceS (r 1) (nI (1 + ks)) (wN d (r 0) (100 - ka) kb)), pd, pr + priceS (r 1) (nI (1 + ks)) (wN d (r 0) (100 - ka) kb), yr, upW Wd n (mkW (nI ka) (nI (1 + ks)) (nI kb) (priceS (r 1) (nI (1 + ks)) (wN d (r 0) (100 - ka) kb))), q, V2)) _ := hP
          have hD9 : va_D A (gW cI cW cV X Bk Br Y R (d, r, n + 1, takeS ch (priceS (r 1) (nI (1 + ks)) (wN d (r 0) (100 - ka) kb)), pd, pr + priceS (r 1) (nI (1 + ks)) (wN d (r 0) (100 - ka) kb), yr, upW Wd n (mkW (nI ka) (nI (1 + ks)) (nI kb) (priceS (r 1) (nI (1 + ks)) (wN d (r 0) (100 - ka) kb))), q, V2)) := hD
          exact W.zret (v := 1) hx hb hr (by first | rfl | (split <;> rfl)) (fun t ht hW => ⟨⟨_, (d, r, n + 1, takeS ch (priceS (r 1) (nI (1 + ks)) (wN d (r 0) (100 - ka) kb)), pd, pr + priceS (r 1) (nI (1 + ks)) (wN d (r 0) (100 - ka) kb), yr, upW Wd n (mkW (nI ka) (nI (1 + ks)) (nI kb) (priceS (r 1) (nI (1 + ks)) (wN d (r 0) (100 - ka) kb))), q, V2), rfl, ⟨rfl, (hI.buy (show i ≤ 512 by omega) hn10 h1 h2 hx9 h3 hw).2⟩, by rw [ht]; exact hP9, by rw [hAe]; exact hD9⟩, by rw [hAe]; exact hS.F ht⟩) hS.2.2 dL_act_748
      · obtain ⟨ks, hks, eks⟩ := bel_nI (x >>> (3 &&& 31)) (n := 999) (by omega) (by omega)
        have hx9 : 1 ≤ nI (1 + ks) ∧ nI (1 + ks) ≤ 999 := ⟨(le_nI (a := 1) (by omega)).mpr (by omega), (le_nI (b := 999) (by omega)).mpr (by omega)⟩
        refine lv_sipush (v := 999) hx hb dL_act_660 (by decide) ?_
        refine lv_goto (tgt := 668) hx hb dL_act_663 (by decide) ?_
        refine rd_i (runS0 (As := [.int (x >>> (3 &&& 31)), .int 999]) (rest := [.int 1, .ref w]) ⟨hx, hb, hml, hown, hts⟩ (met_L_below l dC dI cI cW (x >>> (3 &&& 31)) 999 (by decide)) (va_cwS 2 hts gL_act_L_below rfl rfl rfl (by decide +kernel) ⟨Nat.le_of_ble_eq_true rfl, Nat.le_of_ble_eq_true rfl⟩) hKK nilP rfl hl.1 (Nat.le_of_ble_eq_true rfl) rfl dL_act_668 ⟨Nat.le_of_ble_eq_true rfl, Nat.le_of_ble_eq_true rfl⟩) (fun r_11 hr_11 => ?_)
        subst hr_11
        rw [show (belS (x >>> (3 &&& 31)) 999 : Int32) = nI ks from eks]
        refine lv_iadd hx hb dL_act_671 ?_
        rw [show (1 + (nI ks) : Int32) = nI (1 + ks) from nI_add 1 ks]
        refine va_put (D := (dC, dI)) (ci := 5) (v := .int (nI (1 + ks))) (ty := .int) (C := RX5) (T := TX5) (N := 7) hx hb hts (by decide +kernel) tyX5 tyX5_ok nmX5 hown hKK.1 hP hD hS (27 + 1) (cw_at (k := 1) rfl) rfl 1 (by decide) (hts (.fieldLink RL 90 "WidowPenniesLaw$Widow" "sum" "I") (by decide +kernel)) (fun _ h9 => h9) rfl (by decide +kernel) rfl rfl (Nat.le_of_ble_eq_true rfl) dL_act_672 (fun H locs hP hD hS => ?_)
        rw [cw_aset] at hP hD
        have hP : va_P (dC, dI) vwCl (tab cI X d r ++ (bk cW X Bk n ch pd pr yr Wd ++ (bk cW X Br 0 0 0 0 0 (fun _ _ => 0) ++ (obj X Bk Br :: ([(w, .inr (5, row (upd (upd (fun _ => 0) 0 (nI ka)) 1 (nI (1 + ks))))), (q, .inl (cV, n + 1, .inr (.inr (.inr (.inr (va_up (arrS V n) n (some w)))))))] ++ (si cI cV Y Ya V n d r ch pd yr Wd ++ R)))))) H := hP
        have hD : va_D A (tab cI X d r ++ (bk cW X Bk n ch pd pr yr Wd ++ (bk cW X Br 0 0 0 0 0 (fun _ _ => 0) ++ (obj X Bk Br :: ([(w, .inr (5, row (upd (upd (fun _ => 0) 0 (nI ka)) 1 (nI (1 + ks))))), (q, .inl (cV, n + 1, .inr (.inr (.inr (.inr (va_up (arrS V n) n (some w)))))))] ++ (si cI cV Y Ya V n d r ch pd yr Wd ++ R)))))) := hD
        refine lv_aload hx hb dL_act_675 (lv_at hl 0 rfl) ?_
        refine lv_iload_n hx hb dL_act_677 rfl (lv_at hl 6 rfl) ?_
        refine va_aldq hx hb hKV hP (27 + 2) 0 (cw_at (k := 2) rfl) rfl (vp_in_nI (show n < n + 1 by omega) (by omega)) dL_act_678 ?_
        rw [show va_rf (va_up (arrS V n) n (some w) (nI n).toNatClampNeg) = .ref w from by rw [clamp_nI (show n < 2147483648 by omega)]; simp [va_up, va_rf]]
        refine lv_iload hx hb dL_act_679 (lv_at hl 1 rfl) ?_
        refine va_put (D := (dC, dI)) (ci := 5) (v := .int (nI kb)) (ty := .int) (C := RX5) (T := TX5) (N := 7) hx hb hts (by decide +kernel) tyX5 tyX5_ok nmX5 hown hKK.1 hP hD hS (27 + 1) (cw_at (k := 1) rfl) rfl 2 (by decide) (hts (.fieldLink RL 93 "WidowPenniesLaw$Widow" "waits" "I") (by decide +kernel)) (fun _ h9 => h9) rfl (by decide +kernel) rfl rfl (Nat.le_of_ble_eq_true rfl) dL_act_681 (fun H locs hP hD hS => ?_)
        rw [cw_aset] at hP hD
        have hP : va_P (dC, dI) vwCl (tab cI X d r ++ (bk cW X Bk n ch pd pr yr Wd ++ (bk cW X Br 0 0 0 0 0 (fun _ _ => 0) ++ (obj X Bk Br :: ([(w, .inr (5, row (upd (upd (upd (fun _ => 0) 0 (nI ka)) 1 (nI (1 + ks))) 2 (nI kb)))), (q, .inl (cV, n + 1, .inr (.inr (.inr (.inr (va_up (arrS V n) n (some w)))))))] ++ (si cI cV Y Ya V n d r ch pd yr Wd ++ R)))))) H := hP
        have hD : va_D A (tab cI X d r ++ (bk cW X Bk n ch pd pr yr Wd ++ (bk cW X Br 0 0 0 0 0 (fun _ _ => 0) ++ (obj X Bk Br :: ([(w, .inr (5, row (upd (upd (upd (fun _ => 0) 0 (nI ka)) 1 (nI (1 + ks))) 2 (nI kb)))), (q, .inl (cV, n + 1, .inr (.inr (.inr (.inr (va_up (arrS V n) n (some w)))))))] ++ (si cI cV Y Ya V n d r ch pd yr Wd ++ R)))))) := hD
        refine lv_aload hx hb dL_act_684 (lv_at hl 0 rfl) ?_
        refine lv_iload_n hx hb dL_act_686 rfl (lv_at hl 6 rfl) ?_
        refine va_aldq hx hb hKV hP (27 + 2) 0 (cw_at (k := 2) rfl) rfl (vp_in_nI (show n < n + 1 by omega) (by omega)) dL_act_687 ?_
        rw [show va_rf (va_up (arrS V n) n (some w) (nI n).toNatClampNeg) = .ref w from by rw [clamp_nI (show n < 2147483648 by omega)]; simp [va_up, va_rf]]
        refine lv_aload_n hx hb dL_act_688 rfl (lv_at hl 4 rfl) ?_
        refine lv_iload hx hb dL_act_689 (lv_at hl 2 rfl) ?_
        refine lv_aload hx hb dL_act_691 (lv_at hl 0 rfl) ?_
        refine lv_iload_n hx hb dL_act_693 rfl (lv_at hl 6 rfl) ?_
        refine va_aldq hx hb hKV hP (27 + 2) 0 (cw_at (k := 2) rfl) rfl (vp_in_nI (show n < n + 1 by omega) (by omega)) dL_act_694 ?_
        rw [show va_rf (va_up (arrS V n) n (some w) (nI n).toNatClampNeg) = .ref w from by rw [clamp_nI (show n < 2147483648 by omega)]; simp [va_up, va_rf]]
        refine va_get (D := (dC, dI)) (ci := 5) (v := .int (nI (1 + ks))) (C := RX5) (T := TX5) (N := 7) hx hb hts (by decide +kernel) hown hKK.1 hP (27 + 1) (cw_at (k := 1) rfl) rfl 1 (by decide) (hts (.fieldLink RL 90 "WidowPenniesLaw$Widow" "sum" "I") (by decide +kernel)) (fun _ h9 => h9) rfl dL_act_695 ?_
        refine lv_iload hx hb dL_act_698 (lv_at hl 1 rfl) ?_
        refine rd_i (runV0S (As := [.int (nI ka), .int (nI (1 + ks)), .int (nI kb)]) (rest := [.ref w]) ⟨hx, hb, hml, hown, hts⟩ (met_X4_price l dC dI cI cW cV Y Ya V n d r ch pd yr Wd ka (nI (1 + ks)) kb h1 h2 h3 hi) (cwV 3 hts gL_act_X4_price rfl rfl rfl (by decide +kernel) ⟨Nat.le_of_ble_eq_true rfl, Nat.le_of_ble_eq_true rfl⟩) hKS (siP1 hP) 4 0 rfl rfl rfl hl.1 (Nat.le_of_ble_eq_true rfl) rfl dL_act_700 ⟨Nat.le_of_ble_eq_true rfl, Nat.le_of_ble_eq_true rfl⟩) (fun r_14 hr_14 => ?_)
        subst hr_14
        refine va_put (D := (dC, dI)) (ci := 5) (v := .int (priceS (r 1) (nI (1 + ks)) (wN d (r 0) (100 - ka) kb))) (ty := .int) (C := RX5) (T := TX5) (N := 7) hx hb hts (by decide +kernel) tyX5 tyX5_ok nmX5 hown hKK.1 hP hD hS (27 + 1) (cw_at (k := 1) rfl) rfl 6 (by decide) (hts (.fieldLink RL 100 "WidowPenniesLaw$Widow" "price" "I") (by decide +kernel)) (fun _ h9 => h9) rfl (by decide +kernel) rfl rfl (Nat.le_of_ble_eq_true rfl) dL_act_703 (fun H locs hP hD hS => ?_)
        rw [cw_aset] at hP hD
        have hP : va_P (dC, dI) vwCl (tab cI X d r ++ (bk cW X Bk n ch pd pr yr Wd ++ (bk cW X Br 0 0 0 0 0 (fun _ _ => 0) ++ (obj X Bk Br :: ([(w, .inr (5, row (upd (upd (upd (upd (fun _ => 0) 0 (nI ka)) 1 (nI (1 + ks))) 2 (nI kb)) 6 (priceS (r 1) (nI (1 + ks)) (wN d (r 0) (100 - ka) kb))))), (q, .inl (cV, n + 1, .inr (.inr (.inr (.inr (va_up (arrS V n) n (some w)))))))] ++ (si cI cV Y Ya V n d r ch pd yr Wd ++ R)))))) H := hP
        have hD : va_D A (tab cI X d r ++ (bk cW X Bk n ch pd pr yr Wd ++ (bk cW X Br 0 0 0 0 0 (fun _ _ => 0) ++ (obj X Bk Br :: ([(w, .inr (5, row (upd (upd (upd (upd (fun _ => 0) 0 (nI ka)) 1 (nI (1 + ks))) 2 (nI kb)) 6 (priceS (r 1) (nI (1 + ks)) (wN d (r 0) (100 - ka) kb))))), (q, .inl (cV, n + 1, .inr (.inr (.inr (.inr (va_up (arrS V n) n (some w)))))))] ++ (si cI cV Y Ya V n d r ch pd yr Wd ++ R)))))) := hD
        refine lv_aload_n hx hb dL_act_706 rfl (lv_at hl 4 rfl) ?_
        refine lv_aload hx hb dL_act_707 (lv_at hl 0 rfl) ?_
        refine va_put (D := (dC, dI)) (ci := 4) (v := .ref q) (ty := (.array (.object "WidowPenniesLaw$Widow"))) (C := RX4) (T := TX4) (N := 6) hx hb hts (by decide +kernel) tyX4 tyX4_ok nmX4 hown hKK.1 hP hD hS (27 + 3) (cw_at (k := 3) rfl) rfl 5 (by decide) (hts (.fieldLink RL 9 "WidowPenniesLaw$Sim" "all" "[LWidowPenniesLaw$Widow;") (by decide +kernel)) (fun _ h9 => h9) rfl (by decide +kernel) rfl rfl (Nat.le_of_ble_eq_true rfl) dL_act_709 (fun H locs hP hD hS => ?_)
        rw [cw_aset] at hP hD
        have eR : row (upd (upd (upd (upd (fun _ => 0) 0 (nI ka)) 1 (nI (1 + ks))) 2 (nI kb)) 6 (priceS (r 1) (nI (1 + ks)) (wN d (r 0) (100 - ka) kb))) = row (mkW (nI ka) (nI (1 + ks)) (nI kb) (priceS (r 1) (nI (1 + ks)) (wN d (r 0) (100 - ka) kb))) := rfl
        rw [eR] at hP hD
        have hP : va_P (dC, dI) vwCl (tab cI X d r ++ (bk cW X Bk n ch pd pr yr Wd ++ (bk cW X Br 0 0 0 0 0 (fun _ _ => 0) ++ (obj X Bk Br :: (((Y 0, .inr (4, [.int yr, .int ch, .int pd, .ref (Y 1), .ref (Y 2), .ref q])) :: (Y 1, .inl (cI, 3, .inl r)) :: (Y 2, .inl (cI, 50, .inl d)) :: (q, .inl (cV, n + 1, .inr (.inr (.inr (.inr (va_up (arrS V n) n (some w))))))) :: (sw n V Wd ++ [(w, .inr (5, row (mkW (nI ka) (nI (1 + ks)) (nI kb) (priceS (r 1) (nI (1 + ks)) (wN d (r 0) (100 - ka) kb)))))])) ++ R))))) H := va_P_tl (va_P_perm (act_lay _ _ _ (sw n V Wd) R _ (Y 0, .inr (4, [.int yr, .int ch, .int pd, .ref (Y 1), .ref (Y 2), .ref q])) (Y 1, .inl (cI, 3, .inl r)) (Y 2, .inl (cI, 50, .inl d)) (Ya, .inl (cV, n, .inr (.inr (.inr (.inr (fun k => some (V k))))))) (w, .inr (5, row (mkW (nI ka) (nI (1 + ks)) (nI kb) (priceS (r 1) (nI (1 + ks)) (wN d (r 0) (100 - ka) kb))))) (q, .inl (cV, n + 1, .inr (.inr (.inr (.inr (va_up (arrS V n) n (some w)))))))) hP)
        have hD : va_D A (tab cI X d r ++ (bk cW X Bk n ch pd pr yr Wd ++ (bk cW X Br 0 0 0 0 0 (fun _ _ => 0) ++ (obj X Bk Br :: (((Y 0, .inr (4, [.int yr, .int ch, .int pd, .ref (Y 1), .ref (Y 2), .ref q])) :: (Y 1, .inl (cI, 3, .inl r)) :: (Y 2, .inl (cI, 50, .inl d)) :: (q, .inl (cV, n + 1, .inr (.inr (.inr (.inr (va_up (arrS V n) n (some w))))))) :: (sw n V Wd ++ [(w, .inr (5, row (mkW (nI ka) (nI (1 + ks)) (nI kb) (priceS (r 1) (nI (1 + ks)) (wN d (r 0) (100 - ka) kb)))))])) ++ R))))) := va_D_tl (va_D_perm (act_lay _ _ _ (sw n V Wd) R _ (Y 0, .inr (4, [.int yr, .int ch, .int pd, .ref (Y 1), .ref (Y 2), .ref q])) (Y 1, .inl (cI, 3, .inl r)) (Y 2, .inl (cI, 50, .inl d)) (Ya, .inl (cV, n, .inr (.inr (.inr (.inr (fun k => some (V k))))))) (w, .inr (5, row (mkW (nI ka) (nI (1 + ks)) (nI kb) (priceS (r 1) (nI (1 + ks)) (wN d (r 0) (100 - ka) kb))))) (q, .inl (cV, n + 1, .inr (.inr (.inr (.inr (va_up (arrS V n) n (some w)))))))) hD)
        have hP := cell_objs (cA := cV) (g := fun k => some ((fun i => if i = n then w else V i) k)) (i := 27 + 4) hP (cw_at (k := 4) rfl) (arrS_w V n w)
        have hD := va_D.set (e := .inl (cV, n + 1, .inr (.inr (.inr (.inr (fun k => some ((fun i => if i = n then w else V i) k))))))) (p := 27 + 4) hD (cw_at (k := 4) rfl)
        rw [cw_aset] at hP hD
        have hP : va_P (dC, dI) vwCl (tab cI X d r ++ (bk cW X Bk n ch pd pr yr Wd ++ (bk cW X Br 0 0 0 0 0 (fun _ _ => 0) ++ (obj X Bk Br :: (((Y 0, .inr (4, [.int yr, .int ch, .int pd, .ref (Y 1), .ref (Y 2), .ref q])) :: (Y 1, .inl (cI, 3, .inl r)) :: (Y 2, .inl (cI, 50, .inl d)) :: (q, .inl (cV, n + 1, .inr (.inr (.inr (.inr (fun k => some ((fun i => if i = n then w else V i) k))))))) :: (sw n V Wd ++ [(w, .inr (5, row (mkW (nI ka) (nI (1 + ks)) (nI kb) (priceS (r 1) (nI (1 + ks)) (wN d (r 0) (100 - ka) kb)))))])) ++ R))))) H := hP
        have hD : va_D A (tab cI X d r ++ (bk cW X Bk n ch pd pr yr Wd ++ (bk cW X Br 0 0 0 0 0 (fun _ _ => 0) ++ (obj X Bk Br :: (((Y 0, .inr (4, [.int yr, .int ch, .int pd, .ref (Y 1), .ref (Y 2), .ref q])) :: (Y 1, .inl (cI, 3, .inl r)) :: (Y 2, .inl (cI, 50, .inl d)) :: (q, .inl (cV, n + 1, .inr (.inr (.inr (.inr (fun k => some ((fun i => if i = n then w else V i) k))))))) :: (sw n V Wd ++ [(w, .inr (5, row (mkW (nI ka) (nI (1 + ks)) (nI kb) (priceS (r 1) (nI (1 + ks)) (wN d (r 0) (100 - ka) kb)))))])) ++ R))))) := hD
        rw [sw_snoc] at hP hD
        obtain ⟨V2, hV2⟩ : ∃ V2 : Nat → Nat, V2 = (fun i => if i = n then w else V i) := ⟨_, rfl⟩
        rw [← hV2] at hP hD
        have hP : va_P (dC, dI) vwCl (tab cI X d r ++ (bk cW X Bk n ch pd pr yr Wd ++ (bk cW X Br 0 0 0 0 0 (fun _ _ => 0) ++ (obj X Bk Br :: (si cI cV Y q V2 (n + 1) d r ch pd yr (upW Wd n (mkW (nI ka) (nI (1 + ks)) (nI kb) (priceS (r 1) (nI (1 + ks)) (wN d (r 0) (100 - ka) kb)))) ++ R))))) H := hP
        have hD : va_D A (tab cI X d r ++ (bk cW X Bk n ch pd pr yr Wd ++ (bk cW X Br 0 0 0 0 0 (fun _ _ => 0) ++ (obj X Bk Br :: (si cI cV Y q V2 (n + 1) d r ch pd yr (upW Wd n (mkW (nI ka) (nI (1 + ks)) (nI kb) (priceS (r 1) (nI (1 + ks)) (wN d (r 0) (100 - ka) kb)))) ++ R))))) := hD
        refine lv_aload_n hx hb dL_act_712 rfl (lv_at hl 4 rfl) ?_
        refine lv_aload hx hb dL_act_713 (lv_at hl 0 rfl) ?_
        refine lv_iload_n hx hb dL_act_715 rfl (lv_at hl 6 rfl) ?_
        refine va_aldq hx hb hKV (siP0 hP) 3 0 rfl rfl (vp_in_nI (Nat.lt_succ_self n) (by omega)) dL_act_716 ?_
        rw [show va_rf ((fun k => some (V2 k)) (nI n).toNatClampNeg) = .ref (V2 n) from by rw [clamp_nI (show n < 2147483648 by omega)]; rfl]
        refine va_get (D := (dC, dI)) (ci := 5) (v := .int ((upW Wd n (mkW (nI ka) (nI (1 + ks)) (nI kb) (priceS (r 1) (nI (1 + ks)) (wN d (r 0) (100 - ka) kb)))) n 6)) (C := RX5) (T := TX5) (N := 7) hx hb hts (by decide +kernel) hown hKK.1 (siP0 hP) (n + 4) (si_at0 (Nat.lt_succ_self n)) rfl 6 (by decide) (hts (.fieldLink RL 100 "WidowPenniesLaw$Widow" "price" "I") (by decide +kernel)) (fun _ h9 => h9) rfl dL_act_717 ?_
        rw [show ((upW Wd n (mkW (nI ka) (nI (1 + ks)) (nI kb) (priceS (r 1) (nI (1 + ks)) (wN d (r 0) (100 - ka) kb)))) n 6 : Int32) = priceS (r 1) (nI (1 + ks)) (wN d (r 0) (100 - ka) kb) from by rw [upW_at]; rfl]
        refine lv_i2l hx hb dL_act_720 rfl ?_
        have hP : va_P (dC, dI) vwCl (si cI cV Y q V2 (n + 1) d r ch pd yr (upW Wd n (mkW (nI ka) (nI (1 + ks)) (nI kb) (priceS (r 1) (nI (1 + ks)) (wN d (r 0) (100 - ka) kb)))) ++ (tab cI X d r ++ (bk cW X Bk n ch pd pr yr Wd ++ (bk cW X Br 0 0 0 0 0 (fun _ _ => 0) ++ (obj X Bk Br :: (R)))))) _ := va_P_perm (pm_in0 _ _ _ _ _ _) hP
        have hD : va_D A (si cI cV Y q V2 (n + 1) d r ch pd yr (upW Wd n (mkW (nI ka) (nI (1 + ks)) (nI kb) (priceS (r 1) (nI (1 + ks)) (wN d (r 0) (100 - ka) kb)))) ++ (tab cI X d r ++ (bk cW X Bk n ch pd pr yr Wd ++ (bk cW X Br 0 0 0 0 0 (fun _ _ => 0) ++ (obj X Bk Br :: (R)))))) := va_D_perm (pm_in0 _ _ _ _ _ _) hD
        refine wr_v (runV1S (As := [.long ((priceS (r 1) (nI (1 + ks)) (wN d (r 0) (100 - ka) kb)).toInt64)]) (rest := []) ⟨hx, hb, hml, hown, hts⟩ (met_X4_come l dC dI cI cW cV Y q V2 (n + 1) d r ch pd yr (upW Wd n (mkW (nI ka) (nI (1 + ks)) (nI kb) (priceS (r 1) (nI (1 + ks)) (wN d (r 0) (100 - ka) kb)))) (tab cI X d r ++ (bk cW X Bk n ch pd pr yr Wd ++ (bk cW X Br 0 0 0 0 0 (fun _ _ => 0) ++ (obj X Bk Br :: (R))))) ((priceS (r 1) (nI (1 + ks)) (wN d (r 0) (100 - ka) kb)).toInt64) _) (cwV 1 hts gL_act_X4_come rfl rfl rfl (by decide +kernel) ⟨Nat.le_of_ble_eq_true rfl, Nat.le_of_ble_eq_true rfl⟩) hKS hP hD 4 0 rfl rfl rfl hl.1 (Nat.le_of_ble_eq_true rfl) rfl dL_act_721 ⟨Nat.le_of_ble_eq_true rfl, Nat.le_of_ble_eq_true rfl⟩) hD hS hA (fun H locs hP hD hS => ?_)
        have hP : va_P (dC, dI) vwCl (tab cI X d r ++ (bk cW X Bk n ch pd pr yr Wd ++ (bk cW X Br 0 0 0 0 0 (fun _ _ => 0) ++ (obj X Bk Br :: (si cI cV Y q V2 (n + 1) d r (comeS ch ((priceS (r 1) (nI (1 + ks)) (wN d (r 0) (100 - ka) kb)).toInt64)) pd yr (upW Wd n (mkW (nI ka) (nI (1 + ks)) (nI kb) (priceS (r 1) (nI (1 + ks)) (wN d (r 0) (100 - ka) kb)))) ++ R))))) H := va_P_perm (pm_in0 _ _ _ _ _ _).symm hP
        have hD : va_D A (tab cI X d r ++ (bk cW X Bk n ch pd pr yr Wd ++ (bk cW X Br 0 0 0 0 0 (fun _ _ => 0) ++ (obj X Bk Br :: (si cI cV Y q V2 (n + 1) d r (comeS ch ((priceS (r 1) (nI (1 + ks)) (wN d (r 0) (100 - ka) kb)).toInt64)) pd yr (upW Wd n (mkW (nI ka) (nI (1 + ks)) (nI kb) (priceS (r 1) (nI (1 + ks)) (wN d (r 0) (100 - ka) kb)))) ++ R))))) := va_D_perm (pm_in0 _ _ _ _ _ _).symm hD
        refine lv_aload_n hx hb dL_act_724 rfl (lv_at hl 3 rfl) ?_
        refine lv_iload hx hb dL_act_725 (lv_at hl 2 rfl) ?_
        refine lv_aload hx hb dL_act_727 (lv_at hl 0 rfl) ?_
        refine lv_iload_n hx hb dL_act_729 rfl (lv_at hl 6 rfl) ?_
        refine va_aldq hx hb hKV (siP0 hP) 3 0 rfl rfl (vp_in_nI (Nat.lt_succ_self n) (by omega)) dL_act_730 ?_
        rw [show va_rf ((fun k => some (V2 k)) (nI n).toNatClampNeg) = .ref (V2 n) from by rw [clamp_nI (show n < 2147483648 by omega)]; rfl]
        refine va_get (D := (dC, dI)) (ci := 5) (v := .int ((upW Wd n (mkW (nI ka) (nI (1 + ks)) (nI kb) (priceS (r 1) (nI (1 + ks)) (wN d (r 0) (100 - ka) kb)))) n 1)) (C := RX5) (T := TX5) (N := 7) hx hb hts (by decide +kernel) hown hKK.1 (siP0 hP) (n + 4) (si_at0 (Nat.lt_succ_self n)) rfl 1 (by decide) (hts (.fieldLink RL 90 "WidowPenniesLaw$Widow" "sum" "I") (by decide +kernel)) (fun _ h9 => h9) rfl dL_act_731 ?_
        rw [show ((upW Wd n (mkW (nI ka) (nI (1 + ks)) (nI kb) (priceS (r 1) (nI (1 + ks)) (wN d (r 0) (100 - ka) kb)))) n 1 : Int32) = nI (1 + ks) from by rw [upW_at]; rfl]
        refine lv_iload hx hb dL_act_734 (lv_at hl 1 rfl) ?_
        refine wr_i (runV1 (As := [.int (nI ka), .int (nI (1 + ks)), .int (nI kb)]) (rest := []) ⟨hx, hb, hml, hown, hts⟩ (met_X3_buy l dC dI cI cW X Bk Br d r n ch pd pr yr Wd 0 0 0 0 0 (fun _ _ => 0) (si cI cV Y q V2 (n + 1) d r (comeS ch ((priceS (r 1) (nI (1 + ks)) (wN d (r 0) (100 - ka) kb)).toInt64)) pd yr (upW Wd n (mkW (nI ka) (nI (1 + ks)) (nI kb) (priceS (r 1) (nI (1 + ks)) (wN d (r 0) (100 - ka) kb)))) ++ R) hn10 ka (nI (1 + ks)) kb h1 h2 hx9 h3 hw hi hi0 _) (cwV 3 hts gL_act_X3_buy rfl rfl rfl (by decide +kernel) ⟨Nat.le_of_ble_eq_true rfl, Nat.le_of_ble_eq_true rfl⟩) hKK hP hD 3 27 rfl cw_obj rfl hl.1 (Nat.le_of_ble_eq_true rfl) rfl dL_act_736 ⟨Nat.le_of_ble_eq_true rfl, Nat.le_of_ble_eq_true rfl⟩) hD hS hA (fun r_17 H locs hr_17 hP hD hS => ?_)
        subst hr_17
        have hP : va_P (dC, dI) vwCl (tab cI X d r ++ (bk cW X Bk (n + 1) (takeS ch (priceS (r 1) (nI (1 + ks)) (wN d (r 0) (100 - ka) kb))) pd (pr + priceS (r 1) (nI (1 + ks)) (wN d (r 0) (100 - ka) kb)) yr (upW Wd n (mkW (nI ka) (nI (1 + ks)) (nI kb) (priceS (r 1) (nI (1 + ks)) (wN d (r 0) (100 - ka) kb)))) ++ (bk cW X Br 0 0 0 0 0 (fun _ _ => 0) ++ (obj X Bk Br :: (si cI cV Y q V2 (n + 1) d r (comeS ch ((priceS (r 1) (nI (1 + ks)) (wN d (r 0) (100 - ka) kb)).toInt64)) pd yr (upW Wd n (mkW (nI ka) (nI (1 + ks)) (nI kb) (priceS (r 1) (nI (1 + ks)) (wN d (r 0) (100 - ka) kb)))) ++ R))))) H := hP
        have hD : va_D A (tab cI X d r ++ (bk cW X Bk (n + 1) (takeS ch (priceS (r 1) (nI (1 + ks)) (wN d (r 0) (100 - ka) kb))) pd (pr + priceS (r 1) (nI (1 + ks)) (wN d (r 0) (100 - ka) kb)) yr (upW Wd n (mkW (nI ka) (nI (1 + ks)) (nI kb) (priceS (r 1) (nI (1 + ks)) (wN d (r 0) (100 - ka) kb)))) ++ (bk cW X Br 0 0 0 0 0 (fun _ _ => 0) ++ (obj X Bk Br :: (si cI cV Y q V2 (n + 1) d r (comeS ch ((priceS (r 1) (nI (1 + ks)) (wN d (r 0) (100 - ka) kb)).toInt64)) pd yr (upW Wd n (mkW (nI ka) (nI (1 + ks)) (nI kb) (priceS (r 1) (nI (1 + ks)) (wN d (r 0) (100 - ka) kb)))) ++ R))))) := hD
        refine lv_iload_n hx hb dL_act_739 rfl (lv_at hl 6 rfl) ?_
        refine lv_icmp_ne (tgt := 747) hx hb dL_act_740 (by decide) (fun c_18 => ?_) (fun c_18 => ?_)
        · exact absurd rfl c_18
        · refine lv_iconst (v := 1) hx hb dL_act_743 (by decide) ?_
          refine lv_goto (tgt := 748) hx hb dL_act_744 (by decide) ?_
          rw [(hI.buy (show i ≤ 512 by omega) hn10 h1 h2 hx9 h3 hw).1] at hP hD
          have hP : va_P (dC, dI) vwCl (tab cI X d r ++ (bk cW X Bk (n + 1) (takeS ch (priceS (r 1) (nI (1 + ks)) (wN d (r 0) (100 - ka) kb))) pd (pr + priceS (r 1) (nI (1 + ks)) (wN d (r 0) (100 - ka) kb)) yr (upW Wd n (mkW (nI ka) (nI (1 + ks)) (nI kb) (priceS (r 1) (nI (1 + ks)) (wN d (r 0) (100 - ka) kb)))) ++ (bk cW X Br 0 0 0 0 0 (fun _ _ => 0) ++ (obj X Bk Br :: (si cI cV Y q V2 (n + 1) d r (takeS ch (priceS (r 1) (nI (1 + ks)) (wN d (r 0) (100 - ka) kb))) pd yr (upW Wd n (mkW (nI ka) (nI (1 + ks)) (nI kb) (priceS (r 1) (nI (1 + ks)) (wN d (r 0) (100 - ka) kb)))) ++ R))))) _ := hP
          have hD : va_D A (tab cI X d r ++ (bk cW X Bk (n + 1) (takeS ch (priceS (r 1) (nI (1 + ks)) (wN d (r 0) (100 - ka) kb))) pd (pr + priceS (r 1) (nI (1 + ks)) (wN d (r 0) (100 - ka) kb)) yr (upW Wd n (mkW (nI ka) (nI (1 + ks)) (nI kb) (priceS (r 1) (nI (1 + ks)) (wN d (r 0) (100 - ka) kb)))) ++ (bk cW X Br 0 0 0 0 0 (fun _ _ => 0) ++ (obj X Bk Br :: (si cI cV Y q V2 (n + 1) d r (takeS ch (priceS (r 1) (nI (1 + ks)) (wN d (r 0) (100 - ka) kb))) pd yr (upW Wd n (mkW (nI ka) (nI (1 + ks)) (nI kb) (priceS (r 1) (nI (1 + ks)) (wN d (r 0) (100 - ka) kb)))) ++ R))))) := hD
          have hP9 : va_P (dC, dI) vwCl (gW cI cW cV X Bk Br Y R (d, r, n + 1, takeS ch (priceS (r 1) (nI (1 + ks)) (wN d (r 0) (100 - ka) kb)), pd, pr + priceS (r 1) (nI (1 + ks)) (wN d (r 0) (100 - ka) kb), yr, upW Wd n (mkW (nI ka) (nI (1 + ks)) (nI kb) (priceS (r 1) (nI (1 + ks)) (wN d (r 0) (100 - ka) kb))), q, V2)) _ := hP
          have hD9 : va_D A (gW cI cW cV X Bk Br Y R (d, r, n + 1, takeS ch (priceS (r 1) (nI (1 + ks)) (wN d (r 0) (100 - ka) kb)), pd, pr + priceS (r 1) (nI (1 + ks)) (wN d (r 0) (100 - ka) kb), yr, upW Wd n (mkW (nI ka) (nI (1 + ks)) (nI kb) (priceS (r 1) (nI (1 + ks)) (wN d (r 0) (100 - ka) kb))), q, V2)) := hD
          exact W.zret (v := 1) hx hb hr (by first | rfl | (split <;> rfl)) (fun t ht hW => ⟨⟨_, (d, r, n + 1, takeS ch (priceS (r 1) (nI (1 + ks)) (wN d (r 0) (100 - ka) kb)), pd, pr + priceS (r 1) (nI (1 + ks)) (wN d (r 0) (100 - ka) kb), yr, upW Wd n (mkW (nI ka) (nI (1 + ks)) (nI kb) (priceS (r 1) (nI (1 + ks)) (wN d (r 0) (100 - ka) kb))), q, V2), rfl, ⟨rfl, (hI.buy (show i ≤ 512 by omega) hn10 h1 h2 hx9 h3 hw).2⟩, by rw [ht]; exact hP9, by rw [hAe]; exact hD9⟩, by rw [hAe]; exact hS.F ht⟩) hS.2.2 dL_act_748
    have key : ∀ (q m9 j : Nat), j + m9 = n → ∀ (H : Heap) (locs : List Loc), va_P (dC, dI) vwCl (tab cI X d r ++ (bk cW X Bk n ch pd pr yr Wd ++ (bk cW X Br 0 0 0 0 0 (fun _ _ => 0) ++ (obj X Bk Br :: ([(q, .inl (cV, n + 1, .inr (.inr (.inr (.inr (arrS V j))))))] ++ (si cI cV Y Ya V n d r ch pd yr Wd ++ R)))))) H → va_D A (tab cI X d r ++ (bk cW X Bk n ch pd pr yr Wd ++ (bk cW X Br 0 0 0 0 0 (fun _ _ => 0) ++ (obj X Bk Br :: ([(q, .inl (cV, n + 1, .inr (.inr (.inr (.inr (arrS V j))))))] ++ (si cI cV Y Ya V n d r ch pd yr Wd ++ R)))))) → va_S A s.heap H locs → ∀ ls : Array Slot, lv_has ls 19 [(18, .int (nI j)), (17, .ref q), (16, .int (nI kb)), (15, .int (nI ka)), (0, .ref (X 0)), (1, .ref (Y 0)), (2, .int x), (3, .int (nI n))] → W p l e (headSpec wsL_act ({ frames := 8, cells := 2, slots := 17, locals := 156 })).room s m (([.ref (X 0), .ref (Y 0), .int x] : List Value).toArray) below meth c H locs 1 (n + 1) (MQ below (QA dC dI cI cW cV X Bk Br Y R (i + 1) (tab cI X d r ++ (bk cW X Bk n ch pd pr yr Wd ++ (bk cW X Br 0 0 0 0 0 (fun _ _ => 0) ++ (obj X Bk Br :: (si cI cV Y Ya V n d r ch pd yr Wd ++ R))))) s.heap.size) ([.ref (X 0), .ref (Y 0), .int x] : List Value).toArray s 2 17 A) (F0 m 600 ls []) := by
      intro q m9
      induction m9 with
      | zero =>
        intro j hj H locs hP hD hS ls hl
        have hjn : j = n := by omega
        refine lv_iload hx hb dL_act_600 (lv_at hl 0 rfl) ?_
        refine lv_iload_n hx hb dL_act_602 rfl (lv_at hl 7 rfl) ?_
        refine lv_icmp_ge (tgt := 624) hx hb dL_act_603 (by decide) (fun c_1 => ?_) (fun c_1 => ?_)
        · rw [hjn] at hP hD
          exact tail q H locs hP hD hS ls (lv_sub hl [1, 2, 3, 4, 5, 6, 7] rfl)
        · exact absurd (by rw [hjn]; exact Int32.le_refl _) c_1
      | succ m9 ih =>
        intro j hj H locs hP hD hS ls hl
        have hjn : j < n := by omega
        refine lv_iload hx hb dL_act_600 (lv_at hl 0 rfl) ?_
        refine lv_iload_n hx hb dL_act_602 rfl (lv_at hl 7 rfl) ?_
        refine lv_icmp_ge (tgt := 624) hx hb dL_act_603 (by decide) (fun c_1 => ?_) (fun c_1 => ?_)
        · exact absurd c_1 (fun q9 => absurd ((le_nI (by omega)).mp q9) (by omega))
        · refine lv_aload hx hb dL_act_606 (lv_at hl 1 rfl) ?_
          refine lv_iload hx hb dL_act_608 (lv_at hl 0 rfl) ?_
          refine lv_aload_n hx hb dL_act_610 rfl (lv_at hl 5 rfl) ?_
          refine va_get (D := (dC, dI)) (ci := 4) (v := .ref Ya) (C := RX4) (T := TX4) (N := 6) hx hb hts (by decide +kernel) hown hKK.1 (siP1 hP) 0 rfl rfl 5 (by decide) (hts (.fieldLink RL 9 "WidowPenniesLaw$Sim" "all" "[LWidowPenniesLaw$Widow;") (by decide +kernel)) (fun _ h9 => h9) rfl dL_act_611 ?_
          refine lv_iload hx hb dL_act_614 (lv_at hl 0 rfl) ?_
          refine va_aldq hx hb hKV (siP1 hP) 3 0 rfl rfl (vp_in_nI hjn (by omega)) dL_act_616 ?_
          rw [show va_rf ((fun k => some (V k)) (nI j).toNatClampNeg) = .ref (V j) from by rw [clamp_nI (show j < 2147483648 by omega)]; rfl]
          refine va_astq hx hb hKV hP hD hS (27 + 1) 0 (27 + (j + 4 + 1 + 1)) 5 (cw_at (k := 1) rfl) rfl (c1_at hjn) rfl (vp_in_nI (by omega) (by omega)) dL_act_617 (fun H locs hP hD hS => ?_)
          rw [clamp_nI (show j < 2147483648 by omega), arrS_s, cw_aset] at hP hD
          have hP : va_P (dC, dI) vwCl (tab cI X d r ++ (bk cW X Bk n ch pd pr yr Wd ++ (bk cW X Br 0 0 0 0 0 (fun _ _ => 0) ++ (obj X Bk Br :: ([(q, .inl (cV, n + 1, .inr (.inr (.inr (.inr (arrS V (j + 1)))))))] ++ (si cI cV Y Ya V n d r ch pd yr Wd ++ R)))))) H := hP
          have hD : va_D A (tab cI X d r ++ (bk cW X Bk n ch pd pr yr Wd ++ (bk cW X Br 0 0 0 0 0 (fun _ _ => 0) ++ (obj X Bk Br :: ([(q, .inl (cV, n + 1, .inr (.inr (.inr (.inr (arrS V (j + 1)))))))] ++ (si cI cV Y Ya V n d r ch pd yr Wd ++ R)))))) := hD
          refine lv_iinc (v := (nI (j + 1))) (lv' := [(18, .int (nI (j + 1))), (17, .ref q), (16, .int (nI kb)), (15, .int (nI ka)), (0, .ref (X 0)), (1, .ref (Y 0)), (2, .int x), (3, .int (nI n))]) hx hb dL_act_618 hl (k := 0) rfl (nI_1 j) (by decide) rfl (fun ls hl => ?_)
          refine lv_goto (tgt := 600) hx hb dL_act_621 (by decide) ?_
          exact ih (j + 1) (by omega) H locs hP hD hS ls (lv_sub hl [0, 1, 2, 3, 4, 5, 6, 7] rfl)
    refine lv_iload_n hx hb dL_act_589 rfl (lv_at hl 5 rfl) ?_
    refine lv_iconst (v := 1) hx hb dL_act_590 (by decide) ?_
    refine lv_iadd hx hb dL_act_591 ?_
    rw [show ((nI n) + 1 : Int32) = nI (n + 1) from nI_1 n]
    refine va_newq (N' := n + 1) hx hb hown (hts (.classLink RL 37 RX5) (by decide +kernel)) hKS.2.2.2 hKV hP hD hS hA (nI_pos (by omega)) (clamp_nI (by omega)) (by omega) (by show 0 + 1 ≤ 2; omega) (by show 0 + (n + 1) ≤ 17; omega) dL_act_592 (fun q cA H hK2 hP hD hS => ?_)
    have hcA := cls_objV hK2
    rw [hcA] at hP hD
    clear hK2 hcA
    refine W.widen (k := 1) (n := n + 1) (by omega) (by omega) ?_
    have hP : va_P (dC, dI) vwCl (tab cI X d r ++ (bk cW X Bk n ch pd pr yr Wd ++ (bk cW X Br 0 0 0 0 0 (fun _ _ => 0) ++ (obj X Bk Br :: ([(q, .inl (cV, n + 1, .inr (.inr (.inr (.inr (fun _ => none))))))] ++ (si cI cV Y Ya V n d r ch pd yr Wd ++ R)))))) H := va_P_perm (pm_new _ _ _ _ _ _) hP
    have hD : va_D A (tab cI X d r ++ (bk cW X Bk n ch pd pr yr Wd ++ (bk cW X Br 0 0 0 0 0 (fun _ _ => 0) ++ (obj X Bk Br :: ([(q, .inl (cV, n + 1, .inr (.inr (.inr (.inr (fun _ => none))))))] ++ (si cI cV Y Ya V n d r ch pd yr Wd ++ R)))))) := va_D_perm (pm_new _ _ _ _ _ _) hD
    rw [← arrS_0 V] at hP hD
    have hP : va_P (dC, dI) vwCl (tab cI X d r ++ (bk cW X Bk n ch pd pr yr Wd ++ (bk cW X Br 0 0 0 0 0 (fun _ _ => 0) ++ (obj X Bk Br :: ([(q, .inl (cV, n + 1, .inr (.inr (.inr (.inr (arrS V 0))))))] ++ (si cI cV Y Ya V n d r ch pd yr Wd ++ R)))))) H := hP
    have hD : va_D A (tab cI X d r ++ (bk cW X Bk n ch pd pr yr Wd ++ (bk cW X Br 0 0 0 0 0 (fun _ _ => 0) ++ (obj X Bk Br :: ([(q, .inl (cV, n + 1, .inr (.inr (.inr (.inr (arrS V 0))))))] ++ (si cI cV Y Ya V n d r ch pd yr Wd ++ R)))))) := hD
    refine lv_astore (lv' := [(17, .ref q), (16, .int (nI kb)), (15, .int (nI ka)), (0, .ref (X 0)), (1, .ref (Y 0)), (2, .int x), (3, .int (nI n))]) hx hb dL_act_595 hl (by decide) rfl (fun ls hl => ?_)
    refine lv_iconst (v := 0) hx hb dL_act_597 (by decide) ?_
    refine lv_istore (lv' := [(18, .int 0), (17, .ref q), (16, .int (nI kb)), (15, .int (nI ka)), (0, .ref (X 0)), (1, .ref (Y 0)), (2, .int x), (3, .int (nI n))]) hx hb dL_act_598 hl (by decide) rfl (fun ls hl => ?_)
    exact key q n 0 (by omega) _ _ hP hD hS ls (lv_sub hl [0, 1, 2, 3, 4, 5, 6, 7] rfl)
  refine lv_iload_n hx hb dL_act_570 rfl (lv_at hl 5 rfl) ?_
  refine lv_bipush (v := 10) hx hb dL_act_571 (by decide) ?_
  refine lv_icmp_eq (tgt := 587) hx hb dL_act_573 (by decide) (fun c_1 => ?_) (fun c_1 => ?_)
  · refine W.widen (k := 2) (n := 17) (by omega) (by omega) ?_
    refine lv_iconst (v := 1) hx hb dL_act_587 (by decide) ?_
    have hP9 : va_P (dC, dI) vwCl (gW cI cW cV X Bk Br Y R (d, r, n, ch, pd, pr, yr, Wd, Ya, V)) _ := hP
    have hD9 : va_D A (gW cI cW cV X Bk Br Y R (d, r, n, ch, pd, pr, yr, Wd, Ya, V)) := hD
    exact W.zret (v := 1) hx hb hr (by first | rfl | (split <;> rfl)) (fun t ht hW => ⟨⟨_, (d, r, n, ch, pd, pr, yr, Wd, Ya, V), rfl, ⟨rfl, hI.mono (Nat.le_succ i)⟩, by rw [ht]; exact hP9, by rw [hAe]; exact hD9⟩, by rw [hAe]; exact hS.F ht⟩) hS.2.2 dL_act_588
  · have hn10 : n < 10 := by
      rcases Nat.lt_or_ge n 10 with z9 | z9
      · exact z9
      · exact absurd (show nI n = 10 by rw [show n = 10 by omega]; rfl) c_1
    refine lv_aload_n hx hb dL_act_576 rfl (lv_at hl 3 rfl) ?_
    refine lv_iload hx hb dL_act_577 (lv_at hl 1 rfl) ?_
    refine lv_iload hx hb dL_act_579 (lv_at hl 0 rfl) ?_
    refine rd_i (runV0S (As := [.int (nI ka), .int (nI kb)]) (rest := []) ⟨hx, hb, hml, hown, hts⟩ (met_X4_worth l dC dI cI cW cV Y Ya V n d r ch pd yr Wd ka kb h1 h2 h3 hi) (cwV 2 hts gL_act_X4_worth rfl rfl rfl (by decide +kernel) ⟨Nat.le_of_ble_eq_true rfl, Nat.le_of_ble_eq_true rfl⟩) hKS (siP0 hP) 4 0 rfl rfl rfl hl.1 (Nat.le_of_ble_eq_true rfl) rfl dL_act_581 ⟨Nat.le_of_ble_eq_true rfl, Nat.le_of_ble_eq_true rfl⟩) (fun r_2 hr_2 => ?_)
    subst hr_2
    refine lv_if_ne (tgt := 589) hx hb dL_act_584 (by decide) (fun c_3 => ?_) (fun c_3 => ?_)
    · exact hcore hn10 c_3
    · refine W.widen (k := 2) (n := 17) (by omega) (by omega) ?_
      refine lv_iconst (v := 1) hx hb dL_act_587 (by decide) ?_
      have hP9 : va_P (dC, dI) vwCl (gW cI cW cV X Bk Br Y R (d, r, n, ch, pd, pr, yr, Wd, Ya, V)) _ := hP
      have hD9 : va_D A (gW cI cW cV X Bk Br Y R (d, r, n, ch, pd, pr, yr, Wd, Ya, V)) := hD
      exact W.zret (v := 1) hx hb hr (by first | rfl | (split <;> rfl)) (fun t ht hW => ⟨⟨_, (d, r, n, ch, pd, pr, yr, Wd, Ya, V), rfl, ⟨rfl, hI.mono (Nat.le_succ i)⟩, by rw [ht]; exact hP9, by rw [hAe]; exact hD9⟩, by rw [hAe]; exact hS.F ht⟩) hS.2.2 dL_act_588
set_option maxHeartbeats 4000000 in
set_option maxRecDepth 100000 in
theorem act_c10 {p : Program} {l : Launch} {e : Env} {s : State} {m : MethodId} {below : List Frame} {meth : Method} {c : Code} {dC : Nat → ClassId} {dI : Nat → Nat → Nat} {cI cW cV : ClassId} {X Bk Br Y : Nat → Nat} {Ya : Nat} {V : Nat → Nat} {d r : Nat → Int32} {n : Nat} {ch pd pr yr : Int32} {Wd : Nat → Nat → Int32} {R : va_W} {x : Int32} {A : Nat → Prop} {i : Nat} (C9 : AC p s m meth c dC dI cI cW cV ([.ref (X 0), .ref (Y 0), .int x] : List Value).toArray) (hAe : va_A (tab cI X d r ++ (bk cW X Bk n ch pd pr yr Wd ++ (bk cW X Br 0 0 0 0 0 (fun _ _ => 0) ++ (obj X Bk Br :: (si cI cV Y Ya V n d r ch pd yr Wd ++ R))))) s.heap.size = A) (hI : Inv2 i d r n ch pr Wd) (hi5 : i ≤ 500) {H : Heap} {locs : List Loc} (hP : va_P (dC, dI) vwCl (tab cI X d r ++ (bk cW X Bk n ch pd pr yr Wd ++ (bk cW X Br 0 0 0 0 0 (fun _ _ => 0) ++ (obj X Bk Br :: (si cI cV Y Ya V n d r ch pd yr Wd ++ R))))) H) (hD : va_D A (tab cI X d r ++ (bk cW X Bk n ch pd pr yr Wd ++ (bk cW X Br 0 0 0 0 0 (fun _ _ => 0) ++ (obj X Bk Br :: (si cI cV Y Ya V n d r ch pd yr Wd ++ R)))))) (hS : va_S A s.heap H locs) {ls : Array Slot} (hl : lv_has ls 19 [(0, .ref (X 0)), (1, .ref (Y 0)), (2, .int x), (3, .int (nI n))]) : W p l e (headSpec wsL_act ({ frames := 8, cells := 2, slots := 17, locals := 156 })).room s m (([.ref (X 0), .ref (Y 0), .int x] : List Value).toArray) below meth c H locs 0 0 (MQ below (QA dC dI cI cW cV X Bk Br Y R (i + 1) (tab cI X d r ++ (bk cW X Bk n ch pd pr yr Wd ++ (bk cW X Br 0 0 0 0 0 (fun _ _ => 0) ++ (obj X Bk Br :: (si cI cV Y Ya V n d r ch pd yr Wd ++ R))))) s.heap.size) ([.ref (X 0), .ref (Y 0), .int x] : List Value).toArray s 2 17 A) (F0 m 533 ls []) := by
  obtain ⟨hx, hb, hr, hml, hown, hts, hlocks, hKS⟩ := C9
  have hKK := hKS.1
  have hKV := hKS.2.1
  have hn := hI.1.2.2.1
  have hok := hI.1.2.2.2.1
  have hi := hI.1.hi.1
  have hi0 := hI.1.hi.2
  have hA : ∀ q : Nat, s.heap.size ≤ q → A q := fun q h => by rw [← hAe]; exact Or.inr h
  obtain ⟨ka, hka, eka⟩ := bel_nI (x >>> (1 &&& 31)) (n := 50) (by omega) (by omega)
  refine lv_bipush (v := 50) hx hb dL_act_533 (by decide) ?_
  refine lv_iload_n hx hb dL_act_535 rfl (lv_at hl 2 rfl) ?_
  refine lv_iconst (v := 1) hx hb dL_act_536 (by decide) ?_
  refine lv_ishr hx hb dL_act_537 ?_
  refine lv_bipush (v := 50) hx hb dL_act_538 (by decide) ?_
  refine rd_i (runS0 (As := [.int (x >>> (1 &&& 31)), .int 50]) (rest := [.int 50]) ⟨hx, hb, hml, hown, hts⟩ (met_L_below l dC dI cI cW (x >>> (1 &&& 31)) 50 (by decide)) (va_cwS 2 hts gL_act_L_below rfl rfl rfl (by decide +kernel) ⟨Nat.le_of_ble_eq_true rfl, Nat.le_of_ble_eq_true rfl⟩) hKK nilP rfl hl.1 (Nat.le_of_ble_eq_true rfl) rfl dL_act_540 ⟨Nat.le_of_ble_eq_true rfl, Nat.le_of_ble_eq_true rfl⟩) (fun r_1 hr_1 => ?_)
  subst hr_1
  rw [show (belS (x >>> (1 &&& 31)) 50 : Int32) = nI ka from eka]
  refine lv_iadd hx hb dL_act_543 ?_
  rw [show (50 + (nI ka) : Int32) = nI (50 + ka) from nI_add 50 ka]
  refine lv_istore (lv' := [(15, .int (nI (50 + ka))), (0, .ref (X 0)), (1, .ref (Y 0)), (2, .int x), (3, .int (nI n))]) hx hb dL_act_544 hl (by decide) rfl (fun ls hl => ?_)
  refine lv_iload_n hx hb dL_act_546 rfl (lv_at hl 3 rfl) ?_
  refine lv_iconst (v := 2) hx hb dL_act_547 (by decide) ?_
  refine lv_ishr hx hb dL_act_548 ?_
  refine lv_iconst (v := 2) hx hb dL_act_549 (by decide) ?_
  refine rd_i (runS0 (As := [.int (x >>> (2 &&& 31)), .int 2]) (rest := []) ⟨hx, hb, hml, hown, hts⟩ (met_L_below l dC dI cI cW (x >>> (2 &&& 31)) 2 (by decide)) (va_cwS 2 hts gL_act_L_below rfl rfl rfl (by decide +kernel) ⟨Nat.le_of_ble_eq_true rfl, Nat.le_of_ble_eq_true rfl⟩) hKK nilP rfl hl.1 (Nat.le_of_ble_eq_true rfl) rfl dL_act_550 ⟨Nat.le_of_ble_eq_true rfl, Nat.le_of_ble_eq_true rfl⟩) (fun r_4 hr_4 => ?_)
  subst hr_4
  refine lv_if_ne (tgt := 560) hx hb dL_act_553 (by decide) (fun c_5 => ?_) (fun c_5 => ?_)
  · obtain ⟨kb, hkb, ekb⟩ := bel_nI (x >>> (4 &&& 31)) (n := 31) (by omega) (by omega)
    refine lv_iload_n hx hb dL_act_560 rfl (lv_at hl 3 rfl) ?_
    refine lv_iconst (v := 4) hx hb dL_act_561 (by decide) ?_
    refine lv_ishr hx hb dL_act_562 ?_
    refine lv_bipush (v := 31) hx hb dL_act_563 (by decide) ?_
    refine rd_i (runS0 (As := [.int (x >>> (4 &&& 31)), .int 31]) (rest := []) ⟨hx, hb, hml, hown, hts⟩ (met_L_below l dC dI cI cW (x >>> (4 &&& 31)) 31 (by decide)) (va_cwS 2 hts gL_act_L_below rfl rfl rfl (by decide +kernel) ⟨Nat.le_of_ble_eq_true rfl, Nat.le_of_ble_eq_true rfl⟩) hKK nilP rfl hl.1 (Nat.le_of_ble_eq_true rfl) rfl dL_act_565 ⟨Nat.le_of_ble_eq_true rfl, Nat.le_of_ble_eq_true rfl⟩) (fun r_6 hr_6 => ?_)
    subst hr_6
    rw [show (belS (x >>> (4 &&& 31)) 31 : Int32) = nI kb from ekb]
    refine lv_istore (lv' := [(16, .int (nI kb)), (15, .int (nI (50 + ka))), (0, .ref (X 0)), (1, .ref (Y 0)), (2, .int x), (3, .int (nI n))]) hx hb dL_act_568 hl (by decide) rfl (fun ls hl => ?_)
    exact act_c10b ⟨hx, hb, hr, hml, hown, hts, hlocks, hKS⟩ hAe hI hi5 (ka := 50 + ka) (kb := kb) (by omega) (by omega) (by omega) hP hD hS (lv_sub hl [0, 1, 2, 3, 4, 5] rfl)
  · refine lv_iconst (v := 0) hx hb dL_act_556 (by decide) ?_
    refine lv_goto (tgt := 568) hx hb dL_act_557 (by decide) ?_
    refine lv_istore (lv' := [(16, .int 0), (15, .int (nI (50 + ka))), (0, .ref (X 0)), (1, .ref (Y 0)), (2, .int x), (3, .int (nI n))]) hx hb dL_act_568 hl (by decide) rfl (fun ls hl => ?_)
    exact act_c10b ⟨hx, hb, hr, hml, hown, hts, hlocks, hKS⟩ hAe hI hi5 (ka := 50 + ka) (kb := 0) (by omega) (by omega) (by omega) hP hD hS (lv_sub hl [0, 1, 2, 3, 4, 5] rfl)
