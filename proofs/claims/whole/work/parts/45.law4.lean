theorem lw_locs9 {p : Program} {l : Launch} {e : Env} {R : Room} {s : State} {m : MethodId} {args : Array Value} {below : List Frame} {meth : Method} {c : Code} {H : Heap} {locs : List Loc} {cells slots : Nat} {Q : State → Prop} {g : JFrame} (hS : va_S (NEW s.heap.size) s.heap H locs) (k : W p l e R s m args below meth c H [] cells slots Q g) : W p l e R s m args below meth c H locs cells slots Q g := va_forget (fun q hq => hS.2.2 q hq) k
theorem cs_setDeaths {p : Program} {l : Launch} {e : Env} {s : State} {m : MethodId} {below : List Frame} {meth : Method} {c : Code} {b L : Nat} {xs : Nat → Int32} {dC : Nat → ClassId} {dI : Nat → Nat → Nat} {cI cW cJ : ClassId} {t : Nat} {X Bk Br : Nat → Nat} {o : Nat} (C9 : LC p l s m c b L xs dC dI cI cW cJ t) (i : Nat) (hi9 : i < 512) (hL4 : 4 * i + 4 ≤ L) (hLm : L ≤ 2048) (ih : LOOP p l e s m below meth c b dC dI cI cW cJ X Bk Br o (i + 1)) (M : Nat → Nat) (f0 : Nat → Int64) (th : Int32) (d r : Nat → Int32) (n : Nat) (ch pd pr yr : Int32) (Wd : Nat → Nat → Int32) (n2 : Nat) (ch2 pd2 pr2 yr2 : Int32) (W2 : Nat → Nat → Int32) (hInv : Inv i d r n ch pr Wd) (H : Heap) (locs : List Loc) (hP : va_P (dC, dI) vwCl (tab cI X d r ++ (bk cW X Bk n ch pd pr yr Wd ++ (bk cW X Br n2 ch2 pd2 pr2 yr2 W2 ++ (obj X Bk Br :: (o, .inl (cJ, 1, .inr (.inl f0))) :: mw cI M th n d r Wd ch pd yr (WT d (r 0)))))) H) (hD : va_D (NEW s.heap.size) (tab cI X d r ++ (bk cW X Bk n ch pd pr yr Wd ++ (bk cW X Br n2 ch2 pd2 pr2 yr2 W2 ++ (obj X Bk Br :: (o, .inl (cJ, 1, .inr (.inl f0))) :: mw cI M th n d r Wd ch pd yr (WT d (r 0))))))) (hS : va_S (NEW s.heap.size) s.heap H locs) (ls : Array Slot) (hl : lv_has ls 9 [(4, .int (nI (4 * i))), (0, .ref b), (1, .ref (X 0)), (2, .ref (M 0)), (3, .ref o)]) : W p l e room_1 s m #[Value.ref b] below meth c H locs (40 + 4 * i) (3000 + 100 * i) (lw_Z below #[Value.ref b] s) (F0 m 124 ls []) := by
  have hn := hInv.2.2.1
  by_cases h : 50 ≤ (xs (4 * i + 1)) ∧ (xs (4 * i + 1)) ≤ 99
  · obtain ⟨ka, e1, h1, h2⟩ := of_rng (x := (xs (4 * i + 1))) 50 99 h.1 h.2 (by omega) (by omega)
    by_cases h4 : 0 ≤ (xs (4 * i + 2)) ∧ (xs (4 * i + 2)) ≤ 1000
    · exact pL0_setDeaths C9 i hi9 hL4 hLm ih M f0 th d r n ch pd pr yr Wd n2 ch2 pd2 pr2 yr2 W2 hInv H locs hP hD hS ls hl ka h1 h2 _ h4 e1 rfl
    · exact pL2_setDeaths C9 i hi9 hL4 hLm ih M f0 th d r n ch pd pr yr Wd n2 ch2 pd2 pr2 yr2 W2 hInv H locs hP hD hS ls hl _ _ h h4 rfl rfl
  · exact pL1_setDeaths C9 i hi9 hL4 hLm ih M f0 th d r n ch pd pr yr Wd n2 ch2 pd2 pr2 yr2 W2 hInv H locs hP hD hS ls hl _ _ h rfl rfl
theorem cs_setRate {p : Program} {l : Launch} {e : Env} {s : State} {m : MethodId} {below : List Frame} {meth : Method} {c : Code} {b L : Nat} {xs : Nat → Int32} {dC : Nat → ClassId} {dI : Nat → Nat → Nat} {cI cW cJ : ClassId} {t : Nat} {X Bk Br : Nat → Nat} {o : Nat} (C9 : LC p l s m c b L xs dC dI cI cW cJ t) (i : Nat) (hi9 : i < 512) (hL4 : 4 * i + 4 ≤ L) (hLm : L ≤ 2048) (ih : LOOP p l e s m below meth c b dC dI cI cW cJ X Bk Br o (i + 1)) (M : Nat → Nat) (f0 : Nat → Int64) (th : Int32) (d r : Nat → Int32) (n : Nat) (ch pd pr yr : Int32) (Wd : Nat → Nat → Int32) (n2 : Nat) (ch2 pd2 pr2 yr2 : Int32) (W2 : Nat → Nat → Int32) (hInv : Inv i d r n ch pr Wd) (H : Heap) (locs : List Loc) (hP : va_P (dC, dI) vwCl (tab cI X d r ++ (bk cW X Bk n ch pd pr yr Wd ++ (bk cW X Br n2 ch2 pd2 pr2 yr2 W2 ++ (obj X Bk Br :: (o, .inl (cJ, 1, .inr (.inl f0))) :: mw cI M th n d r Wd ch pd yr (WT d (r 0)))))) H) (hD : va_D (NEW s.heap.size) (tab cI X d r ++ (bk cW X Bk n ch pd pr yr Wd ++ (bk cW X Br n2 ch2 pd2 pr2 yr2 W2 ++ (obj X Bk Br :: (o, .inl (cJ, 1, .inr (.inl f0))) :: mw cI M th n d r Wd ch pd yr (WT d (r 0))))))) (hS : va_S (NEW s.heap.size) s.heap H locs) (ls : Array Slot) (hl : lv_has ls 9 [(4, .int (nI (4 * i))), (0, .ref b), (1, .ref (X 0)), (2, .ref (M 0)), (3, .ref o)]) : W p l e room_1 s m #[Value.ref b] below meth c H locs (40 + 4 * i) (3000 + 100 * i) (lw_Z below #[Value.ref b] s) (F0 m 192 ls []) := by
  have hn := hInv.2.2.1
  by_cases h : 0 ≤ (xs (4 * i + 1)) ∧ (xs (4 * i + 1)) ≤ 2
  · obtain ⟨k, e1, h1, h2⟩ := of_rng (x := (xs (4 * i + 1))) 0 2 h.1 h.2 (by omega) (by omega)
    have hk : k < 3 := by omega
    by_cases h4 : 0 ≤ (xs (4 * i + 2)) ∧ (xs (4 * i + 2)) ≤ (if k = 0 then (200 : Int32) else 50)
    · exact pL0_setRate C9 i hi9 hL4 hLm ih M f0 th d r n ch pd pr yr Wd n2 ch2 pd2 pr2 yr2 W2 hInv H locs hP hD hS ls hl k hk _ h4 e1 rfl
    · exact pL2_setRate C9 i hi9 hL4 hLm ih M f0 th d r n ch pd pr yr Wd n2 ch2 pd2 pr2 yr2 W2 hInv H locs hP hD hS ls hl k hk _ h4 e1 rfl
  · exact pL1_setRate C9 i hi9 hL4 hLm ih M f0 th d r n ch pd pr yr Wd n2 ch2 pd2 pr2 yr2 W2 hInv H locs hP hD hS ls hl _ _ h rfl rfl
theorem cs_buy {p : Program} {l : Launch} {e : Env} {s : State} {m : MethodId} {below : List Frame} {meth : Method} {c : Code} {b L : Nat} {xs : Nat → Int32} {dC : Nat → ClassId} {dI : Nat → Nat → Nat} {cI cW cJ : ClassId} {t : Nat} {X Bk Br : Nat → Nat} {o : Nat} (C9 : LC p l s m c b L xs dC dI cI cW cJ t) (i : Nat) (hi9 : i < 512) (hL4 : 4 * i + 4 ≤ L) (hLm : L ≤ 2048) (ih : LOOP p l e s m below meth c b dC dI cI cW cJ X Bk Br o (i + 1)) (M : Nat → Nat) (f0 : Nat → Int64) (th : Int32) (d r : Nat → Int32) (n : Nat) (ch pd pr yr : Int32) (Wd : Nat → Nat → Int32) (n2 : Nat) (ch2 pd2 pr2 yr2 : Int32) (W2 : Nat → Nat → Int32) (hInv : Inv i d r n ch pr Wd) (H : Heap) (locs : List Loc) (hP : va_P (dC, dI) vwCl (tab cI X d r ++ (bk cW X Bk n ch pd pr yr Wd ++ (bk cW X Br n2 ch2 pd2 pr2 yr2 W2 ++ (obj X Bk Br :: (o, .inl (cJ, 1, .inr (.inl f0))) :: mw cI M th n d r Wd ch pd yr (WT d (r 0)))))) H) (hD : va_D (NEW s.heap.size) (tab cI X d r ++ (bk cW X Bk n ch pd pr yr Wd ++ (bk cW X Br n2 ch2 pd2 pr2 yr2 W2 ++ (obj X Bk Br :: (o, .inl (cJ, 1, .inr (.inl f0))) :: mw cI M th n d r Wd ch pd yr (WT d (r 0))))))) (hS : va_S (NEW s.heap.size) s.heap H locs) (ls : Array Slot) (hl : lv_has ls 9 [(4, .int (nI (4 * i))), (0, .ref b), (1, .ref (X 0)), (2, .ref (M 0)), (3, .ref o)]) : W p l e room_1 s m #[Value.ref b] below meth c H locs (40 + 4 * i) (3000 + 100 * i) (lw_Z below #[Value.ref b] s) (F0 m 260 ls []) := by
  have hn := hInv.2.2.1
  by_cases h : (50 ≤ (xs (4 * i + 1)) ∧ (xs (4 * i + 1)) ≤ 99) ∧ (1 ≤ (xs (4 * i + 2)) ∧ (xs (4 * i + 2)) ≤ 999) ∧ (0 ≤ (xs (4 * i + 3)) ∧ (xs (4 * i + 3)) ≤ 30)
  · obtain ⟨ka, e1, h1, h2⟩ := of_rng (x := (xs (4 * i + 1))) 50 99 h.1.1 h.1.2 (by omega) (by omega)
    obtain ⟨kb, e3, h0, h3⟩ := of_rng (x := (xs (4 * i + 3))) 0 30 h.2.2.1 h.2.2.2 (by omega) (by omega)
    by_cases hz : n = 10 ∨ wN d (r 0) (100 - ka) kb = 0
    · exact pL2_buy C9 i hi9 hL4 hLm ih M f0 th d r n ch pd pr yr Wd n2 ch2 pd2 pr2 yr2 W2 hInv H locs hP hD hS ls hl ka _ kb h1 h2 h.2.1 h3 hz e1 rfl e3
    · exact pL0_buy C9 i hi9 hL4 hLm ih M f0 th d r n ch pd pr yr Wd n2 ch2 pd2 pr2 yr2 W2 hInv H locs hP hD hS ls hl (by omega) ka _ kb h1 h2 h.2.1 h3 (fun q => hz (Or.inr q)) e1 rfl e3
  · exact pL1_buy C9 i hi9 hL4 hLm ih M f0 th d r n ch pd pr yr Wd n2 ch2 pd2 pr2 yr2 W2 hInv H locs hP hD hS ls hl _ _ _ h rfl rfl rfl
theorem cs_die {p : Program} {l : Launch} {e : Env} {s : State} {m : MethodId} {below : List Frame} {meth : Method} {c : Code} {b L : Nat} {xs : Nat → Int32} {dC : Nat → ClassId} {dI : Nat → Nat → Nat} {cI cW cJ : ClassId} {t : Nat} {X Bk Br : Nat → Nat} {o : Nat} (C9 : LC p l s m c b L xs dC dI cI cW cJ t) (i : Nat) (hi9 : i < 512) (hL4 : 4 * i + 4 ≤ L) (hLm : L ≤ 2048) (ih : LOOP p l e s m below meth c b dC dI cI cW cJ X Bk Br o (i + 1)) (M : Nat → Nat) (f0 : Nat → Int64) (th : Int32) (d r : Nat → Int32) (n : Nat) (ch pd pr yr : Int32) (Wd : Nat → Nat → Int32) (n2 : Nat) (ch2 pd2 pr2 yr2 : Int32) (W2 : Nat → Nat → Int32) (hInv : Inv i d r n ch pr Wd) (H : Heap) (locs : List Loc) (hP : va_P (dC, dI) vwCl (tab cI X d r ++ (bk cW X Bk n ch pd pr yr Wd ++ (bk cW X Br n2 ch2 pd2 pr2 yr2 W2 ++ (obj X Bk Br :: (o, .inl (cJ, 1, .inr (.inl f0))) :: mw cI M th n d r Wd ch pd yr (WT d (r 0)))))) H) (hD : va_D (NEW s.heap.size) (tab cI X d r ++ (bk cW X Bk n ch pd pr yr Wd ++ (bk cW X Br n2 ch2 pd2 pr2 yr2 W2 ++ (obj X Bk Br :: (o, .inl (cJ, 1, .inr (.inl f0))) :: mw cI M th n d r Wd ch pd yr (WT d (r 0))))))) (hS : va_S (NEW s.heap.size) s.heap H locs) (ls : Array Slot) (hl : lv_has ls 9 [(4, .int (nI (4 * i))), (0, .ref b), (1, .ref (X 0)), (2, .ref (M 0)), (3, .ref o)]) : W p l e room_1 s m #[Value.ref b] below meth c H locs (40 + 4 * i) (3000 + 100 * i) (lw_Z below #[Value.ref b] s) (F0 m 340 ls []) := by
  have hn := hInv.2.2.1
  by_cases h : 0 ≤ (xs (4 * i + 1)) ∧ (xs (4 * i + 1)) < nI n
  · obtain ⟨k, hk9, e1⟩ := nI_of (x := (xs (4 * i + 1))) (Int32.not_lt.mpr h.1)
    have hk : k < n := by
      have h9 := h.2
      rw [e1] at h9
      exact (lt_nI (by omega)).mp h9
    by_cases h4 : Wd k 4 = 0
    · exact pL0_die C9 i hi9 hL4 hLm ih M f0 th d r n ch pd pr yr Wd n2 ch2 pd2 pr2 yr2 W2 hInv H locs hP hD hS ls hl k hk h4 e1
    · exact pL2_die C9 i hi9 hL4 hLm ih M f0 th d r n ch pd pr yr Wd n2 ch2 pd2 pr2 yr2 W2 hInv H locs hP hD hS ls hl k hk h4 e1
  · exact pL1_die C9 i hi9 hL4 hLm ih M f0 th d r n ch pd pr yr Wd n2 ch2 pd2 pr2 yr2 W2 hInv H locs hP hD hS ls hl _ h rfl
theorem cs_giveUp {p : Program} {l : Launch} {e : Env} {s : State} {m : MethodId} {below : List Frame} {meth : Method} {c : Code} {b L : Nat} {xs : Nat → Int32} {dC : Nat → ClassId} {dI : Nat → Nat → Nat} {cI cW cJ : ClassId} {t : Nat} {X Bk Br : Nat → Nat} {o : Nat} (C9 : LC p l s m c b L xs dC dI cI cW cJ t) (i : Nat) (hi9 : i < 512) (hL4 : 4 * i + 4 ≤ L) (hLm : L ≤ 2048) (ih : LOOP p l e s m below meth c b dC dI cI cW cJ X Bk Br o (i + 1)) (M : Nat → Nat) (f0 : Nat → Int64) (th : Int32) (d r : Nat → Int32) (n : Nat) (ch pd pr yr : Int32) (Wd : Nat → Nat → Int32) (n2 : Nat) (ch2 pd2 pr2 yr2 : Int32) (W2 : Nat → Nat → Int32) (hInv : Inv i d r n ch pr Wd) (H : Heap) (locs : List Loc) (hP : va_P (dC, dI) vwCl (tab cI X d r ++ (bk cW X Bk n ch pd pr yr Wd ++ (bk cW X Br n2 ch2 pd2 pr2 yr2 W2 ++ (obj X Bk Br :: (o, .inl (cJ, 1, .inr (.inl f0))) :: mw cI M th n d r Wd ch pd yr (WT d (r 0)))))) H) (hD : va_D (NEW s.heap.size) (tab cI X d r ++ (bk cW X Bk n ch pd pr yr Wd ++ (bk cW X Br n2 ch2 pd2 pr2 yr2 W2 ++ (obj X Bk Br :: (o, .inl (cJ, 1, .inr (.inl f0))) :: mw cI M th n d r Wd ch pd yr (WT d (r 0))))))) (hS : va_S (NEW s.heap.size) s.heap H locs) (ls : Array Slot) (hl : lv_has ls 9 [(4, .int (nI (4 * i))), (0, .ref b), (1, .ref (X 0)), (2, .ref (M 0)), (3, .ref o)]) : W p l e room_1 s m #[Value.ref b] below meth c H locs (40 + 4 * i) (3000 + 100 * i) (lw_Z below #[Value.ref b] s) (F0 m 396 ls []) := by
  have hn := hInv.2.2.1
  by_cases h : 0 ≤ (xs (4 * i + 1)) ∧ (xs (4 * i + 1)) < nI n
  · obtain ⟨k, hk9, e1⟩ := nI_of (x := (xs (4 * i + 1))) (Int32.not_lt.mpr h.1)
    have hk : k < n := by
      have h9 := h.2
      rw [e1] at h9
      exact (lt_nI (by omega)).mp h9
    by_cases h4 : Wd k 4 = 0 ∧ 2 ≤ Wd k 3
    · exact pL0_giveUp C9 i hi9 hL4 hLm ih M f0 th d r n ch pd pr yr Wd n2 ch2 pd2 pr2 yr2 W2 hInv H locs hP hD hS ls hl k hk h4 e1
    · exact pL2_giveUp C9 i hi9 hL4 hLm ih M f0 th d r n ch pd pr yr Wd n2 ch2 pd2 pr2 yr2 W2 hInv H locs hP hD hS ls hl k hk h4 e1
  · exact pL1_giveUp C9 i hi9 hL4 hLm ih M f0 th d r n ch pd pr yr Wd n2 ch2 pd2 pr2 yr2 W2 hInv H locs hP hD hS ls hl _ h rfl
theorem cs_put {p : Program} {l : Launch} {e : Env} {s : State} {m : MethodId} {below : List Frame} {meth : Method} {c : Code} {b L : Nat} {xs : Nat → Int32} {dC : Nat → ClassId} {dI : Nat → Nat → Nat} {cI cW cJ : ClassId} {t : Nat} {X Bk Br : Nat → Nat} {o : Nat} (C9 : LC p l s m c b L xs dC dI cI cW cJ t) (i : Nat) (hi9 : i < 512) (hL4 : 4 * i + 4 ≤ L) (hLm : L ≤ 2048) (ih : LOOP p l e s m below meth c b dC dI cI cW cJ X Bk Br o (i + 1)) (M : Nat → Nat) (f0 : Nat → Int64) (th : Int32) (d r : Nat → Int32) (n : Nat) (ch pd pr yr : Int32) (Wd : Nat → Nat → Int32) (n2 : Nat) (ch2 pd2 pr2 yr2 : Int32) (W2 : Nat → Nat → Int32) (hInv : Inv i d r n ch pr Wd) (H : Heap) (locs : List Loc) (hP : va_P (dC, dI) vwCl (tab cI X d r ++ (bk cW X Bk n ch pd pr yr Wd ++ (bk cW X Br n2 ch2 pd2 pr2 yr2 W2 ++ (obj X Bk Br :: (o, .inl (cJ, 1, .inr (.inl f0))) :: mw cI M th n d r Wd ch pd yr (WT d (r 0)))))) H) (hD : va_D (NEW s.heap.size) (tab cI X d r ++ (bk cW X Bk n ch pd pr yr Wd ++ (bk cW X Br n2 ch2 pd2 pr2 yr2 W2 ++ (obj X Bk Br :: (o, .inl (cJ, 1, .inr (.inl f0))) :: mw cI M th n d r Wd ch pd yr (WT d (r 0))))))) (hS : va_S (NEW s.heap.size) s.heap H locs) (ls : Array Slot) (hl : lv_has ls 9 [(4, .int (nI (4 * i))), (0, .ref b), (1, .ref (X 0)), (2, .ref (M 0)), (3, .ref o)]) : W p l e room_1 s m #[Value.ref b] below meth c H locs (40 + 4 * i) (3000 + 100 * i) (lw_Z below #[Value.ref b] s) (F0 m 452 ls []) := by
  have hn := hInv.2.2.1
  by_cases h : -99999 ≤ (xs (4 * i + 1)) ∧ (xs (4 * i + 1)) ≤ 99999
  · exact pL0_put C9 i hi9 hL4 hLm ih M f0 th d r n ch pd pr yr Wd n2 ch2 pd2 pr2 yr2 W2 hInv H locs hP hD hS ls hl _ h rfl
  · exact pL1_put C9 i hi9 hL4 hLm ih M f0 th d r n ch pd pr yr Wd n2 ch2 pd2 pr2 yr2 W2 hInv H locs hP hD hS ls hl _ h rfl
theorem cs_worth {p : Program} {l : Launch} {e : Env} {s : State} {m : MethodId} {below : List Frame} {meth : Method} {c : Code} {b L : Nat} {xs : Nat → Int32} {dC : Nat → ClassId} {dI : Nat → Nat → Nat} {cI cW cJ : ClassId} {t : Nat} {X Bk Br : Nat → Nat} {o : Nat} (C9 : LC p l s m c b L xs dC dI cI cW cJ t) (i : Nat) (hi9 : i < 512) (hL4 : 4 * i + 4 ≤ L) (hLm : L ≤ 2048) (ih : LOOP p l e s m below meth c b dC dI cI cW cJ X Bk Br o (i + 1)) (M : Nat → Nat) (f0 : Nat → Int64) (th : Int32) (d r : Nat → Int32) (n : Nat) (ch pd pr yr : Int32) (Wd : Nat → Nat → Int32) (n2 : Nat) (ch2 pd2 pr2 yr2 : Int32) (W2 : Nat → Nat → Int32) (hInv : Inv i d r n ch pr Wd) (H : Heap) (locs : List Loc) (hP : va_P (dC, dI) vwCl (tab cI X d r ++ (bk cW X Bk n ch pd pr yr Wd ++ (bk cW X Br n2 ch2 pd2 pr2 yr2 W2 ++ (obj X Bk Br :: (o, .inl (cJ, 1, .inr (.inl f0))) :: mw cI M th n d r Wd ch pd yr (WT d (r 0)))))) H) (hD : va_D (NEW s.heap.size) (tab cI X d r ++ (bk cW X Bk n ch pd pr yr Wd ++ (bk cW X Br n2 ch2 pd2 pr2 yr2 W2 ++ (obj X Bk Br :: (o, .inl (cJ, 1, .inr (.inl f0))) :: mw cI M th n d r Wd ch pd yr (WT d (r 0))))))) (hS : va_S (NEW s.heap.size) s.heap H locs) (ls : Array Slot) (hl : lv_has ls 9 [(4, .int (nI (4 * i))), (0, .ref b), (1, .ref (X 0)), (2, .ref (M 0)), (3, .ref o)]) : W p l e room_1 s m #[Value.ref b] below meth c H locs (40 + 4 * i) (3000 + 100 * i) (lw_Z below #[Value.ref b] s) (F0 m 508 ls []) := by
  have hn := hInv.2.2.1
  by_cases h : (50 ≤ (xs (4 * i + 1)) ∧ (xs (4 * i + 1)) ≤ 99) ∧ (0 ≤ (xs (4 * i + 2)) ∧ (xs (4 * i + 2)) ≤ 30)
  · obtain ⟨ka, e1, h1, h2⟩ := of_rng (x := (xs (4 * i + 1))) 50 99 h.1.1 h.1.2 (by omega) (by omega)
    obtain ⟨kb, e2, h0, h3⟩ := of_rng (x := (xs (4 * i + 2))) 0 30 h.2.1 h.2.2 (by omega) (by omega)
    exact pL0_worth C9 i hi9 hL4 hLm ih M f0 th d r n ch pd pr yr Wd n2 ch2 pd2 pr2 yr2 W2 hInv H locs hP hD hS ls hl ka kb h1 h2 h3 e1 e2
  · exact pL1_worth C9 i hi9 hL4 hLm ih M f0 th d r n ch pd pr yr Wd n2 ch2 pd2 pr2 yr2 W2 hInv H locs hP hD hS ls hl _ _ h rfl rfl
theorem cs_price {p : Program} {l : Launch} {e : Env} {s : State} {m : MethodId} {below : List Frame} {meth : Method} {c : Code} {b L : Nat} {xs : Nat → Int32} {dC : Nat → ClassId} {dI : Nat → Nat → Nat} {cI cW cJ : ClassId} {t : Nat} {X Bk Br : Nat → Nat} {o : Nat} (C9 : LC p l s m c b L xs dC dI cI cW cJ t) (i : Nat) (hi9 : i < 512) (hL4 : 4 * i + 4 ≤ L) (hLm : L ≤ 2048) (ih : LOOP p l e s m below meth c b dC dI cI cW cJ X Bk Br o (i + 1)) (M : Nat → Nat) (f0 : Nat → Int64) (th : Int32) (d r : Nat → Int32) (n : Nat) (ch pd pr yr : Int32) (Wd : Nat → Nat → Int32) (n2 : Nat) (ch2 pd2 pr2 yr2 : Int32) (W2 : Nat → Nat → Int32) (hInv : Inv i d r n ch pr Wd) (H : Heap) (locs : List Loc) (hP : va_P (dC, dI) vwCl (tab cI X d r ++ (bk cW X Bk n ch pd pr yr Wd ++ (bk cW X Br n2 ch2 pd2 pr2 yr2 W2 ++ (obj X Bk Br :: (o, .inl (cJ, 1, .inr (.inl f0))) :: mw cI M th n d r Wd ch pd yr (WT d (r 0)))))) H) (hD : va_D (NEW s.heap.size) (tab cI X d r ++ (bk cW X Bk n ch pd pr yr Wd ++ (bk cW X Br n2 ch2 pd2 pr2 yr2 W2 ++ (obj X Bk Br :: (o, .inl (cJ, 1, .inr (.inl f0))) :: mw cI M th n d r Wd ch pd yr (WT d (r 0))))))) (hS : va_S (NEW s.heap.size) s.heap H locs) (ls : Array Slot) (hl : lv_has ls 9 [(4, .int (nI (4 * i))), (0, .ref b), (1, .ref (X 0)), (2, .ref (M 0)), (3, .ref o)]) : W p l e room_1 s m #[Value.ref b] below meth c H locs (40 + 4 * i) (3000 + 100 * i) (lw_Z below #[Value.ref b] s) (F0 m 576 ls []) := by
  have hn := hInv.2.2.1
  by_cases h : (50 ≤ (xs (4 * i + 1)) ∧ (xs (4 * i + 1)) ≤ 99) ∧ (1 ≤ (xs (4 * i + 2)) ∧ (xs (4 * i + 2)) ≤ 999) ∧ (0 ≤ (xs (4 * i + 3)) ∧ (xs (4 * i + 3)) ≤ 30)
  · obtain ⟨ka, e1, h1, h2⟩ := of_rng (x := (xs (4 * i + 1))) 50 99 h.1.1 h.1.2 (by omega) (by omega)
    obtain ⟨kb, e3, h0, h3⟩ := of_rng (x := (xs (4 * i + 3))) 0 30 h.2.2.1 h.2.2.2 (by omega) (by omega)
    exact pL0_price C9 i hi9 hL4 hLm ih M f0 th d r n ch pd pr yr Wd n2 ch2 pd2 pr2 yr2 W2 hInv H locs hP hD hS ls hl ka _ kb h1 h2 h.2.1 h3 e1 rfl e3
  · exact pL1_price C9 i hi9 hL4 hLm ih M f0 th d r n ch pd pr yr Wd n2 ch2 pd2 pr2 yr2 W2 hInv H locs hP hD hS ls hl _ _ _ h rfl rfl rfl
theorem cs_told {p : Program} {l : Launch} {e : Env} {s : State} {m : MethodId} {below : List Frame} {meth : Method} {c : Code} {b L : Nat} {xs : Nat → Int32} {dC : Nat → ClassId} {dI : Nat → Nat → Nat} {cI cW cJ : ClassId} {t : Nat} {X Bk Br : Nat → Nat} {o : Nat} (C9 : LC p l s m c b L xs dC dI cI cW cJ t) (i : Nat) (hi9 : i < 512) (hL4 : 4 * i + 4 ≤ L) (hLm : L ≤ 2048) (ih : LOOP p l e s m below meth c b dC dI cI cW cJ X Bk Br o (i + 1)) (M : Nat → Nat) (f0 : Nat → Int64) (th : Int32) (d r : Nat → Int32) (n : Nat) (ch pd pr yr : Int32) (Wd : Nat → Nat → Int32) (n2 : Nat) (ch2 pd2 pr2 yr2 : Int32) (W2 : Nat → Nat → Int32) (hInv : Inv i d r n ch pr Wd) (H : Heap) (locs : List Loc) (hP : va_P (dC, dI) vwCl (tab cI X d r ++ (bk cW X Bk n ch pd pr yr Wd ++ (bk cW X Br n2 ch2 pd2 pr2 yr2 W2 ++ (obj X Bk Br :: (o, .inl (cJ, 1, .inr (.inl f0))) :: mw cI M th n d r Wd ch pd yr (WT d (r 0)))))) H) (hD : va_D (NEW s.heap.size) (tab cI X d r ++ (bk cW X Bk n ch pd pr yr Wd ++ (bk cW X Br n2 ch2 pd2 pr2 yr2 W2 ++ (obj X Bk Br :: (o, .inl (cJ, 1, .inr (.inl f0))) :: mw cI M th n d r Wd ch pd yr (WT d (r 0))))))) (hS : va_S (NEW s.heap.size) s.heap H locs) (ls : Array Slot) (hl : lv_has ls 9 [(4, .int (nI (4 * i))), (0, .ref b), (1, .ref (X 0)), (2, .ref (M 0)), (3, .ref o)]) : W p l e room_1 s m #[Value.ref b] below meth c H locs (40 + 4 * i) (3000 + 100 * i) (lw_Z below #[Value.ref b] s) (F0 m 656 ls []) := by
  have hn := hInv.2.2.1
  by_cases h : (0 ≤ (xs (4 * i + 1)) ∧ (xs (4 * i + 1)) < nI n) ∧ (0 ≤ (xs (4 * i + 2)) ∧ (xs (4 * i + 2)) ≤ 8)
  · obtain ⟨k, hk9, e1⟩ := nI_of (x := (xs (4 * i + 1))) (Int32.not_lt.mpr h.1.1)
    have hk : k < n := by
      have h9 := h.1.2
      rw [e1] at h9
      exact (lt_nI (by omega)).mp h9
    obtain ⟨f, e2, h0, h3⟩ := of_rng (x := (xs (4 * i + 2))) 0 8 h.2.1 h.2.2 (by omega) (by omega)
    exact pL0_told C9 i hi9 hL4 hLm ih M f0 th d r n ch pd pr yr Wd n2 ch2 pd2 pr2 yr2 W2 hInv H locs hP hD hS ls hl k f hk (by omega) e1 e2
  · exact pL1_told C9 i hi9 hL4 hLm ih M f0 th d r n ch pd pr yr Wd n2 ch2 pd2 pr2 yr2 W2 hInv H locs hP hD hS ls hl _ _ h rfl rfl
theorem cs_count {p : Program} {l : Launch} {e : Env} {s : State} {m : MethodId} {below : List Frame} {meth : Method} {c : Code} {b L : Nat} {xs : Nat → Int32} {dC : Nat → ClassId} {dI : Nat → Nat → Nat} {cI cW cJ : ClassId} {t : Nat} {X Bk Br : Nat → Nat} {o : Nat} (C9 : LC p l s m c b L xs dC dI cI cW cJ t) (i : Nat) (hi9 : i < 512) (hL4 : 4 * i + 4 ≤ L) (hLm : L ≤ 2048) (ih : LOOP p l e s m below meth c b dC dI cI cW cJ X Bk Br o (i + 1)) (M : Nat → Nat) (f0 : Nat → Int64) (th : Int32) (d r : Nat → Int32) (n : Nat) (ch pd pr yr : Int32) (Wd : Nat → Nat → Int32) (n2 : Nat) (ch2 pd2 pr2 yr2 : Int32) (W2 : Nat → Nat → Int32) (hInv : Inv i d r n ch pr Wd) (H : Heap) (locs : List Loc) (hP : va_P (dC, dI) vwCl (tab cI X d r ++ (bk cW X Bk n ch pd pr yr Wd ++ (bk cW X Br n2 ch2 pd2 pr2 yr2 W2 ++ (obj X Bk Br :: (o, .inl (cJ, 1, .inr (.inl f0))) :: mw cI M th n d r Wd ch pd yr (WT d (r 0)))))) H) (hD : va_D (NEW s.heap.size) (tab cI X d r ++ (bk cW X Bk n ch pd pr yr Wd ++ (bk cW X Br n2 ch2 pd2 pr2 yr2 W2 ++ (obj X Bk Br :: (o, .inl (cJ, 1, .inr (.inl f0))) :: mw cI M th n d r Wd ch pd yr (WT d (r 0))))))) (hS : va_S (NEW s.heap.size) s.heap H locs) (ls : Array Slot) (hl : lv_has ls 9 [(4, .int (nI (4 * i))), (0, .ref b), (1, .ref (X 0)), (2, .ref (M 0)), (3, .ref o)]) : W p l e room_1 s m #[Value.ref b] below meth c H locs (40 + 4 * i) (3000 + 100 * i) (lw_Z below #[Value.ref b] s) (F0 m 724 ls []) := by
  have hn := hInv.2.2.1
  by_cases h : 0 ≤ (xs (4 * i + 1)) ∧ (xs (4 * i + 1)) ≤ 8
  · obtain ⟨k, e1, h0, h3⟩ := of_rng (x := (xs (4 * i + 1))) 0 8 h.1 h.2 (by omega) (by omega)
    exact pL0_count C9 i hi9 hL4 hLm ih M f0 th d r n ch pd pr yr Wd n2 ch2 pd2 pr2 yr2 W2 hInv H locs hP hD hS ls hl k (by omega) e1
  · exact pL1_count C9 i hi9 hL4 hLm ih M f0 th d r n ch pd pr yr Wd n2 ch2 pd2 pr2 yr2 W2 hInv H locs hP hD hS ls hl _ h rfl
theorem cs_alive {p : Program} {l : Launch} {e : Env} {s : State} {m : MethodId} {below : List Frame} {meth : Method} {c : Code} {b L : Nat} {xs : Nat → Int32} {dC : Nat → ClassId} {dI : Nat → Nat → Nat} {cI cW cJ : ClassId} {t : Nat} {X Bk Br : Nat → Nat} {o : Nat} (C9 : LC p l s m c b L xs dC dI cI cW cJ t) (i : Nat) (hi9 : i < 512) (hL4 : 4 * i + 4 ≤ L) (hLm : L ≤ 2048) (ih : LOOP p l e s m below meth c b dC dI cI cW cJ X Bk Br o (i + 1)) (M : Nat → Nat) (f0 : Nat → Int64) (th : Int32) (d r : Nat → Int32) (n : Nat) (ch pd pr yr : Int32) (Wd : Nat → Nat → Int32) (n2 : Nat) (ch2 pd2 pr2 yr2 : Int32) (W2 : Nat → Nat → Int32) (hInv : Inv i d r n ch pr Wd) (H : Heap) (locs : List Loc) (hP : va_P (dC, dI) vwCl (tab cI X d r ++ (bk cW X Bk n ch pd pr yr Wd ++ (bk cW X Br n2 ch2 pd2 pr2 yr2 W2 ++ (obj X Bk Br :: (o, .inl (cJ, 1, .inr (.inl f0))) :: mw cI M th n d r Wd ch pd yr (WT d (r 0)))))) H) (hD : va_D (NEW s.heap.size) (tab cI X d r ++ (bk cW X Bk n ch pd pr yr Wd ++ (bk cW X Br n2 ch2 pd2 pr2 yr2 W2 ++ (obj X Bk Br :: (o, .inl (cJ, 1, .inr (.inl f0))) :: mw cI M th n d r Wd ch pd yr (WT d (r 0))))))) (hS : va_S (NEW s.heap.size) s.heap H locs) (ls : Array Slot) (hl : lv_has ls 9 [(4, .int (nI (4 * i))), (0, .ref b), (1, .ref (X 0)), (2, .ref (M 0)), (3, .ref o)]) : W p l e room_1 s m #[Value.ref b] below meth c H locs (40 + 4 * i) (3000 + 100 * i) (lw_Z below #[Value.ref b] s) (F0 m 780 ls []) := by
  have hn := hInv.2.2.1
  by_cases h : (50 ≤ (xs (4 * i + 1)) ∧ (xs (4 * i + 1)) ≤ 99) ∧ (0 ≤ (xs (4 * i + 2)) ∧ (xs (4 * i + 2)) ≤ 60)
  · obtain ⟨ka, e1, h1, h2⟩ := of_rng (x := (xs (4 * i + 1))) 50 99 h.1.1 h.1.2 (by omega) (by omega)
    obtain ⟨y, e2, h0, h3⟩ := of_rng (x := (xs (4 * i + 2))) 0 60 h.2.1 h.2.2 (by omega) (by omega)
    exact pL0_alive C9 i hi9 hL4 hLm ih M f0 th d r n ch pd pr yr Wd n2 ch2 pd2 pr2 yr2 W2 hInv H locs hP hD hS ls hl ka y h1 h2 h3 e1 e2
  · exact pL1_alive C9 i hi9 hL4 hLm ih M f0 th d r n ch pd pr yr Wd n2 ch2 pd2 pr2 yr2 W2 hInv H locs hP hD hS ls hl _ _ h rfl rfl
theorem cs_pass {p : Program} {l : Launch} {e : Env} {s : State} {m : MethodId} {below : List Frame} {meth : Method} {c : Code} {b L : Nat} {xs : Nat → Int32} {dC : Nat → ClassId} {dI : Nat → Nat → Nat} {cI cW cJ : ClassId} {t : Nat} {X Bk Br : Nat → Nat} {o : Nat} (C9 : LC p l s m c b L xs dC dI cI cW cJ t) (i : Nat) (hi9 : i < 512) (hL4 : 4 * i + 4 ≤ L) (hLm : L ≤ 2048) (ih : LOOP p l e s m below meth c b dC dI cI cW cJ X Bk Br o (i + 1)) (M : Nat → Nat) (f0 : Nat → Int64) (th : Int32) (d r : Nat → Int32) (n : Nat) (ch pd pr yr : Int32) (Wd : Nat → Nat → Int32) (n2 : Nat) (ch2 pd2 pr2 yr2 : Int32) (W2 : Nat → Nat → Int32) (hInv : Inv i d r n ch pr Wd) (H : Heap) (locs : List Loc) (hP : va_P (dC, dI) vwCl (tab cI X d r ++ (bk cW X Bk n ch pd pr yr Wd ++ (bk cW X Br n2 ch2 pd2 pr2 yr2 W2 ++ (obj X Bk Br :: (o, .inl (cJ, 1, .inr (.inl f0))) :: mw cI M th n d r Wd ch pd yr (WT d (r 0)))))) H) (hD : va_D (NEW s.heap.size) (tab cI X d r ++ (bk cW X Bk n ch pd pr yr Wd ++ (bk cW X Br n2 ch2 pd2 pr2 yr2 W2 ++ (obj X Bk Br :: (o, .inl (cJ, 1, .inr (.inl f0))) :: mw cI M th n d r Wd ch pd yr (WT d (r 0))))))) (hS : va_S (NEW s.heap.size) s.heap H locs) (ls : Array Slot) (hl : lv_has ls 9 [(4, .int (nI (4 * i))), (0, .ref b), (1, .ref (X 0)), (2, .ref (M 0)), (3, .ref o)]) : W p l e room_1 s m #[Value.ref b] below meth c H locs (40 + 4 * i) (3000 + 100 * i) (lw_Z below #[Value.ref b] s) (F0 m 848 ls []) := by
  have hn := hInv.2.2.1
  by_cases h : 1 ≤ (xs (4 * i + 1)) ∧ (xs (4 * i + 1)) ≤ 50
  · obtain ⟨y, e1, h1, h2⟩ := of_rng (x := (xs (4 * i + 1))) 1 50 h.1 h.2 (by omega) (by omega)
    exact pL0_pass C9 i hi9 hL4 hLm ih M f0 th d r n ch pd pr yr Wd n2 ch2 pd2 pr2 yr2 W2 hInv H locs hP hD hS ls hl y h1 h2 e1
  · exact pL1_pass C9 i hi9 hL4 hLm ih M f0 th d r n ch pd pr yr Wd n2 ch2 pd2 pr2 yr2 W2 hInv H locs hP hD hS ls hl _ h rfl
theorem cs_foresee {p : Program} {l : Launch} {e : Env} {s : State} {m : MethodId} {below : List Frame} {meth : Method} {c : Code} {b L : Nat} {xs : Nat → Int32} {dC : Nat → ClassId} {dI : Nat → Nat → Nat} {cI cW cJ : ClassId} {t : Nat} {X Bk Br : Nat → Nat} {o : Nat} (C9 : LC p l s m c b L xs dC dI cI cW cJ t) (i : Nat) (hi9 : i < 512) (hL4 : 4 * i + 4 ≤ L) (hLm : L ≤ 2048) (ih : LOOP p l e s m below meth c b dC dI cI cW cJ X Bk Br o (i + 1)) (M : Nat → Nat) (f0 : Nat → Int64) (th : Int32) (d r : Nat → Int32) (n : Nat) (ch pd pr yr : Int32) (Wd : Nat → Nat → Int32) (n2 : Nat) (ch2 pd2 pr2 yr2 : Int32) (W2 : Nat → Nat → Int32) (hInv : Inv i d r n ch pr Wd) (H : Heap) (locs : List Loc) (hP : va_P (dC, dI) vwCl (tab cI X d r ++ (bk cW X Bk n ch pd pr yr Wd ++ (bk cW X Br n2 ch2 pd2 pr2 yr2 W2 ++ (obj X Bk Br :: (o, .inl (cJ, 1, .inr (.inl f0))) :: mw cI M th n d r Wd ch pd yr (WT d (r 0)))))) H) (hD : va_D (NEW s.heap.size) (tab cI X d r ++ (bk cW X Bk n ch pd pr yr Wd ++ (bk cW X Br n2 ch2 pd2 pr2 yr2 W2 ++ (obj X Bk Br :: (o, .inl (cJ, 1, .inr (.inl f0))) :: mw cI M th n d r Wd ch pd yr (WT d (r 0))))))) (hS : va_S (NEW s.heap.size) s.heap H locs) (ls : Array Slot) (hl : lv_has ls 9 [(4, .int (nI (4 * i))), (0, .ref b), (1, .ref (X 0)), (2, .ref (M 0)), (3, .ref o)]) : W p l e room_1 s m #[Value.ref b] below meth c H locs (40 + 4 * i) (3000 + 100 * i) (lw_Z below #[Value.ref b] s) (F0 m 904 ls []) := by
  have hn := hInv.2.2.1
  by_cases h : 1 ≤ (xs (4 * i + 1)) ∧ (xs (4 * i + 1)) ≤ 50
  · by_cases h4 : 2 ≤ (xs (4 * i + 2)) ∧ (xs (4 * i + 2)) ≤ 7
    · obtain ⟨y, e1, h1, h2⟩ := of_rng (x := (xs (4 * i + 1))) 1 50 h.1 h.2 (by omega) (by omega)
      obtain ⟨k, e2, h3, h5⟩ := of_rng (x := (xs (4 * i + 2))) 2 7 h4.1 h4.2 (by omega) (by omega)
      exact pL0_foresee C9 i hi9 hL4 hLm ih M f0 th d r n ch pd pr yr Wd n2 ch2 pd2 pr2 yr2 W2 hInv H locs hP hD hS ls hl y k h1 h2 h3 h5 e1 e2
    · exact pL2_foresee C9 i hi9 hL4 hLm ih M f0 th d r n ch pd pr yr Wd n2 ch2 pd2 pr2 yr2 W2 hInv H locs hP hD hS ls hl _ _ h h4 rfl rfl
  · exact pL1_foresee C9 i hi9 hL4 hLm ih M f0 th d r n ch pd pr yr Wd n2 ch2 pd2 pr2 yr2 W2 hInv H locs hP hD hS ls hl _ _ h rfl rfl
theorem cs_affords {p : Program} {l : Launch} {e : Env} {s : State} {m : MethodId} {below : List Frame} {meth : Method} {c : Code} {b L : Nat} {xs : Nat → Int32} {dC : Nat → ClassId} {dI : Nat → Nat → Nat} {cI cW cJ : ClassId} {t : Nat} {X Bk Br : Nat → Nat} {o : Nat} (C9 : LC p l s m c b L xs dC dI cI cW cJ t) (i : Nat) (hi9 : i < 512) (hL4 : 4 * i + 4 ≤ L) (hLm : L ≤ 2048) (ih : LOOP p l e s m below meth c b dC dI cI cW cJ X Bk Br o (i + 1)) (M : Nat → Nat) (f0 : Nat → Int64) (th : Int32) (d r : Nat → Int32) (n : Nat) (ch pd pr yr : Int32) (Wd : Nat → Nat → Int32) (n2 : Nat) (ch2 pd2 pr2 yr2 : Int32) (W2 : Nat → Nat → Int32) (hInv : Inv i d r n ch pr Wd) (H : Heap) (locs : List Loc) (hP : va_P (dC, dI) vwCl (tab cI X d r ++ (bk cW X Bk n ch pd pr yr Wd ++ (bk cW X Br n2 ch2 pd2 pr2 yr2 W2 ++ (obj X Bk Br :: (o, .inl (cJ, 1, .inr (.inl f0))) :: mw cI M th n d r Wd ch pd yr (WT d (r 0)))))) H) (hD : va_D (NEW s.heap.size) (tab cI X d r ++ (bk cW X Bk n ch pd pr yr Wd ++ (bk cW X Br n2 ch2 pd2 pr2 yr2 W2 ++ (obj X Bk Br :: (o, .inl (cJ, 1, .inr (.inl f0))) :: mw cI M th n d r Wd ch pd yr (WT d (r 0))))))) (hS : va_S (NEW s.heap.size) s.heap H locs) (ls : Array Slot) (hl : lv_has ls 9 [(4, .int (nI (4 * i))), (0, .ref b), (1, .ref (X 0)), (2, .ref (M 0)), (3, .ref o)]) : W p l e room_1 s m #[Value.ref b] below meth c H locs (40 + 4 * i) (3000 + 100 * i) (lw_Z below #[Value.ref b] s) (F0 m 998 ls []) := by
  have hn := hInv.2.2.1
  by_cases h : (50 ≤ (xs (4 * i + 1)) ∧ (xs (4 * i + 1)) ≤ 99) ∧ (0 ≤ (xs (4 * i + 2)) ∧ (xs (4 * i + 2)) ≤ 30) ∧ (1 ≤ (xs (4 * i + 3)) ∧ (xs (4 * i + 3)) ≤ 99999)
  · obtain ⟨ka, e1, h1, h2⟩ := of_rng (x := (xs (4 * i + 1))) 50 99 h.1.1 h.1.2 (by omega) (by omega)
    obtain ⟨kb, e2, h0, h3⟩ := of_rng (x := (xs (4 * i + 2))) 0 30 h.2.1.1 h.2.1.2 (by omega) (by omega)
    exact pL0_affords C9 i hi9 hL4 hLm ih M f0 th d r n ch pd pr yr Wd n2 ch2 pd2 pr2 yr2 W2 hInv H locs hP hD hS ls hl ka kb _ h1 h2 h3 h.2.2 e1 e2 rfl
  · exact pL1_affords C9 i hi9 hL4 hLm ih M f0 th d r n ch pd pr yr Wd n2 ch2 pd2 pr2 yr2 W2 hInv H locs hP hD hS ls hl _ _ _ h rfl rfl rfl
set_option maxHeartbeats 4000000 in
set_option maxRecDepth 100000 in
theorem law_end {p : Program} {l : Launch} {e : Env} {s : State} {m : MethodId} {below : List Frame} {meth : Method} {c : Code} {b L : Nat} {xs : Nat → Int32} {dC : Nat → ClassId} {dI : Nat → Nat → Nat} {cI cW cJ : ClassId} {t : Nat} {X Bk Br : Nat → Nat} {o : Nat} (C9 : LC p l s m c b L xs dC dI cI cW cJ t) (hr : meth.sig.returnType = ret) (hlocks : meth.locks = false) (hLm : L ≤ 2048) (i : Nat) (hi9 : i ≤ 512) (hL4 : L < 4 * i + 4) : LOOP p l e s m below meth c b dC dI cI cW cJ X Bk Br o i := by
  intro M f0 th d r n ch pd pr yr Wd n2 ch2 pd2 pr2 yr2 W2 hInv H locs hP hD hS ls hl
  obtain ⟨hx, hb, hml, hown, hts, hX, hbl, hKK, hKJ, hKX0, hHG0, hl0⟩ := C9
  have e4 : (Int32.ofNat L - 4).toInt = (L : Int) - 4 := pk_sub_toInt (a := L) (b := 4) (by omega) (by omega)
  have e5 : (nI (4 * i)).toInt = ((4 * i : Nat) : Int) := nI_toInt (by omega)
  refine lv_iload hx hb dL_law_23 (lv_at hl 0 rfl) ?_
  refine lv_aload_n hx hb dL_law_25 rfl (lv_at hl 1 rfl) ?_
  refine va_slen hx hb hX hbl (fun h9 => absurd h9 (Nat.not_le.mpr hbl)) hS dL_law_26 ?_
  refine lv_iconst (v := 4) hx hb dL_law_27 (by decide) ?_
  refine lv_isub hx hb dL_law_28 ?_
  refine lv_icmp_gt (tgt := 1139) hx hb dL_law_29 (by decide) (fun c_1 => ?_) (fun c_1 => ?_)
  · refine lv_iconst (v := 1) hx hb dL_law_1139 (by decide) ?_
    refine W.widen (k := 601024) (n := 7293034) (by omega) (by omega) ?_
    refine lw_locs9 hS ?_
    exact lw_ret (d0 := s.drawn) (Drawn.sameBut.refl s.drawn lw_cs) hx hb hr hlocks dL_law_1140
  · exact absurd ((i_lt _ _).mpr (by rw [e4, e5]; omega)) c_1
set_option maxHeartbeats 4000000 in
set_option maxRecDepth 100000 in
theorem law_step {p : Program} {l : Launch} {e : Env} {s : State} {m : MethodId} {below : List Frame} {meth : Method} {c : Code} {b L : Nat} {xs : Nat → Int32} {dC : Nat → ClassId} {dI : Nat → Nat → Nat} {cI cW cJ : ClassId} {t : Nat} {X Bk Br : Nat → Nat} {o : Nat} (C9 : LC p l s m c b L xs dC dI cI cW cJ t) (i : Nat) (hi9 : i < 512) (hL4 : 4 * i + 4 ≤ L) (hLm : L ≤ 2048) (ih : LOOP p l e s m below meth c b dC dI cI cW cJ X Bk Br o (i + 1)) (M : Nat → Nat) (f0 : Nat → Int64) (th : Int32) (d r : Nat → Int32) (n : Nat) (ch pd pr yr : Int32) (Wd : Nat → Nat → Int32) (n2 : Nat) (ch2 pd2 pr2 yr2 : Int32) (W2 : Nat → Nat → Int32) (hInv : Inv i d r n ch pr Wd) (H : Heap) (locs : List Loc) (hP : va_P (dC, dI) vwCl (tab cI X d r ++ (bk cW X Bk n ch pd pr yr Wd ++ (bk cW X Br n2 ch2 pd2 pr2 yr2 W2 ++ (obj X Bk Br :: (o, .inl (cJ, 1, .inr (.inl f0))) :: mw cI M th n d r Wd ch pd yr (WT d (r 0)))))) H) (hD : va_D (NEW s.heap.size) (tab cI X d r ++ (bk cW X Bk n ch pd pr yr Wd ++ (bk cW X Br n2 ch2 pd2 pr2 yr2 W2 ++ (obj X Bk Br :: (o, .inl (cJ, 1, .inr (.inl f0))) :: mw cI M th n d r Wd ch pd yr (WT d (r 0))))))) (hS : va_S (NEW s.heap.size) s.heap H locs) (ls : Array Slot) (hl : lv_has ls 9 [(4, .int (nI (4 * i))), (0, .ref b), (1, .ref (X 0)), (2, .ref (M 0)), (3, .ref o)]) : W p l e room_1 s m #[Value.ref b] below meth c H locs (40 + 4 * i) (3000 + 100 * i) (lw_Z below #[Value.ref b] s) (F0 m 23 ls []) := by
  have C8 := C9
  obtain ⟨hx, hb, hml, hown, hts, hX, hbl, hKK, hKJ, hKX0, hHG0, hl0⟩ := C9
  have e4 : (Int32.ofNat L - 4).toInt = (L : Int) - 4 := pk_sub_toInt (a := L) (b := 4) (by omega) (by omega)
  have e5 : (nI (4 * i)).toInt = ((4 * i : Nat) : Int) := nI_toInt (by omega)
  refine lv_iload hx hb dL_law_23 (lv_at hl 0 rfl) ?_
  refine lv_aload_n hx hb dL_law_25 rfl (lv_at hl 1 rfl) ?_
  refine va_slen hx hb hX hbl (fun h9 => absurd h9 (Nat.not_le.mpr hbl)) hS dL_law_26 ?_
  refine lv_iconst (v := 4) hx hb dL_law_27 (by decide) ?_
  refine lv_isub hx hb dL_law_28 ?_
  refine lv_icmp_gt (tgt := 1139) hx hb dL_law_29 (by decide) (fun c_1 => ?_) (fun c_1 => ?_)
  · exact absurd ((i_lt _ _).mp c_1) (by rw [e4, e5]; omega)
  · refine lv_aload_n hx hb dL_law_32 rfl (lv_at hl 1 rfl) ?_
    refine lv_iload hx hb dL_law_33 (lv_at hl 0 rfl) ?_
    refine va_sld hx hb hX hbl (fun h9 => absurd h9 (Nat.not_le.mpr hbl)) hS (vp_in_nI (by omega) (by omega)) dL_law_35 ?_
    rw [clamp_nI (show 4 * i < 2147483648 by omega)]
    refine lv_bipush (v := 31) hx hb dL_law_36 (by decide) ?_
    refine lv_iand hx hb dL_law_38 ?_
    obtain ⟨k, hk, ek⟩ := pk_andE (xs (4 * i)) (m := 31) 5 (by decide)
    rw [ek]
    rcases (show k = 0 ∨ k = 1 ∨ k = 2 ∨ k = 3 ∨ k = 4 ∨ k = 5 ∨ k = 6 ∨ k = 7 ∨ k = 8 ∨ k = 9 ∨ k = 10 ∨ k = 11 ∨ k = 12 ∨ k = 13 ∨ k = 14 ∨ k = 15 ∨ k = 16 ∨ k = 17 ∨ 18 ≤ k by omega) with rfl | rfl | rfl | rfl | rfl | rfl | rfl | rfl | rfl | rfl | rfl | rfl | rfl | rfl | rfl | rfl | rfl | rfl | hk18
    · refine lv_tableIn (tgt := 124) (off := 85) hx hb dL_law_39 (by decide) (by decide) rfl (by decide) ?_
      exact cs_setDeaths C8 i hi9 hL4 hLm ih M f0 th d r n ch pd pr yr Wd n2 ch2 pd2 pr2 yr2 W2 hInv H locs hP hD hS ls hl
    · refine lv_tableIn (tgt := 192) (off := 153) hx hb dL_law_39 (by decide) (by decide) rfl (by decide) ?_
      exact cs_setRate C8 i hi9 hL4 hLm ih M f0 th d r n ch pd pr yr Wd n2 ch2 pd2 pr2 yr2 W2 hInv H locs hP hD hS ls hl
    · refine lv_tableIn (tgt := 260) (off := 221) hx hb dL_law_39 (by decide) (by decide) rfl (by decide) ?_
      exact cs_buy C8 i hi9 hL4 hLm ih M f0 th d r n ch pd pr yr Wd n2 ch2 pd2 pr2 yr2 W2 hInv H locs hP hD hS ls hl
    · refine lv_tableIn (tgt := 340) (off := 301) hx hb dL_law_39 (by decide) (by decide) rfl (by decide) ?_
      exact cs_die C8 i hi9 hL4 hLm ih M f0 th d r n ch pd pr yr Wd n2 ch2 pd2 pr2 yr2 W2 hInv H locs hP hD hS ls hl
    · refine lv_tableIn (tgt := 396) (off := 357) hx hb dL_law_39 (by decide) (by decide) rfl (by decide) ?_
      exact cs_giveUp C8 i hi9 hL4 hLm ih M f0 th d r n ch pd pr yr Wd n2 ch2 pd2 pr2 yr2 W2 hInv H locs hP hD hS ls hl
    · refine lv_tableIn (tgt := 452) (off := 413) hx hb dL_law_39 (by decide) (by decide) rfl (by decide) ?_
      exact cs_put C8 i hi9 hL4 hLm ih M f0 th d r n ch pd pr yr Wd n2 ch2 pd2 pr2 yr2 W2 hInv H locs hP hD hS ls hl
    · refine lv_tableIn (tgt := 508) (off := 469) hx hb dL_law_39 (by decide) (by decide) rfl (by decide) ?_
      exact cs_worth C8 i hi9 hL4 hLm ih M f0 th d r n ch pd pr yr Wd n2 ch2 pd2 pr2 yr2 W2 hInv H locs hP hD hS ls hl
    · refine lv_tableIn (tgt := 576) (off := 537) hx hb dL_law_39 (by decide) (by decide) rfl (by decide) ?_
      exact cs_price C8 i hi9 hL4 hLm ih M f0 th d r n ch pd pr yr Wd n2 ch2 pd2 pr2 yr2 W2 hInv H locs hP hD hS ls hl
    · refine lv_tableIn (tgt := 656) (off := 617) hx hb dL_law_39 (by decide) (by decide) rfl (by decide) ?_
      exact cs_told C8 i hi9 hL4 hLm ih M f0 th d r n ch pd pr yr Wd n2 ch2 pd2 pr2 yr2 W2 hInv H locs hP hD hS ls hl
    · refine lv_tableIn (tgt := 724) (off := 685) hx hb dL_law_39 (by decide) (by decide) rfl (by decide) ?_
      exact cs_count C8 i hi9 hL4 hLm ih M f0 th d r n ch pd pr yr Wd n2 ch2 pd2 pr2 yr2 W2 hInv H locs hP hD hS ls hl
    · refine lv_tableIn (tgt := 780) (off := 741) hx hb dL_law_39 (by decide) (by decide) rfl (by decide) ?_
      exact cs_alive C8 i hi9 hL4 hLm ih M f0 th d r n ch pd pr yr Wd n2 ch2 pd2 pr2 yr2 W2 hInv H locs hP hD hS ls hl
    · refine lv_tableIn (tgt := 848) (off := 809) hx hb dL_law_39 (by decide) (by decide) rfl (by decide) ?_
      exact cs_pass C8 i hi9 hL4 hLm ih M f0 th d r n ch pd pr yr Wd n2 ch2 pd2 pr2 yr2 W2 hInv H locs hP hD hS ls hl
    · refine lv_tableIn (tgt := 904) (off := 865) hx hb dL_law_39 (by decide) (by decide) rfl (by decide) ?_
      exact cs_foresee C8 i hi9 hL4 hLm ih M f0 th d r n ch pd pr yr Wd n2 ch2 pd2 pr2 yr2 W2 hInv H locs hP hD hS ls hl
    · refine lv_tableIn (tgt := 972) (off := 933) hx hb dL_law_39 (by decide) (by decide) rfl (by decide) ?_
      exact pL0_lasts C8 i hi9 hL4 hLm ih M f0 th d r n ch pd pr yr Wd n2 ch2 pd2 pr2 yr2 W2 hInv H locs hP hD hS ls hl
    · refine lv_tableIn (tgt := 985) (off := 946) hx hb dL_law_39 (by decide) (by decide) rfl (by decide) ?_
      exact pL0_even C8 i hi9 hL4 hLm ih M f0 th d r n ch pd pr yr Wd n2 ch2 pd2 pr2 yr2 W2 hInv H locs hP hD hS ls hl
    · refine lv_tableIn (tgt := 998) (off := 959) hx hb dL_law_39 (by decide) (by decide) rfl (by decide) ?_
      exact cs_affords C8 i hi9 hL4 hLm ih M f0 th d r n ch pd pr yr Wd n2 ch2 pd2 pr2 yr2 W2 hInv H locs hP hD hS ls hl
    · refine lv_tableIn (tgt := 1078) (off := 1039) hx hb dL_law_39 (by decide) (by decide) rfl (by decide) ?_
      exact pL0_mean C8 i hi9 hL4 hLm ih M f0 th d r n ch pd pr yr Wd n2 ch2 pd2 pr2 yr2 W2 hInv H locs hP hD hS ls hl
    · refine lv_tableIn (tgt := 1119) (off := 1080) hx hb dL_law_39 (by decide) (by decide) rfl (by decide) ?_
      exact pL0_digest C8 i hi9 hL4 hLm ih M f0 th d r n ch pd pr yr Wd n2 ch2 pd2 pr2 yr2 W2 hInv H locs hP hD hS ls hl
    · refine lv_tableOut (tgt := 1133) hx hb dL_law_39 (Or.inr (by rw [nI_toInt (by omega)]; omega)) (by decide) ?_
      refine lv_iinc (v := (nI (4 * (i + 1)))) (lv' := [(4, .int (nI (4 * (i + 1)))), (0, .ref b), (1, .ref (X 0)), (2, .ref (M 0)), (3, .ref o)]) hx hb dL_law_1133 hl (k := 0) rfl (nI_add (4 * i) 4) (by decide) rfl (fun ls hl => ?_)
      refine lv_goto (tgt := 23) hx hb dL_law_1136 (by decide) ?_
      refine W.widen (k := 40 + 4 * (i + 1)) (n := 3000 + 100 * (i + 1)) (by omega) (by omega) ?_
      exact ih _ _ _ _ _ _ _ _ _ _ _ _ _ _ _ _ _ (hInv.mono (Nat.le_succ i)) H locs hP hD hS ls (lv_sub hl [0, 1, 2, 3, 4] rfl)
theorem law_loop {p : Program} {l : Launch} {e : Env} {s : State} {m : MethodId} {below : List Frame} {meth : Method} {c : Code} {b L : Nat} {xs : Nat → Int32} {dC : Nat → ClassId} {dI : Nat → Nat → Nat} {cI cW cJ : ClassId} {t : Nat} {X Bk Br : Nat → Nat} {o : Nat} (C9 : LC p l s m c b L xs dC dI cI cW cJ t) (hr : meth.sig.returnType = ret) (hlocks : meth.locks = false) (hLm : L ≤ 2048) : ∀ q i : Nat, i + q = L / 4 → LOOP p l e s m below meth c b dC dI cI cW cJ X Bk Br o i
  | 0, i, h => law_end C9 hr hlocks hLm i (by omega) (by omega)
  | q + 1, i, h => fun M f0 th d r n ch pd pr yr Wd n2 ch2 pd2 pr2 yr2 W2 hInv H locs hP hD hS ls hl => law_step C9 i (by omega) (by omega) hLm (law_loop C9 hr hlocks hLm q (i + 1) (by omega)) M f0 th d r n ch pd pr yr Wd n2 ch2 pd2 pr2 yr2 W2 hInv H locs hP hD hS ls hl
