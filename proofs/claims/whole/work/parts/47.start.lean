theorem cls_long {dC : Nat → ClassId} {dI : Nat → Nat → Nat} {cI cW cJ cA : ClassId} {s : State} (h0 : va_K (dC, dI) vwCl [(cJ, .long)] s) (h : va_K (dC, dI) vwCl (TY cI cW ++ [(cA, .long)]) s) : cA = cJ := by
  have h1 := va_nm_long (h0.2 0 (cJ, .long) rfl).2
  have h2 := va_nm_long (h.2 2 (cA, .long) rfl).2
  exact Option.some.inj (Eq.trans (Eq.symm h2) h1)
theorem start_perm {α : Type} (T K1 K2 Q : List α) (a b : α) : ((Q ++ (T ++ (K1 ++ (K2 ++ [a])))) ++ [b]).Perm (T ++ (K1 ++ (K2 ++ (a :: b :: Q)))) := by
  have h : (Q ++ (T ++ (K1 ++ (K2 ++ [a])))) ++ [b] = Q ++ (T ++ (K1 ++ (K2 ++ [a, b]))) := by simp
  rw [h]
  exact law_back T K1 K2 Q a b
theorem Inv_0 : Inv 0 (dP 50) r00 0 0 0 (fun _ _ => 0) := by
  refine ⟨⟨fun k => if k < 50 then 10 + 8 * k else 0, fun k => ?_⟩, ⟨40, 5, 10, ⟨rfl, by omega⟩, ⟨rfl, by omega⟩, rfl, by omega⟩, by omega, fun k hk => absurd hk (by omega), rfl, by decide, by decide⟩
  unfold dP
  by_cases h : k < 50
  · simp only [h, if_true]; exact ⟨by omega, trivial⟩
  · simp only [h, if_false]; exact ⟨by omega, rfl⟩
set_option maxHeartbeats 4000000 in
set_option maxRecDepth 100000 in
/-- from the entry, for every script of at most 2048 ints, the law comes to its end with true -/
theorem whole_start {p : Program} {e : Env} {s : State} {m : MethodId} {below : List Frame} {meth : Method} {c : Code} (l : Launch) (hflags : l.flags = flags0) {b L : Nat} {xs : Nat → Int32} (hL : L ≤ 2048) (C0 : lw_At p s m meth c b L xs) : W p l e room_1 s m #[Value.ref b] below meth c s.heap [] 0 0 (lw_Z below #[Value.ref b] s) (entryFrame m ([Value.ref b] : List Value).toArray 9) := by
  obtain ⟨hx, hb, hr, hml, hown, htb, hX, hbl, hlocks, hgv⟩ := C0
  have hb : c.code = cL_law := hb
  have hown : s.vm.findClass RL = some m.cls := hown
  have hts : ∀ w ∈ wsL_law, w.before #[Value.ref b] s = true := fun w h => htb w (wsL_law_in w h)
  obtain ⟨dC, dI, cI, cW, cJ, hKK, hKJ⟩ := start_K htb
  have hKX := start_X htb hgv
  obtain ⟨t, hHG⟩ := start_H htb hgv
  have hAO : va_AO "WidowPennies$Widow" s := va_AO.of (htb (.arrayOver (.object "WidowPennies$Widow")) (by decide +kernel))
  have hl0 : l.stackTraces = false := by unfold Launch.stackTraces; rw [hflags]; decide +kernel
  have C9 : LC p l s m c b L xs dC dI cI cW cJ t := ⟨hx, hb, hml, hown, hts, hX, hbl, hKK, hKJ, hKX, hHG, hl0⟩
  have hA : ∀ q, s.heap.size ≤ q → NEW s.heap.size q := fun q h => h
  have hS : va_S (NEW s.heap.size) s.heap s.heap [] := va_S.rf
  have hP : va_P (dC, dI) vwCl [] s.heap := fun k q h => by simp at h
  have hD : va_D (NEW s.heap.size) [] := ⟨fun i j p q h => by simp at h, fun k q h => by simp at h⟩
  have hl := lv_entry ([.ref b]) (n := 9) (Nat.le_of_ble_eq_true rfl)
  rw [lg_entry_eq]
  generalize (lg_sl ([.ref b]) ++ List.replicate (9 - (lg_sl ([.ref b])).length) Slot.unset).toArray = ls at hl ⊢
  have hl : lv_has ls 9 [(0, .ref b)] := hl
  refine va_new (ci := 3) (fs := [.null, .null, .null]) (C := RX3) (T := TX3) (N := 3) hx hb hts inlX3 tyX3 tyX3_ok hown (hts (.classLink RL 8 RX3) (by decide +kernel)) (hts (.instantiable RX3 3) (by decide +kernel)) (hts (.initialized RX3) (by decide +kernel)) hKK.1 hP hD hS hA rfl (fun j hj => by rcases (show j = 0 ∨ j = 1 ∨ j = 2 by omega) with rfl | rfl | rfl <;> rfl) (Nat.le_of_ble_eq_true rfl) (Nat.le_of_ble_eq_true rfl) dL_law_0 (fun q0 H hP hD hS => ?_)
  have hP : va_P (dC, dI) vwCl ([(q0, .inr (3, [.null, .null, .null]))] ++ []) H := hP
  have hD : va_D (NEW s.heap.size) ([(q0, .inr (3, [.null, .null, .null]))] ++ []) := hD
  refine lv_dup hx hb dL_law_3 rfl ?_
  refine wr_u (runI1A (As := []) (rest := [.ref q0]) ⟨hx, hb, hml, hown, hts⟩ (met_X3_init l dC dI cI cW [] q0 _) (cwI 0 hts gL_law_X3_init rfl rfl rfl (hts (.initialized RX3) (by decide +kernel)) (hts (.methodLink RL 60 yX3_init) (by decide +kernel)) (hts (.instanceMethod yX3_init) (by decide +kernel)) rfl (by decide +kernel) ⟨Nat.le_of_ble_eq_true rfl, Nat.le_of_ble_eq_true rfl⟩) hKK hAO hP hD rfl hl.1 (Nat.le_of_ble_eq_true rfl) rfl dL_law_4 ⟨Nat.le_of_ble_eq_true rfl, Nat.le_of_ble_eq_true rfl⟩) hD hS hA (fun u H locs hP hD hS => ?_)
  obtain ⟨u1, Bk, Br⟩ := u
  try dsimp only at hP hD
  obtain ⟨X, hX9⟩ : ∃ X : Nat → Nat, X = fun k => if k = 0 then q0 else u1 k := ⟨_, rfl⟩
  rw [← hX9] at hP hD
  have hq0 : q0 = X 0 := by rw [hX9]; rfl
  clear hX9
  rw [hq0]
  have hP : va_P (dC, dI) vwCl (tab cI X (dP 50) r00 ++ (bk cW X Bk 0 0 0 0 0 (fun _ _ => 0) ++ (bk cW X Br 0 0 0 0 0 (fun _ _ => 0) ++ (obj X Bk Br :: [])))) H := hP
  have hD : va_D (NEW s.heap.size) (tab cI X (dP 50) r00 ++ (bk cW X Bk 0 0 0 0 0 (fun _ _ => 0) ++ (bk cW X Br 0 0 0 0 0 (fun _ _ => 0) ++ (obj X Bk Br :: [])))) := hD
  refine lv_astore_n (lv' := [(1, .ref (X 0)), (0, .ref b)]) hx hb dL_law_7 rfl hl (by decide) rfl (fun ls hl => ?_)
  refine va_new (ci := 4) (fs := [.int 0, .int 0, .null, .null, .null, .null, .null]) (C := RX4) (T := TX4) (N := 7) hx hb hts inlX4 tyX4 tyX4_ok hown (hts (.classLink RL 61 RX4) (by decide +kernel)) (hts (.instantiable RX4 7) (by decide +kernel)) (hts (.initialized RX4) (by decide +kernel)) hKK.1 hP hD hS hA rfl (fun j hj => by rcases (show j = 0 ∨ j = 1 ∨ j = 2 ∨ j = 3 ∨ j = 4 ∨ j = 5 ∨ j = 6 by omega) with rfl | rfl | rfl | rfl | rfl | rfl | rfl <;> rfl) (Nat.le_of_ble_eq_true rfl) (Nat.le_of_ble_eq_true rfl) dL_law_8 (fun q1 H hP hD hS => ?_)
  have hP : va_P (dC, dI) vwCl ([(q1, .inr (4, [.int 0, .int 0, .null, .null, .null, .null, .null]))] ++ (tab cI X (dP 50) r00 ++ (bk cW X Bk 0 0 0 0 0 (fun _ _ => 0) ++ (bk cW X Br 0 0 0 0 0 (fun _ _ => 0) ++ (obj X Bk Br :: []))))) H := va_P_perm (perm_front (tab cI X (dP 50) r00 ++ (bk cW X Bk 0 0 0 0 0 (fun _ _ => 0) ++ (bk cW X Br 0 0 0 0 0 (fun _ _ => 0) ++ (obj X Bk Br :: [])))) (q1, .inr (4, [.int 0, .int 0, .null, .null, .null, .null, .null]))) hP
  have hD : va_D (NEW s.heap.size) ([(q1, .inr (4, [.int 0, .int 0, .null, .null, .null, .null, .null]))] ++ (tab cI X (dP 50) r00 ++ (bk cW X Bk 0 0 0 0 0 (fun _ _ => 0) ++ (bk cW X Br 0 0 0 0 0 (fun _ _ => 0) ++ (obj X Bk Br :: []))))) := va_D_perm (perm_front (tab cI X (dP 50) r00 ++ (bk cW X Bk 0 0 0 0 0 (fun _ _ => 0) ++ (bk cW X Br 0 0 0 0 0 (fun _ _ => 0) ++ (obj X Bk Br :: [])))) (q1, .inr (4, [.int 0, .int 0, .null, .null, .null, .null, .null]))) hD
  refine lv_dup hx hb dL_law_11 rfl ?_
  refine wr_u (runI1 (As := []) (rest := [.ref q1]) ⟨hx, hb, hml, hown, hts⟩ (met_X4_init l dC dI cI cW (tab cI X (dP 50) r00 ++ (bk cW X Bk 0 0 0 0 0 (fun _ _ => 0) ++ (bk cW X Br 0 0 0 0 0 (fun _ _ => 0) ++ (obj X Bk Br :: [])))) q1 _) (cwI 0 hts gL_law_X4_init rfl rfl rfl (hts (.initialized RX4) (by decide +kernel)) (hts (.methodLink RL 63 yX4_init) (by decide +kernel)) (hts (.instanceMethod yX4_init) (by decide +kernel)) rfl (by decide +kernel) ⟨Nat.le_of_ble_eq_true rfl, Nat.le_of_ble_eq_true rfl⟩) hKK hP hD rfl hl.1 (Nat.le_of_ble_eq_true rfl) rfl dL_law_12 ⟨Nat.le_of_ble_eq_true rfl, Nat.le_of_ble_eq_true rfl⟩) hD hS hA (fun u H locs hP hD hS => ?_)
  try dsimp only at hP hD
  obtain ⟨M, hM9⟩ : ∃ M : Nat → Nat, M = fun k => if k = 0 then q1 else u k := ⟨_, rfl⟩
  rw [← hM9] at hP hD
  have hq1 : q1 = M 0 := by rw [hM9]; rfl
  clear hM9
  rw [hq1]
  refine lv_astore_n (lv' := [(2, .ref (M 0)), (1, .ref (X 0)), (0, .ref b)]) hx hb dL_law_15 rfl hl (by decide) rfl (fun ls hl => ?_)
  refine lv_iconst (v := 1) hx hb dL_law_16 (by decide) ?_
  refine va_newa (atype := .long) (ty := .long) (a0 := (1, .inr (.inl (fun _ => 0)))) (N' := 1) hx hb (hts (.arrayClass .long) (by decide +kernel)) rfl hKK.1 hP hD hS hA (fun _ => rfl) (by decide) rfl (by decide) (Nat.le_of_ble_eq_true rfl) (Nat.le_of_ble_eq_true rfl) dL_law_17 (fun o cA H hK2 hP hD hS => ?_)
  have hcA := cls_long hKJ hK2
  rw [hcA] at hP hD
  clear hK2 hcA
  have hP := va_P_perm (start_perm _ _ _ _ _ _) hP
  have hD := va_D_perm (start_perm _ _ _ _ _ _) hD
  refine lv_astore_n (lv' := [(3, .ref o), (2, .ref (M 0)), (1, .ref (X 0)), (0, .ref b)]) hx hb dL_law_19 rfl hl (by decide) rfl (fun ls hl => ?_)
  refine lv_iconst (v := 0) hx hb dL_law_20 (by decide) ?_
  refine lv_istore (lv' := [(4, .int 0), (3, .ref o), (2, .ref (M 0)), (1, .ref (X 0)), (0, .ref b)]) hx hb dL_law_21 hl (by decide) rfl (fun ls hl => ?_)
  refine W.widen (k := 40 + 4 * 0) (n := 3000 + 100 * 0) (Nat.le_of_ble_eq_true rfl) (Nat.le_of_ble_eq_true rfl) ?_
  exact law_loop C9 hr hlocks hL (L / 4) 0 (by omega) M (fun _ => 0) 0 (dP 50) r00 0 0 0 0 0 (fun _ _ => 0) 0 0 0 0 0 (fun _ _ => 0) Inv_0 _ _ hP hD hS ls (lv_sub hl [0, 4, 3, 2, 1] rfl)
