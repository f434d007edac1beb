theorem wr_rU {p : Program} {l : Launch} {e : Env} {R : Room} {s : State} {m : MethodId} {args : Array Value} {below : List Frame} {meth : Method} {c : Code} {H : Heap} {locs : List Loc} {cells slots : Nat} {Q : State → Prop} {pc : Nat} {ls : Array Slot} {rest st0 : List Value} {a : Array Value} {dC : Nat → ClassId} {dI : Nat → Nat → Nat} {wc : va_W} {S : Type} {A : Nat → Prop} {H0 : Heap} {mc ms : Nat} {wc' : S → va_W} {post : S → Prop} {adr : S → Nat} (hr : va_Run p l e R s m args below meth c H locs cells slots mc ms (F0 m pc ls st0) rest (va_Qr post (fun u ra t => ra = adr u ∧ va_P (dC, dI) vwCl (wc' u) t.heap ∧ va_D (va_A wc H.size) (wc' u)) (va_A wc H.size) a) (va_A wc H.size)) (hD : va_D A wc) (hS : va_S A H0 H locs) (hA : ∀ q, H0.size ≤ q → A q)
    (kk : ∀ (u : S) (H1 : Heap) (locs1 : List Loc), post u → va_P (dC, dI) vwCl (wc' u) H1 → va_D A (wc' u) → va_S A H0 H1 locs1 → W p l e R s m args below meth c H1 locs1 (cells + mc) (slots + ms) Q (F0 m (pc + 3) ls (.ref (adr u) :: rest))) : W p l e R s m args below meth c H locs cells slots Q (F0 m pc ls st0) :=
  va_callr hr hS (fun q _ h => free_all hD hS hA q h) (free_all hD hS hA) (fun u ra t H1 locs1 ht hvm hw hB hz hk hS1 => by
    obtain ⟨e1, h1, h2⟩ := hB
    rw [e1]
    exact kk u H1 locs1 hw (by rw [← ht]; exact h1) (h2.weaken (fun _ q _ h => free_all hD hS hA q.1 h)) hS1)
abbrev QB (dC : Nat → ClassId) (dI : Nat → Nat → Nat) (cI cW cV : ClassId) (X Bk Br : Nat → Nat) (R : va_W) (ws : va_W) (sz : Nat) : Array Value → State → Outcome → State → Prop :=
  va_Qr (fun (u : GS × (Nat → Nat)) => GI 60 u.1) (fun u ra t => ra = u.2 0 ∧ va_P (dC, dI) vwCl (gW cI cW cV X Bk Br u.2 R u.1) t.heap ∧ va_D (va_A ws sz) (gW cI cW cV X Bk Br u.2 R u.1)) (va_A ws sz)
theorem Inv_0 : Inv 0 (dP 50) r00 0 0 0 (fun _ _ => 0) := by
  refine ⟨⟨fun k => if k < 50 then 10 + 8 * k else 0, fun k => ?_⟩, ⟨40, 5, 10, ⟨rfl, by omega⟩, ⟨rfl, by omega⟩, rfl, by omega⟩, by omega, fun k hk => absurd hk (by omega), rfl, by decide, by decide⟩
  unfold dP
  by_cases h : k < 50
  · simp only [h, if_true]; exact ⟨by omega, trivial⟩
  · simp only [h, if_false]; exact ⟨by omega, rfl⟩
theorem GI.mono {i j : Nat} {u : GS} (hij : i ≤ j) (h : GI i u) : GI j u := Inv2.mono hij h
set_option maxHeartbeats 4000000 in
set_option maxRecDepth 100000 in
theorem met_L_build (l : Launch) (dC : Nat → ClassId) (dI : Nat → Nat → Nat) (cI cW cV : ClassId) (X Bk Br : Nat → Nat) (R : va_W) (b L : Nat) (xs : Nat → Int32) (hL : L ≤ 260) (sz : Nat) : Met l yL_build wsL_build ({ frames := 9, cells := 102, slots := 892, locals := 194 }) (PreX1 dC dI cI cW cV b L xs [.ref (X 0), .ref b] (tab cI X (dP 50) r00 ++ (bk cW X Bk 0 0 0 0 0 (fun _ _ => 0) ++ (bk cW X Br 0 0 0 0 0 (fun _ _ => 0) ++ (obj X Bk Br :: R)))) sz) (QB dC dI cI cW cV X Bk Br R (tab cI X (dP 50) r00 ++ (bk cW X Bk 0 0 0 0 0 (fun _ _ => 0) ++ (bk cW X Br 0 0 0 0 0 (fun _ _ => 0) ++ (obj X Bk Br :: R)))) sz) 102 892 (va_A (tab cI X (dP 50) r00 ++ (bk cW X Bk 0 0 0 0 0 (fun _ _ => 0) ++ (bk cW X Br 0 0 0 0 0 (fun _ _ => 0) ++ (obj X Bk Br :: R)))) sz) := by
  refine Met.ofW (cc := cL_build) (maxL := 5) (ret := (some (.object "WidowPenniesLaw$Sim"))) (by decide) rfl ?_
  intro p e s m args below meth c s₁ B hml hv
  obtain ⟨rfl, hsz, hP, hD0, hKS, hX, hbl⟩ := hv
  have hKK := hKS.1
  have hKV := hKS.2.1
  subst hsz
  have hx := B.exec
  have hb := B.bytes
  have hr := B.returns
  have hts := atoms_spec (ws := wsL_build) B.pre
  have hown : s.vm.findClass RL = some m.cls := findClass_of_methodNamed B.named
  have hlocks := B.notSynchronized
  have hbA0 : ¬ va_A (tab cI X (dP 50) r00 ++ (bk cW X Bk 0 0 0 0 0 (fun _ _ => 0) ++ (bk cW X Br 0 0 0 0 0 (fun _ _ => 0) ++ (obj X Bk Br :: R)))) s.heap.size b := fun h => by
    rcases h with ⟨k, e9, h9⟩ | h9
    · exact hD0.2 k _ h9 rfl
    · exact absurd hbl (Nat.not_lt.mpr h9)
  have hD := hD0.self (sz := s.heap.size)
  generalize hAe : va_A (tab cI X (dP 50) r00 ++ (bk cW X Bk 0 0 0 0 0 (fun _ _ => 0) ++ (bk cW X Br 0 0 0 0 0 (fun _ _ => 0) ++ (obj X Bk Br :: R)))) s.heap.size = A at hD hbA0 ⊢
  have hbA := hbA0
  have hA : ∀ q : Nat, s.heap.size ≤ q → A q := fun q h => by rw [← hAe]; exact Or.inr h
  have hS : va_S A s.heap s.heap [] := va_S.rf
  have hl := lv_entry ([.ref (X 0), .ref b]) (n := 5) (Nat.le_of_ble_eq_true rfl)
  rw [lg_entry_eq]
  generalize (lg_sl ([.ref (X 0), .ref b]) ++ List.replicate (5 - (lg_sl ([.ref (X 0), .ref b])).length) Slot.unset).toArray = ls at hl ⊢
  have hl : lv_has ls 5 [(0, .ref (X 0)), (1, .ref b)] := hl
  obtain ⟨kn, hkn, ekn⟩ := bel_nI (cellS L xs 0) (n := 40) (by omega) (by omega)
  have key : ∀ (Y : Nat → Nat) (m9 k : Nat), k + m9 = 10 + kn → ∀ (u : GS), GI k u → ∀ (H : Heap) (locs : List Loc), va_P (dC, dI) vwCl (gW cI cW cV X Bk Br Y R u) H → va_D A (gW cI cW cV X Bk Br Y R u) → va_S A s.heap H locs → ∀ ls : Array Slot, lv_has ls 5 [(4, .int (nI k)), (3, .int (nI (10 + kn))), (2, .ref (Y 0)), (0, .ref (X 0)), (1, .ref b)] → W p l e (headSpec wsL_build ({ frames := 9, cells := 102, slots := 892, locals := 194 })).room s m (([.ref (X 0), .ref b] : List Value).toArray) below meth c H locs (4 + 2 * k) (59 + 17 * k) (MQ below (QB dC dI cI cW cV X Bk Br R (tab cI X (dP 50) r00 ++ (bk cW X Bk 0 0 0 0 0 (fun _ _ => 0) ++ (bk cW X Br 0 0 0 0 0 (fun _ _ => 0) ++ (obj X Bk Br :: R)))) s.heap.size) ([.ref (X 0), .ref b] : List Value).toArray s 102 892 A) (F0 m 25 ls []) := by
    intro Y m9
    induction m9 with
    | zero =>
      intro k hk u hG H locs hP hD hS ls hl
      refine lv_iload hx hb dL_build_25 (lv_at hl 0 rfl) ?_
      refine lv_iload_n hx hb dL_build_27 rfl (lv_at hl 1 rfl) ?_
      refine lv_icmp_ge (tgt := 71) hx hb dL_build_28 (by decide) (fun c_1 => ?_) (fun c_1 => ?_)
      · refine lv_aload_n hx hb dL_build_71 rfl (lv_at hl 2 rfl) ?_
        refine W.widen (k := 102) (n := 892) (by omega) (by omega) ?_
        exact W.aret (v := .ref (Y 0)) hx hb hr (Or.inl ⟨_, rfl⟩) (Or.inr ⟨_, rfl⟩) (fun t ht hW => ⟨⟨(u, Y), _, rfl, GI.mono (by omega) hG, rfl, by rw [ht]; exact hP, by rw [hAe]; exact hD⟩, by rw [hAe]; exact hS.F ht⟩) hS.2.2 dL_build_72
      · exact absurd (by rw [show k = 10 + kn by omega]; exact Int32.le_refl _) c_1
    | succ m9 ih =>
      intro k hk u hG H locs hP hD hS ls hl
      obtain ⟨d, r, n, ch, pd, pr, yr, Wd, Ya, V⟩ := u
      have hP : va_P (dC, dI) vwCl (tab cI X d r ++ (bk cW X Bk n ch pd pr yr Wd ++ (bk cW X Br 0 0 0 0 0 (fun _ _ => 0) ++ (obj X Bk Br :: (si cI cV Y Ya V n d r ch pd yr Wd ++ R))))) H := hP
      have hD : va_D A (tab cI X d r ++ (bk cW X Bk n ch pd pr yr Wd ++ (bk cW X Br 0 0 0 0 0 (fun _ _ => 0) ++ (obj X Bk Br :: (si cI cV Y Ya V n d r ch pd yr Wd ++ R))))) := hD
      refine lv_iload hx hb dL_build_25 (lv_at hl 0 rfl) ?_
      refine lv_iload_n hx hb dL_build_27 rfl (lv_at hl 1 rfl) ?_
      refine lv_icmp_ge (tgt := 71) hx hb dL_build_28 (by decide) (fun c_1 => ?_) (fun c_1 => ?_)
      · exact absurd c_1 (fun q9 => absurd ((le_nI (by omega)).mp q9) (by omega))
      · refine lv_aload_n hx hb dL_build_31 rfl (lv_at hl 3 rfl) ?_
        refine lv_aload_n hx hb dL_build_32 rfl (lv_at hl 2 rfl) ?_
        refine lv_aload_n hx hb dL_build_33 rfl (lv_at hl 4 rfl) ?_
        refine lv_iload hx hb dL_build_34 (lv_at hl 0 rfl) ?_
        refine lv_bipush (v := 16) hx hb dL_build_36 (by decide) ?_
        refine lv_irem hx hb dL_build_38 (by decide) ?_
        rw [show ((nI k) - (nI k) / 16 * 16 : Int32) = nI (k % 16) from pk_rem (d := 16) (by omega) (by omega) (by omega)]
        refine rd_i (runSX0 (As := [.ref b, .int (nI (k % 16))]) (rest := [.ref (Y 0), .ref (X 0)]) ⟨hx, hb, hml, hown, hts⟩ (met_L_cell l dC dI cI cW cV b L xs hL (k % 16) (by omega)) (va_cwS 2 hts gL_build_L_cell rfl rfl rfl (by decide +kernel) ⟨Nat.le_of_ble_eq_true rfl, Nat.le_of_ble_eq_true rfl⟩) hKS (hX.kept (hS.2.1 b hbl hbA)) (Nat.lt_of_lt_of_le hbl hS.1) rfl hl.1 (Nat.le_of_ble_eq_true rfl) rfl dL_build_39 ⟨by show 4 + 2 * k ≤ 102; omega, by show 59 + 17 * k ≤ 892; omega⟩) (fun r_3 hr_3 => ?_)
        subst hr_3
        refine lv_iload hx hb dL_build_42 (lv_at hl 0 rfl) ?_
        refine lv_bipush (v := 16) hx hb dL_build_44 (by decide) ?_
        refine lv_idiv hx hb dL_build_46 (by decide) ?_
        rw [show ((nI k) / 16 : Int32) = nI (k / 16) from pk_div (d := 16) (by omega) (by omega) (by omega)]
        refine lv_iconst (v := 3) hx hb dL_build_47 (by decide) ?_
        refine lv_imul hx hb dL_build_48 ?_
        rw [show ((nI (k / 16)) * 3 : Int32) = nI (k / 16 * 3) from pk_mul (k / 16) 3]
        refine lv_ishr hx hb dL_build_49 ?_
        refine lv_sipush (v := 409) hx hb dL_build_50 (by decide) ?_
        refine lv_iload hx hb dL_build_53 (lv_at hl 0 rfl) ?_
        refine lv_imul hx hb dL_build_55 ?_
        refine lv_iadd hx hb dL_build_56 ?_
        refine lv_topi (fun xx exx => ?_)
        refine wr_iU (runS1S (As := [.ref (X 0), .ref (Y 0), .int xx]) (rest := []) ⟨hx, hb, hml, hown, hts⟩ (met_L_act l dC dI cI cW cV X Bk Br Y Ya V d r n ch pd pr yr Wd R xx k hG (by omega) _) (va_cwS 3 hts gL_build_L_act rfl rfl rfl (by decide +kernel) ⟨Nat.le_of_ble_eq_true rfl, Nat.le_of_ble_eq_true rfl⟩) hKS hP hD rfl hl.1 (Nat.le_of_ble_eq_true rfl) rfl dL_build_57 ⟨by show 4 + 2 * k + 2 ≤ 102; omega, by show 59 + 17 * k + 17 ≤ 892; omega⟩) hD hS hA (fun u z9 H locs hz hP hD hS => ?_)
        obtain ⟨rfl, hG⟩ := hz
        refine lv_if_ne (tgt := 65) hx hb dL_build_60 (by decide) (fun c_7 => ?_) (fun c_7 => ?_)
        · refine lv_iinc (v := (nI (k + 1))) (lv' := [(4, .int (nI (k + 1))), (3, .int (nI (10 + kn))), (2, .ref (Y 0)), (0, .ref (X 0)), (1, .ref b)]) hx hb dL_build_65 hl (k := 0) rfl (nI_1 k) (by decide) rfl (fun ls hl => ?_)
          refine lv_goto (tgt := 25) hx hb dL_build_68 (by decide) ?_
          exact ih (k + 1) (by omega) u hG H locs hP hD hS ls (lv_sub hl [0, 1, 2, 3, 4] rfl)
        · exact absurd c_7 (by decide)
  refine va_new (ci := 4) (fs := [.int 0, .int 0, .int 0, .null, .null, .null]) (C := RX4) (T := TX4) (N := 6) hx hb hts (by decide +kernel) tyX4 tyX4_ok hown (hts (.classLink RL 10 RX4) (by decide +kernel)) (hts (.instantiable RX4 6) (by decide +kernel)) (hts (.initialized RX4) (by decide +kernel)) hKK.1 hP hD hS hA rfl (fun j hj => by rcases (show j = 0 ∨ j = 1 ∨ j = 2 ∨ j = 3 ∨ j = 4 ∨ j = 5 by omega) with rfl | rfl | rfl | rfl | rfl | rfl <;> rfl) (Nat.le_of_ble_eq_true rfl) (Nat.le_of_ble_eq_true rfl) dL_build_0 (fun q1 H hP hD hS => ?_)
  have hP : va_P (dC, dI) vwCl ([(q1, .inr (4, [.int 0, .int 0, .int 0, .null, .null, .null]))] ++ (tab cI X (dP 50) r00 ++ (bk cW X Bk 0 0 0 0 0 (fun _ _ => 0) ++ (bk cW X Br 0 0 0 0 0 (fun _ _ => 0) ++ (obj X Bk Br :: R))))) H := va_P_perm (perm_front _ _) hP
  have hD : va_D A ([(q1, .inr (4, [.int 0, .int 0, .int 0, .null, .null, .null]))] ++ (tab cI X (dP 50) r00 ++ (bk cW X Bk 0 0 0 0 0 (fun _ _ => 0) ++ (bk cW X Br 0 0 0 0 0 (fun _ _ => 0) ++ (obj X Bk Br :: R))))) := va_D_perm (perm_front _ _) hD
  refine lv_dup hx hb dL_build_3 rfl ?_
  refine wr_u (runI1S (As := []) (rest := [.ref q1]) ⟨hx, hb, hml, hown, hts⟩ (met_X4_init l dC dI cI cW cV (tab cI X (dP 50) r00 ++ (bk cW X Bk 0 0 0 0 0 (fun _ _ => 0) ++ (bk cW X Br 0 0 0 0 0 (fun _ _ => 0) ++ (obj X Bk Br :: R)))) q1 _) (cwI 0 hts gL_build_X4_init rfl rfl rfl (hts (.initialized RX4) (by decide +kernel)) (hts (.methodLink RL 105 yX4_init) (by decide +kernel)) (hts (.instanceMethod yX4_init) (by decide +kernel)) rfl (by decide +kernel) ⟨Nat.le_of_ble_eq_true rfl, Nat.le_of_ble_eq_true rfl⟩) hKS hP hD rfl hl.1 (Nat.le_of_ble_eq_true rfl) rfl dL_build_4 ⟨Nat.le_of_ble_eq_true rfl, Nat.le_of_ble_eq_true rfl⟩) hD hS hA (fun u H locs hP hD hS => ?_)
  try dsimp only at hP hD
  obtain ⟨Y, hY9⟩ : ∃ Y : Nat → Nat, Y = fun k => if k = 0 then q1 else u.1 k := ⟨_, rfl⟩
  rw [← hY9] at hP hD
  have hq1 : q1 = Y 0 := by rw [hY9]; rfl
  clear hY9
  rw [hq1]
  have hP : va_P (dC, dI) vwCl (gW cI cW cV X Bk Br Y R (dP 50, r00, 0, 0, 0, 0, 0, (fun _ _ => 0), u.2, (fun _ => 0))) H := va_P_perm (pm_in0 _ _ _ _ _ _).symm hP
  have hD : va_D A (gW cI cW cV X Bk Br Y R (dP 50, r00, 0, 0, 0, 0, 0, (fun _ _ => 0), u.2, (fun _ => 0))) := va_D_perm (pm_in0 _ _ _ _ _ _).symm hD
  have hG : GI 0 (dP 50, r00, 0, 0, 0, 0, 0, (fun _ _ => 0), u.2, (fun _ => 0)) := ⟨Inv_0, fun k hk => absurd hk (by show ¬ k < 0; omega)⟩
  refine W.widen (k := 4 + 2 * 0) (n := 59 + 17 * 0) (Nat.le_of_ble_eq_true rfl) (Nat.le_of_ble_eq_true rfl) ?_
  refine lv_astore_n (lv' := [(2, .ref (Y 0)), (0, .ref (X 0)), (1, .ref b)]) hx hb dL_build_7 rfl hl (by decide) rfl (fun ls hl => ?_)
  refine lv_bipush (v := 10) hx hb dL_build_8 (by decide) ?_
  refine lv_aload_n hx hb dL_build_10 rfl (lv_at hl 2 rfl) ?_
  refine lv_iconst (v := 0) hx hb dL_build_11 (by decide) ?_
  refine rd_i (runSX0 (As := [.ref b, .int 0]) (rest := [.int 10]) ⟨hx, hb, hml, hown, hts⟩ (met_L_cell l dC dI cI cW cV b L xs hL 0 (by omega)) (va_cwS 2 hts gL_build_L_cell rfl rfl rfl (by decide +kernel) ⟨Nat.le_of_ble_eq_true rfl, Nat.le_of_ble_eq_true rfl⟩) hKS (hX.kept (hS.2.1 b hbl hbA)) (Nat.lt_of_lt_of_le hbl hS.1) rfl hl.1 (Nat.le_of_ble_eq_true rfl) rfl dL_build_12 ⟨Nat.le_of_ble_eq_true rfl, Nat.le_of_ble_eq_true rfl⟩) (fun r_1 hr_1 => ?_)
  subst hr_1
  refine lv_bipush (v := 40) hx hb dL_build_15 (by decide) ?_
  refine rd_i (runS0 (As := [.int (cellS L xs 0), .int 40]) (rest := [.int 10]) ⟨hx, hb, hml, hown, hts⟩ (met_L_below l dC dI cI cW (cellS L xs 0) 40 (by decide)) (va_cwS 2 hts gL_build_L_below rfl rfl rfl (by decide +kernel) ⟨Nat.le_of_ble_eq_true rfl, Nat.le_of_ble_eq_true rfl⟩) hKK nilP rfl hl.1 (Nat.le_of_ble_eq_true rfl) rfl dL_build_17 ⟨Nat.le_of_ble_eq_true rfl, Nat.le_of_ble_eq_true rfl⟩) (fun r_2 hr_2 => ?_)
  subst hr_2
  rw [show (belS (cellS L xs 0) 40 : Int32) = nI kn from ekn]
  refine lv_iadd hx hb dL_build_20 ?_
  rw [show (10 + (nI kn) : Int32) = nI (10 + kn) from nI_add 10 kn]
  refine lv_istore_n (lv' := [(3, .int (nI (10 + kn))), (2, .ref (Y 0)), (0, .ref (X 0)), (1, .ref b)]) hx hb dL_build_21 rfl hl (by decide) rfl (fun ls hl => ?_)
  refine lv_iconst (v := 0) hx hb dL_build_22 (by decide) ?_
  refine lv_istore (lv' := [(4, .int 0), (3, .int (nI (10 + kn))), (2, .ref (Y 0)), (0, .ref (X 0)), (1, .ref b)]) hx hb dL_build_23 hl (by decide) rfl (fun ls hl => ?_)
  exact key Y (10 + kn) 0 (by omega) _ hG _ _ hP hD hS ls (lv_sub hl [0, 1, 2, 3, 4] rfl)
