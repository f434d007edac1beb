set_option maxHeartbeats 4000000 in
set_option maxRecDepth 100000 in
theorem met_X1_init (l : Launch) (dC : Nat → ClassId) (dI : Nat → Nat → Nat) (cI cW : ClassId) (ws : va_W) (a : Nat) (sz : Nat) : Met l yX1_init wsX1_init ({ frames := 1, cells := 2, slots := 53, locals := 20 }) (Pre1 dC dI cI cW [.ref a] ([(a, .inr (1, [.null, .null]))] ++ ws) sz) (QvU (S := Nat × Nat) dC dI ([(a, .inr (1, [.null, .null]))] ++ ws) (fun u => [(a, .inr (1, [.ref u.1, .ref u.2])), (u.1, .inl (cI, 50, .inl (dP 50))), (u.2, .inl (cI, 3, .inl r00))] ++ ws) sz) 2 53 (va_A ([(a, .inr (1, [.null, .null]))] ++ ws) sz) := by
  refine Met.ofW (cc := cX1_init) (maxL := 2) (ret := none) (by decide) rfl ?_
  intro p e s m args below meth c s₁ B hml hv
  obtain ⟨rfl, hsz, hP, hD0, hKK⟩ := hv
  subst hsz
  have hx := B.exec
  have hb := B.bytes
  have hr := B.returns
  have hts := atoms_spec (ws := wsX1_init) B.pre
  have hown : s.vm.findClass RX1 = some m.cls := findClass_of_methodNamed B.named
  have hlocks := B.notSynchronized
  have hin : meth.name = "<init>" := (name_of_methodNamed B.named B.method).1
  have hD := hD0.self (sz := s.heap.size)
  generalize hAe : va_A ([(a, .inr (1, [.null, .null]))] ++ ws) s.heap.size = A at hD ⊢
  have hA : ∀ q : Nat, s.heap.size ≤ q → A q := fun q h => by rw [← hAe]; exact Or.inr h
  have hS : va_S A s.heap s.heap [] := va_S.rf
  have hl := lv_entry ([.ref a]) (n := 2) (Nat.le_of_ble_eq_true rfl)
  rw [lg_entry_eq]
  generalize (lg_sl ([.ref a]) ++ List.replicate (2 - (lg_sl ([.ref a])).length) Slot.unset).toArray = ls at hl ⊢
  have hl : lv_has ls 2 [(0, .ref a)] := hl
  have key : ∀ (q2 m9 j : Nat), j + m9 = 50 → ∀ (H : Heap) (locs : List Loc), va_P (dC, dI) vwCl ([(a, .inr (1, [.ref q2, .null])), (q2, .inl (cI, 50, .inl (dP j)))] ++ ws) H → va_D A ([(a, .inr (1, [.ref q2, .null])), (q2, .inl (cI, 50, .inl (dP j)))] ++ ws) → va_S A s.heap H locs → ∀ ls : Array Slot, lv_has ls 2 [(1, .int (nI j)), (0, .ref a)] → W p l e (headSpec wsX1_init ({ frames := 1, cells := 2, slots := 53, locals := 20 })).room s m (([.ref a] : List Value).toArray) below meth c H locs 1 50 (MQ below (QvU (S := Nat × Nat) dC dI ([(a, .inr (1, [.null, .null]))] ++ ws) (fun u => [(a, .inr (1, [.ref u.1, .ref u.2])), (u.1, .inl (cI, 50, .inl (dP 50))), (u.2, .inl (cI, 3, .inl r00))] ++ ws) s.heap.size) ([.ref a] : List Value).toArray s 2 53 A) (F0 m 14 ls []) := by
    intro q2 m9
    induction m9 with
    | zero =>
      intro j hj H locs hP hD hS ls hl
      have hj50 : j = 50 := by omega
      subst hj50
      refine lv_iload_n hx hb dX1_init_14 rfl (lv_at hl 0 rfl) ?_
      refine lv_bipush (v := 50) hx hb dX1_init_15 (by decide) ?_
      refine lv_icmp_ge (tgt := 39) hx hb dX1_init_17 (by decide) (fun c_1 => ?_) (fun c_1 => ?_)
      · refine lv_aload_n hx hb dX1_init_39 rfl (lv_at hl 1 rfl) ?_
        refine lv_iconst (v := 3) hx hb dX1_init_40 (by decide) ?_
        refine va_newa (atype := .int) (ty := .int) (a0 := (3, .inl (fun _ => 0))) (N' := 3) hx hb (hts (.arrayClass .int) (by decide +kernel)) rfl hKK.1 hP hD hS hA (fun _ => rfl) (by decide) rfl (by decide) (Nat.le_of_ble_eq_true rfl) (Nat.le_of_ble_eq_true rfl) dX1_init_41 (fun q3 cA H hK2 hP hD hS => ?_)
        have hcA := cls_int hK2
        rw [hcA] at hP hD
        clear hK2 hcA
        have hP := va_P_perm (perm_tail ([(a, .inr (1, [.ref q2, .null])), (q2, .inl (cI, 50, .inl (dP 50)))]) ws (q3, .inl (cI, 3, .inl (fun _ => 0)))) hP
        have hD := va_D_perm (perm_tail ([(a, .inr (1, [.ref q2, .null])), (q2, .inl (cI, 50, .inl (dP 50)))]) ws (q3, .inl (cI, 3, .inl (fun _ => 0)))) hD
        have hP : va_P (dC, dI) vwCl ([(a, .inr (1, [.ref q2, .null])), (q2, .inl (cI, 50, .inl (dP 50))), (q3, .inl (cI, 3, .inl (fun _ => 0)))] ++ ws) H := hP
        have hD : va_D A ([(a, .inr (1, [.ref q2, .null])), (q2, .inl (cI, 50, .inl (dP 50))), (q3, .inl (cI, 3, .inl (fun _ => 0)))] ++ ws) := hD
        refine va_putF (D := (dC, dI)) (ci := 1) (v := .ref q3) (ty := (.array .int)) (C := RX1) (T := TX1) (N := 2) hx hb hts (by decide +kernel) tyX1 tyX1_ok nmX1 hown hKK.1 hP hD hS 0 rfl rfl 1 (by decide) (hts (.fieldLink RX1 15 "WidowPennies$Tables" "rates" "[I") (by decide +kernel)) (fun _ h9 => h9) rfl hin rfl (by decide +kernel) rfl rfl (Nat.le_of_ble_eq_true rfl) dX1_init_43 (fun H locs hP hD hS => ?_)
        have hP : va_P (dC, dI) vwCl ([(a, .inr (1, [.ref q2, .ref q3])), (q2, .inl (cI, 50, .inl (dP 50))), (q3, .inl (cI, 3, .inl (fun _ => 0)))] ++ ws) H := hP
        have hD : va_D A ([(a, .inr (1, [.ref q2, .ref q3])), (q2, .inl (cI, 50, .inl (dP 50))), (q3, .inl (cI, 3, .inl (fun _ => 0)))] ++ ws) := hD
        refine lv_aload_n hx hb dX1_init_46 rfl (lv_at hl 1 rfl) ?_
        refine va_get (D := (dC, dI)) (ci := 1) (v := .ref q3) (C := RX1) (T := TX1) (N := 2) hx hb hts (by decide +kernel) hown hKK.1 hP 0 rfl rfl 1 (by decide) (hts (.fieldLink RX1 15 "WidowPennies$Tables" "rates" "[I") (by decide +kernel)) (fun _ h9 => h9) rfl dX1_init_47 ?_
        refine lv_iconst (v := 0) hx hb dX1_init_50 (by decide) ?_
        refine lv_bipush (v := 40) hx hb dX1_init_51 (by decide) ?_
        refine va_iast hx hb hKK.1 hP hD hS 2 0 rfl rfl (vp_in_nI (n := 0) (by omega) (by omega)) dX1_init_53 (fun H locs hP hD hS => ?_)
        rw [show (0 : Int32).toNatClampNeg = 0 from rfl] at hP hD
        have hP : va_P (dC, dI) vwCl ([(a, .inr (1, [.ref q2, .ref q3])), (q2, .inl (cI, 50, .inl (dP 50))), (q3, .inl (cI, 3, .inl (upd (fun _ => 0) 0 40)))] ++ ws) H := hP
        have hD : va_D A ([(a, .inr (1, [.ref q2, .ref q3])), (q2, .inl (cI, 50, .inl (dP 50))), (q3, .inl (cI, 3, .inl (upd (fun _ => 0) 0 40)))] ++ ws) := hD
        refine lv_aload_n hx hb dX1_init_54 rfl (lv_at hl 1 rfl) ?_
        refine va_get (D := (dC, dI)) (ci := 1) (v := .ref q3) (C := RX1) (T := TX1) (N := 2) hx hb hts (by decide +kernel) hown hKK.1 hP 0 rfl rfl 1 (by decide) (hts (.fieldLink RX1 15 "WidowPennies$Tables" "rates" "[I") (by decide +kernel)) (fun _ h9 => h9) rfl dX1_init_55 ?_
        refine lv_iconst (v := 1) hx hb dX1_init_58 (by decide) ?_
        refine lv_iconst (v := 5) hx hb dX1_init_59 (by decide) ?_
        refine va_iast hx hb hKK.1 hP hD hS 2 0 rfl rfl (vp_in_nI (n := 1) (by omega) (by omega)) dX1_init_60 (fun H locs hP hD hS => ?_)
        rw [show (1 : Int32).toNatClampNeg = 1 from rfl] at hP hD
        have hP : va_P (dC, dI) vwCl ([(a, .inr (1, [.ref q2, .ref q3])), (q2, .inl (cI, 50, .inl (dP 50))), (q3, .inl (cI, 3, .inl (upd (upd (fun _ => 0) 0 40) 1 5)))] ++ ws) H := hP
        have hD : va_D A ([(a, .inr (1, [.ref q2, .ref q3])), (q2, .inl (cI, 50, .inl (dP 50))), (q3, .inl (cI, 3, .inl (upd (upd (fun _ => 0) 0 40) 1 5)))] ++ ws) := hD
        refine lv_aload_n hx hb dX1_init_61 rfl (lv_at hl 1 rfl) ?_
        refine va_get (D := (dC, dI)) (ci := 1) (v := .ref q3) (C := RX1) (T := TX1) (N := 2) hx hb hts (by decide +kernel) hown hKK.1 hP 0 rfl rfl 1 (by decide) (hts (.fieldLink RX1 15 "WidowPennies$Tables" "rates" "[I") (by decide +kernel)) (fun _ h9 => h9) rfl dX1_init_62 ?_
        refine lv_iconst (v := 2) hx hb dX1_init_65 (by decide) ?_
        refine lv_bipush (v := 10) hx hb dX1_init_66 (by decide) ?_
        refine va_iast hx hb hKK.1 hP hD hS 2 0 rfl rfl (vp_in_nI (n := 2) (by omega) (by omega)) dX1_init_68 (fun H locs hP hD hS => ?_)
        rw [show (2 : Int32).toNatClampNeg = 2 from rfl] at hP hD
        have hP : va_P (dC, dI) vwCl ([(a, .inr (1, [.ref q2, .ref q3])), (q2, .inl (cI, 50, .inl (dP 50))), (q3, .inl (cI, 3, .inl (upd (upd (upd (fun _ => 0) 0 40) 1 5) 2 10)))] ++ ws) H := hP
        have hD : va_D A ([(a, .inr (1, [.ref q2, .ref q3])), (q2, .inl (cI, 50, .inl (dP 50))), (q3, .inl (cI, 3, .inl (upd (upd (upd (fun _ => 0) 0 40) 1 5) 2 10)))] ++ ws) := hD
        have hP : va_P (dC, dI) vwCl ([(a, .inr (1, [.ref q2, .ref q3])), (q2, .inl (cI, 50, .inl (dP 50))), (q3, .inl (cI, 3, .inl r00))] ++ ws) _ := hP
        have hD : va_D A ([(a, .inr (1, [.ref q2, .ref q3])), (q2, .inl (cI, 50, .inl (dP 50))), (q3, .inl (cI, 3, .inl r00))] ++ ws) := hD
        exact W.vret hx hb hr (fun t ht hW => ⟨⟨(q2, q3), rfl, trivial, by rw [ht]; exact hP, by rw [hAe]; exact hD⟩, by rw [hAe]; exact hS.F ht⟩) hS.2.2 dX1_init_69
      · exact absurd (by decide) c_1
    | succ m9 ih =>
      intro j hj H locs hP hD hS ls hl
      refine lv_iload_n hx hb dX1_init_14 rfl (lv_at hl 0 rfl) ?_
      refine lv_bipush (v := 50) hx hb dX1_init_15 (by decide) ?_
      refine lv_icmp_ge (tgt := 39) hx hb dX1_init_17 (by decide) (fun c_1 => ?_) (fun c_1 => ?_)
      · exact absurd c_1 (fun q9 => absurd ((le_nI (a := 50) (by omega)).mp q9) (by omega))
      · refine lv_aload_n hx hb dX1_init_20 rfl (lv_at hl 1 rfl) ?_
        refine va_get (D := (dC, dI)) (ci := 1) (v := .ref q2) (C := RX1) (T := TX1) (N := 2) hx hb hts (by decide +kernel) hown hKK.1 hP 0 rfl rfl 0 (by decide) (hts (.fieldLink RX1 9 "WidowPennies$Tables" "deaths" "[I") (by decide +kernel)) (fun _ h9 => h9) rfl dX1_init_21 ?_
        refine lv_iload_n hx hb dX1_init_24 rfl (lv_at hl 0 rfl) ?_
        refine lv_bipush (v := 10) hx hb dX1_init_25 (by decide) ?_
        refine lv_bipush (v := 8) hx hb dX1_init_27 (by decide) ?_
        refine lv_iload_n hx hb dX1_init_29 rfl (lv_at hl 0 rfl) ?_
        refine lv_imul hx hb dX1_init_30 ?_
        rw [show (8 * (nI j) : Int32) = nI (8 * j) from pk_mul 8 j]
        refine lv_iadd hx hb dX1_init_31 ?_
        rw [show (10 + (nI (8 * j)) : Int32) = nI (10 + 8 * j) from nI_add 10 _]
        refine va_iast hx hb hKK.1 hP hD hS 1 0 rfl rfl (vp_in_nI (by omega) (by omega)) dX1_init_32 (fun H locs hP hD hS => ?_)
        rw [clamp_nI (show j < 2147483648 by omega), dP_put] at hP hD
        have hP : va_P (dC, dI) vwCl ([(a, .inr (1, [.ref q2, .null])), (q2, .inl (cI, 50, .inl (dP (j + 1))))] ++ ws) H := hP
        have hD : va_D A ([(a, .inr (1, [.ref q2, .null])), (q2, .inl (cI, 50, .inl (dP (j + 1))))] ++ ws) := hD
        refine lv_iinc (v := (nI (j + 1))) (lv' := [(1, .int (nI (j + 1))), (0, .ref a)]) hx hb dX1_init_33 hl (k := 0) rfl (nI_1 j) (by decide) rfl (fun ls hl => ?_)
        refine lv_goto (tgt := 14) hx hb dX1_init_36 (by decide) ?_
        exact ih (j + 1) (by omega) H locs hP hD hS ls (lv_sub hl [0, 1] rfl)
  refine lv_aload_n hx hb dX1_init_0 rfl (lv_at hl 0 rfl) ?_
  refine W.objInit hx hb hown (hts (.methodLink RX1 3 objectInit) (by decide +kernel)) (hts (.instanceMethod objectInit) (by decide +kernel)) (hts _ (List.mem_of_getElem? (i := 3) rfl)) rfl (by rw [hml]; exact hl.1) rfl dX1_init_1 (Nat.le_of_ble_eq_true rfl) (Nat.le_of_ble_eq_true rfl) ?_
  refine W.eq (g2 := F0 m 4 ls []) rfl ?_
  refine lv_aload_n hx hb dX1_init_4 rfl (lv_at hl 0 rfl) ?_
  refine lv_bipush (v := 50) hx hb dX1_init_5 (by decide) ?_
  refine va_newa (atype := .int) (ty := .int) (a0 := (50, .inl (fun _ => 0))) (N' := 50) hx hb (hts (.arrayClass .int) (by decide +kernel)) rfl hKK.1 hP hD hS hA (fun _ => rfl) (by decide) rfl (by decide) (Nat.le_of_ble_eq_true rfl) (Nat.le_of_ble_eq_true rfl) dX1_init_7 (fun q2 cA H hK2 hP hD hS => ?_)
  have hcA := cls_int hK2
  rw [hcA] at hP hD
  clear hK2 hcA
  have hP := va_P_perm (perm_tail ([(a, .inr (1, [.null, .null]))]) ws (q2, .inl (cI, 50, .inl (fun _ => 0)))) hP
  have hD := va_D_perm (perm_tail ([(a, .inr (1, [.null, .null]))]) ws (q2, .inl (cI, 50, .inl (fun _ => 0)))) hD
  have hP : va_P (dC, dI) vwCl ([(a, .inr (1, [.null, .null])), (q2, .inl (cI, 50, .inl (fun _ => 0)))] ++ ws) H := hP
  have hD : va_D A ([(a, .inr (1, [.null, .null])), (q2, .inl (cI, 50, .inl (fun _ => 0)))] ++ ws) := hD
  refine va_putF (D := (dC, dI)) (ci := 1) (v := .ref q2) (ty := (.array .int)) (C := RX1) (T := TX1) (N := 2) hx hb hts (by decide +kernel) tyX1 tyX1_ok nmX1 hown hKK.1 hP hD hS 0 rfl rfl 0 (by decide) (hts (.fieldLink RX1 9 "WidowPennies$Tables" "deaths" "[I") (by decide +kernel)) (fun _ h9 => h9) rfl hin rfl (by decide +kernel) rfl rfl (Nat.le_of_ble_eq_true rfl) dX1_init_9 (fun H locs hP hD hS => ?_)
  have hP : va_P (dC, dI) vwCl ([(a, .inr (1, [.ref q2, .null])), (q2, .inl (cI, 50, .inl (fun _ => 0)))] ++ ws) H := hP
  have hD : va_D A ([(a, .inr (1, [.ref q2, .null])), (q2, .inl (cI, 50, .inl (fun _ => 0)))] ++ ws) := hD
  refine lv_iconst (v := 0) hx hb dX1_init_12 (by decide) ?_
  refine lv_istore_n (lv' := [(1, .int 0), (0, .ref a)]) hx hb dX1_init_13 rfl hl (by decide) rfl (fun ls hl => ?_)
  rw [← dP_0] at hP hD
  exact key q2 50 0 (by omega) _ _ hP hD hS ls (lv_sub hl [0, 1] rfl)
set_option maxHeartbeats 4000000 in
set_option maxRecDepth 100000 in
theorem met_X2_init (l : Launch) (dC : Nat → ClassId) (dI : Nat → Nat → Nat) (cI cW : ClassId) (ws : va_W) (a : Nat) (sz : Nat) : Met l yX2_init wsX2_init ({ frames := 1, cells := 0, slots := 0, locals := 20 }) (Pre1 dC dI cI cW [.ref a] ([(a, .inr (2, row (fun _ => 0)))] ++ ws) sz) (QvU (S := Unit) dC dI ([(a, .inr (2, row (fun _ => 0)))] ++ ws) (fun _ => [(a, .inr (2, row (fun _ => 0)))] ++ ws) sz) 0 0 (va_A ([(a, .inr (2, row (fun _ => 0)))] ++ ws) sz) := by
  refine Met.ofW (cc := cX2_init) (maxL := 1) (ret := none) (by decide) rfl ?_
  intro p e s m args below meth c s₁ B hml hv
  obtain ⟨rfl, hsz, hP, hD0, hKK⟩ := hv
  subst hsz
  have hx := B.exec
  have hb := B.bytes
  have hr := B.returns
  have hts := atoms_spec (ws := wsX2_init) B.pre
  have hown : s.vm.findClass RX2 = some m.cls := findClass_of_methodNamed B.named
  have hlocks := B.notSynchronized
  have hin : meth.name = "<init>" := (name_of_methodNamed B.named B.method).1
  have hD := hD0.self (sz := s.heap.size)
  generalize hAe : va_A ([(a, .inr (2, row (fun _ => 0)))] ++ ws) s.heap.size = A at hD ⊢
  have hA : ∀ q : Nat, s.heap.size ≤ q → A q := fun q h => by rw [← hAe]; exact Or.inr h
  have hS : va_S A s.heap s.heap [] := va_S.rf
  have hl := lv_entry ([.ref a]) (n := 1) (Nat.le_of_ble_eq_true rfl)
  rw [lg_entry_eq]
  generalize (lg_sl ([.ref a]) ++ List.replicate (1 - (lg_sl ([.ref a])).length) Slot.unset).toArray = ls at hl ⊢
  have hl : lv_has ls 1 [(0, .ref a)] := hl
  refine lv_aload_n hx hb dX2_init_0 rfl (lv_at hl 0 rfl) ?_
  refine W.objInit hx hb hown (hts (.methodLink RX2 3 objectInit) (by decide +kernel)) (hts (.instanceMethod objectInit) (by decide +kernel)) (hts _ (List.mem_of_getElem? (i := 3) rfl)) rfl (by rw [hml]; exact hl.1) rfl dX2_init_1 (Nat.le_of_ble_eq_true rfl) (Nat.le_of_ble_eq_true rfl) ?_
  refine W.eq (g2 := F0 m 4 ls []) rfl ?_
  exact W.vret hx hb hr (fun t ht hW => ⟨⟨(), rfl, trivial, by rw [ht]; exact hP, by rw [hAe]; exact hD⟩, by rw [hAe]; exact hS.F ht⟩) hS.2.2 dX2_init_4
theorem wk_perm {α : Type} (p a : List α) (x : α) (ws : List α) : ([x] ++ (p ++ (a ++ ws))).Perm (p ++ ((a ++ [x]) ++ ws)) := by
  have h1 : (p ++ (a ++ (x :: ws))).Perm (x :: (p ++ (a ++ ws))) := by
    have h2 := (List.perm_middle (a := x) (l₁ := p ++ a) (l₂ := ws))
    rw [List.append_assoc, List.append_assoc] at h2
    exact h2
  rw [List.append_assoc]
  exact h1.symm
theorem wlk_last (Bf : Nat → Nat) (k w : Nat) : (wlk (fun i => if i = k + 2 then w else Bf i) (k + 1))[k]? = some (w, .inr (2, row (fun _ => 0))) := by
  rw [← wlk_s]
  have h := snoc_at (ws := wlk Bf k) (x := (w, .inr (2, row (fun _ => 0))))
  rw [wlk_len] at h
  exact h
theorem wk_at {x1 x2 : Nat × va_E} {L : va_W} (k w : Nat) (ws : va_W) (h : L[k]? = some (w, .inr (2, row (fun _ => 0)))) : ([x1, x2] ++ (L ++ ws))[k + 2]? = some (w, .inr (2, row (fun _ => 0))) := by
  have hl : k < L.length := (List.getElem?_eq_some_iff.mp h).1
  show (L ++ ws)[k]? = _
  rw [List.getElem?_append_left hl]
  exact h
theorem cell_objs {D : va_G} {cl : List vw_C} {ws : va_W} {H : Heap} {i a n : Nat} {cA : ClassId} {f g : Nat → Option Nat} (hP : va_P D cl ws H) (hi : ws[i]? = some (a, .inl (cA, n, .inr (.inr (.inr (.inr f)))))) (h : ∀ k, k < n → f k = g k) : va_P D cl (ws.set i (a, .inl (cA, n, .inr (.inr (.inr (.inr g)))))) H := by
  intro k q hk
  by_cases e : i = k
  · subst e
    rw [set_at hi] at hk
    cases hk
    have h1 : H[a]? = some (vp_cell cA (n, .inr (.inr (.inr (.inr f))))) := hP i _ hi
    show H[a]? = some (vp_cell cA (n, .inr (.inr (.inr (.inr g)))))
    have e9 : (fun j : Fin n => va_rf (f j.val)) = fun j : Fin n => va_rf (g j.val) := funext fun j => by rw [h j.val j.isLt]
    rw [h1]
    show some ({ cls := cA, slots := Array.ofFn (fun j : Fin n => va_rf (f j.val)), vm := .none } : Cell) = some ({ cls := cA, slots := Array.ofFn (fun j : Fin n => va_rf (g j.val)), vm := .none } : Cell)
    rw [e9]
  · rw [List.getElem?_set_ne e] at hk
    exact hP k q hk
set_option maxHeartbeats 4000000 in
set_option maxRecDepth 100000 in
theorem met_X0_init (l : Launch) (dC : Nat → ClassId) (dI : Nat → Nat → Nat) (cI cW : ClassId) (X : Nat → Nat) (ws : va_W) (a : Nat) (sz : Nat) : Met l yX0_init wsX0_init ({ frames := 2, cells := 11, slots := 80, locals := 40 }) (PreA dC dI cI cW [.ref a, .ref (X 1)] ([(a, .inr (0, [.null, .null, .int 0, .int 0, .int 0, .int 0, .int 0]))] ++ ws) sz) (QvU (S := Nat → Nat) dC dI ([(a, .inr (0, [.null, .null, .int 0, .int 0, .int 0, .int 0, .int 0]))] ++ ws) (fun u => bk cW X (fun k => if k = 0 then a else u k) 0 0 0 0 0 (fun _ _ => 0) ++ ws) sz) 11 80 (va_A ([(a, .inr (0, [.null, .null, .int 0, .int 0, .int 0, .int 0, .int 0]))] ++ ws) sz) := by
  refine Met.ofW (cc := cX0_init) (maxL := 3) (ret := none) (by decide) rfl ?_
  intro p e s m args below meth c s₁ B hml hv
  obtain ⟨rfl, hsz, hP, hD0, hKK, hAO⟩ := hv
  subst hsz
  have hx := B.exec
  have hb := B.bytes
  have hr := B.returns
  have hts := atoms_spec (ws := wsX0_init) B.pre
  have hown : s.vm.findClass RX0 = some m.cls := findClass_of_methodNamed B.named
  have hlocks := B.notSynchronized
  have hin : meth.name = "<init>" := (name_of_methodNamed B.named B.method).1
  have hD := hD0.self (sz := s.heap.size)
  generalize hAe : va_A ([(a, .inr (0, [.null, .null, .int 0, .int 0, .int 0, .int 0, .int 0]))] ++ ws) s.heap.size = A at hD ⊢
  have hA : ∀ q : Nat, s.heap.size ≤ q → A q := fun q h => by rw [← hAe]; exact Or.inr h
  have hS : va_S A s.heap s.heap [] := va_S.rf
  have hl := lv_entry ([.ref a, .ref (X 1)]) (n := 3) (Nat.le_of_ble_eq_true rfl)
  rw [lg_entry_eq]
  generalize (lg_sl ([.ref a, .ref (X 1)]) ++ List.replicate (3 - (lg_sl ([.ref a, .ref (X 1)])).length) Slot.unset).toArray = ls at hl ⊢
  have hl : lv_has ls 3 [(0, .ref a), (1, .ref (X 1))] := hl
  have key : ∀ (q1 m9 k : Nat), k + m9 = 10 → ∀ (Bf : Nat → Nat), Bf 1 = q1 → ∀ (H : Heap) (locs : List Loc), va_P (dC, dI) vwCl ([(a, .inr (0, [.ref (X 1), .ref q1, .int 0, .int 0, .int 0, .int 0, .int 0])), (q1, .inl (cW, 10, .inr (.inr (.inr (.inr (arrk Bf k))))))] ++ (wlk Bf k ++ ws)) H → va_D A ([(a, .inr (0, [.ref (X 1), .ref q1, .int 0, .int 0, .int 0, .int 0, .int 0])), (q1, .inl (cW, 10, .inr (.inr (.inr (.inr (arrk Bf k))))))] ++ (wlk Bf k ++ ws)) → va_S A s.heap H locs → ∀ ls : Array Slot, lv_has ls 3 [(2, .int (nI k)), (0, .ref a), (1, .ref (X 1))] → W p l e (headSpec wsX0_init ({ frames := 2, cells := 11, slots := 80, locals := 40 })).room s m (([.ref a, .ref (X 1)] : List Value).toArray) below meth c H locs (1 + k) (10 + 7 * k) (MQ below (QvU (S := Nat → Nat) dC dI ([(a, .inr (0, [.null, .null, .int 0, .int 0, .int 0, .int 0, .int 0]))] ++ ws) (fun u => bk cW X (fun k => if k = 0 then a else u k) 0 0 0 0 0 (fun _ _ => 0) ++ ws) s.heap.size) ([.ref a, .ref (X 1)] : List Value).toArray s 11 80 A) (F0 m 20 ls []) := by
    intro q1 m9
    induction m9 with
    | zero =>
      intro k hk Bf hB1 H locs hP hD hS ls hl
      have hk10 : k = 10 := by omega
      subst hk10
      refine lv_iload_n hx hb dX0_init_20 rfl (lv_at hl 0 rfl) ?_
      refine lv_bipush (v := 10) hx hb dX0_init_21 (by decide) ?_
      refine lv_icmp_ge (tgt := 45) hx hb dX0_init_23 (by decide) (fun c_1 => ?_) (fun c_1 => ?_)
      · subst hB1
        have hfn : arrk Bf 10 = arrk Bf 10 := rfl
        have hP := cell_objs (cA := cW) (g := fun k => some (Bf (k + 2))) (i := 1) hP rfl (fun k hk => by unfold arrk; rw [if_pos hk])
        have hD := va_D.set (e := .inl (cW, 10, .inr (.inr (.inr (.inr (fun k => some (Bf (k + 2)))))))) (p := 1) hD rfl
        have hP : va_P (dC, dI) vwCl (bk cW X (fun k => if k = 0 then a else Bf k) 0 0 0 0 0 (fun _ _ => 0) ++ ws) _ := hP
        have hD : va_D A (bk cW X (fun k => if k = 0 then a else Bf k) 0 0 0 0 0 (fun _ _ => 0) ++ ws) := hD
        exact W.vret hx hb hr (fun t ht hW => ⟨⟨Bf, rfl, trivial, by rw [ht]; exact hP, by rw [hAe]; exact hD⟩, by rw [hAe]; exact hS.F ht⟩) hS.2.2 dX0_init_45
      · exact absurd (by decide) c_1
    | succ m9 ih =>
      intro k hk Bf hB1 H locs hP hD hS ls hl
      refine lv_iload_n hx hb dX0_init_20 rfl (lv_at hl 0 rfl) ?_
      refine lv_bipush (v := 10) hx hb dX0_init_21 (by decide) ?_
      refine lv_icmp_ge (tgt := 45) hx hb dX0_init_23 (by decide) (fun c_1 => ?_) (fun c_1 => ?_)
      · exact absurd c_1 (fun q9 => absurd ((le_nI (a := 10) (by omega)).mp q9) (by omega))
      · refine lv_aload_n hx hb dX0_init_26 rfl (lv_at hl 1 rfl) ?_
        refine va_get (D := (dC, dI)) (ci := 0) (v := .ref q1) (C := RX0) (T := TX0) (N := 7) hx hb hts (by decide +kernel) hown hKK.1 hP 0 rfl rfl 1 (by decide) (hts (.fieldLink RX0 17 "WidowPennies$Book" "widows" "[LWidowPennies$Widow;") (by decide +kernel)) (fun _ h9 => h9) rfl dX0_init_27 ?_
        refine lv_iload_n hx hb dX0_init_30 rfl (lv_at hl 0 rfl) ?_
        refine va_new (ci := 2) (fs := row (fun _ => 0)) (C := RX2) (T := TX2) (N := 7) hx hb hts (by decide +kernel) tyX2 tyX2_ok hown (hts (.classLink RX0 15 RX2) (by decide +kernel)) (hts (.instantiable RX2 7) (by decide +kernel)) (hts (.initialized RX2) (by decide +kernel)) hKK.1 hP hD hS hA rfl (fun j hj => by rcases (show j = 0 ∨ j = 1 ∨ j = 2 ∨ j = 3 ∨ j = 4 ∨ j = 5 ∨ j = 6 by omega) with rfl | rfl | rfl | rfl | rfl | rfl | rfl <;> rfl) (show 1 + k + 1 ≤ 11 by omega) (show 10 + 7 * k + 7 ≤ 80 by omega) dX0_init_31 (fun w1 H hP hD hS => ?_)
        have hP : va_P (dC, dI) vwCl ([(w1, .inr (2, row (fun _ => 0)))] ++ ([(a, .inr (0, [.ref (X 1), .ref q1, .int 0, .int 0, .int 0, .int 0, .int 0])), (q1, .inl (cW, 10, .inr (.inr (.inr (.inr (arrk Bf k))))))] ++ (wlk Bf k ++ ws))) H := va_P_perm (perm_front ([(a, .inr (0, [.ref (X 1), .ref q1, .int 0, .int 0, .int 0, .int 0, .int 0])), (q1, .inl (cW, 10, .inr (.inr (.inr (.inr (arrk Bf k))))))] ++ (wlk Bf k ++ ws)) (w1, .inr (2, row (fun _ => 0)))) hP
        have hD : va_D A ([(w1, .inr (2, row (fun _ => 0)))] ++ ([(a, .inr (0, [.ref (X 1), .ref q1, .int 0, .int 0, .int 0, .int 0, .int 0])), (q1, .inl (cW, 10, .inr (.inr (.inr (.inr (arrk Bf k))))))] ++ (wlk Bf k ++ ws))) := va_D_perm (perm_front ([(a, .inr (0, [.ref (X 1), .ref q1, .int 0, .int 0, .int 0, .int 0, .int 0])), (q1, .inl (cW, 10, .inr (.inr (.inr (.inr (arrk Bf k))))))] ++ (wlk Bf k ++ ws)) (w1, .inr (2, row (fun _ => 0)))) hD
        refine lv_dup hx hb dX0_init_34 rfl ?_
        refine wr_u (runIN1 (As := []) (rest := [.ref w1, .int (nI k), .ref q1]) (host := RX3) ⟨hx, hb, hml, hown, hts⟩ (met_X2_init l dC dI cI cW ([(a, .inr (0, [.ref (X 1), .ref q1, .int 0, .int 0, .int 0, .int 0, .int 0])), (q1, .inl (cW, 10, .inr (.inr (.inr (.inr (arrk Bf k))))))] ++ (wlk Bf k ++ ws)) w1 _) ⟨va_cnB 0 hts gX0_init_X2_init_n21 rfl rfl rfl hKK.2.2 (hts (.initialized RX2) (by decide +kernel)) (by decide +kernel) ⟨Nat.le_of_ble_eq_true rfl, Nat.le_of_ble_eq_true rfl⟩, rfl, hts (.instanceMethod yX2_init) (by decide +kernel)⟩ hKK hP hD rfl hl.1 (Nat.le_of_ble_eq_true rfl) rfl dX0_init_35 ⟨(show 1 + k + 1 + 0 ≤ 11 by omega), (show 10 + 7 * k + 7 + 0 ≤ 80 by omega)⟩) hD hS hA (fun u9 H locs hP hD hS => ?_)
        have hP : va_P (dC, dI) vwCl ([(a, .inr (0, [.ref (X 1), .ref q1, .int 0, .int 0, .int 0, .int 0, .int 0])), (q1, .inl (cW, 10, .inr (.inr (.inr (.inr (arrk Bf k))))))] ++ (wlk (fun i => if i = k + 2 then w1 else Bf i) (k + 1) ++ ws)) H := by
          have h9 := va_P_perm (wk_perm ([(a, .inr (0, [.ref (X 1), .ref q1, .int 0, .int 0, .int 0, .int 0, .int 0])), (q1, .inl (cW, 10, .inr (.inr (.inr (.inr (arrk Bf k))))))]) (wlk Bf k) (w1, .inr (2, row (fun _ => 0))) ws) hP
          rw [wlk_s] at h9
          exact h9
        have hD : va_D A ([(a, .inr (0, [.ref (X 1), .ref q1, .int 0, .int 0, .int 0, .int 0, .int 0])), (q1, .inl (cW, 10, .inr (.inr (.inr (.inr (arrk Bf k))))))] ++ (wlk (fun i => if i = k + 2 then w1 else Bf i) (k + 1) ++ ws)) := by
          have h9 := va_D_perm (wk_perm ([(a, .inr (0, [.ref (X 1), .ref q1, .int 0, .int 0, .int 0, .int 0, .int 0])), (q1, .inl (cW, 10, .inr (.inr (.inr (.inr (arrk Bf k))))))]) (wlk Bf k) (w1, .inr (2, row (fun _ => 0))) ws) hD
          rw [wlk_s] at h9
          exact h9
        refine va_astq hx hb hKK.1 hP hD hS 1 1 (k + 2) 2 rfl rfl (wk_at k w1 ws (wlk_last Bf k w1)) rfl (vp_in_nI (by omega) (by omega)) dX0_init_38 (fun H locs hP hD hS => ?_)
        rw [clamp_nI (show k < 2147483648 by omega), arrk_s] at hP hD
        have hP : va_P (dC, dI) vwCl ([(a, .inr (0, [.ref (X 1), .ref q1, .int 0, .int 0, .int 0, .int 0, .int 0])), (q1, .inl (cW, 10, .inr (.inr (.inr (.inr (arrk (fun i => if i = k + 2 then w1 else Bf i) (k + 1)))))))] ++ (wlk (fun i => if i = k + 2 then w1 else Bf i) (k + 1) ++ ws)) H := hP
        have hD : va_D A ([(a, .inr (0, [.ref (X 1), .ref q1, .int 0, .int 0, .int 0, .int 0, .int 0])), (q1, .inl (cW, 10, .inr (.inr (.inr (.inr (arrk (fun i => if i = k + 2 then w1 else Bf i) (k + 1)))))))] ++ (wlk (fun i => if i = k + 2 then w1 else Bf i) (k + 1) ++ ws)) := hD
        refine lv_iinc (v := (nI (k + 1))) (lv' := [(2, .int (nI (k + 1))), (0, .ref a), (1, .ref (X 1))]) hx hb dX0_init_39 hl (k := 0) rfl (nI_1 k) (by decide) rfl (fun ls hl => ?_)
        refine lv_goto (tgt := 20) hx hb dX0_init_42 (by decide) ?_
        exact ih (k + 1) (by omega) (fun i => if i = k + 2 then w1 else Bf i) (by show (if 1 = k + 2 then w1 else Bf 1) = q1; rw [if_neg (by omega)]; exact hB1) H locs hP hD hS ls (lv_sub hl [0, 1, 2] rfl)
  refine lv_aload_n hx hb dX0_init_0 rfl (lv_at hl 0 rfl) ?_
  refine W.objInit hx hb hown (hts (.methodLink RX0 3 objectInit) (by decide +kernel)) (hts (.instanceMethod objectInit) (by decide +kernel)) (hts _ (List.mem_of_getElem? (i := 3) rfl)) rfl (by rw [hml]; exact hl.1) rfl dX0_init_1 (Nat.le_of_ble_eq_true rfl) (Nat.le_of_ble_eq_true rfl) ?_
  refine W.eq (g2 := F0 m 4 ls []) rfl ?_
  refine lv_aload_n hx hb dX0_init_4 rfl (lv_at hl 0 rfl) ?_
  refine lv_aload_n hx hb dX0_init_5 rfl (lv_at hl 1 rfl) ?_
  refine va_putF (D := (dC, dI)) (ci := 0) (v := .ref (X 1)) (ty := (.object "WidowPennies$Tables")) (C := RX0) (T := TX0) (N := 7) hx hb hts (by decide +kernel) tyX0 tyX0_ok nmX0 hown hKK.1 hP hD hS 0 rfl rfl 0 (by decide) (hts (.fieldLink RX0 9 "WidowPennies$Book" "tables" "LWidowPennies$Tables;") (by decide +kernel)) (fun _ h9 => h9) rfl hin rfl (by decide +kernel) rfl rfl (Nat.le_of_ble_eq_true rfl) dX0_init_6 (fun H locs hP hD hS => ?_)
  have hP : va_P (dC, dI) vwCl ([(a, .inr (0, [.ref (X 1), .null, .int 0, .int 0, .int 0, .int 0, .int 0]))] ++ ws) H := hP
  have hD : va_D A ([(a, .inr (0, [.ref (X 1), .null, .int 0, .int 0, .int 0, .int 0, .int 0]))] ++ ws) := hD
  refine lv_aload_n hx hb dX0_init_9 rfl (lv_at hl 0 rfl) ?_
  refine lv_bipush (v := 10) hx hb dX0_init_10 (by decide) ?_
  refine va_newq (N' := 10) hx hb hown (hts (.classLink RX0 15 RX2) (by decide +kernel)) hAO hKK.1 hP hD hS hA (by decide) rfl (by decide) (Nat.le_of_ble_eq_true rfl) (Nat.le_of_ble_eq_true rfl) dX0_init_12 (fun q1 cA H hK2 hP hD hS => ?_)
  have hcA := cls_obj hK2
  rw [hcA] at hP hD
  clear hK2 hcA
  have hP := va_P_perm (perm_tail ([(a, .inr (0, [.ref (X 1), .null, .int 0, .int 0, .int 0, .int 0, .int 0]))]) ws (q1, .inl (cW, 10, .inr (.inr (.inr (.inr (fun _ => none))))))) hP
  have hD := va_D_perm (perm_tail ([(a, .inr (0, [.ref (X 1), .null, .int 0, .int 0, .int 0, .int 0, .int 0]))]) ws (q1, .inl (cW, 10, .inr (.inr (.inr (.inr (fun _ => none))))))) hD
  have hP : va_P (dC, dI) vwCl ([(a, .inr (0, [.ref (X 1), .null, .int 0, .int 0, .int 0, .int 0, .int 0])), (q1, .inl (cW, 10, .inr (.inr (.inr (.inr (fun _ => none))))))] ++ ws) H := hP
  have hD : va_D A ([(a, .inr (0, [.ref (X 1), .null, .int 0, .int 0, .int 0, .int 0, .int 0])), (q1, .inl (cW, 10, .inr (.inr (.inr (.inr (fun _ => none))))))] ++ ws) := hD
  refine va_putF (D := (dC, dI)) (ci := 0) (v := .ref q1) (ty := (.array (.object "WidowPennies$Widow"))) (C := RX0) (T := TX0) (N := 7) hx hb hts (by decide +kernel) tyX0 tyX0_ok nmX0 hown hKK.1 hP hD hS 0 rfl rfl 1 (by decide) (hts (.fieldLink RX0 17 "WidowPennies$Book" "widows" "[LWidowPennies$Widow;") (by decide +kernel)) (fun _ h9 => h9) rfl hin rfl (by decide +kernel) rfl rfl (Nat.le_of_ble_eq_true rfl) dX0_init_15 (fun H locs hP hD hS => ?_)
  have hP : va_P (dC, dI) vwCl ([(a, .inr (0, [.ref (X 1), .ref q1, .int 0, .int 0, .int 0, .int 0, .int 0])), (q1, .inl (cW, 10, .inr (.inr (.inr (.inr (fun _ => none))))))] ++ ws) H := hP
  have hD : va_D A ([(a, .inr (0, [.ref (X 1), .ref q1, .int 0, .int 0, .int 0, .int 0, .int 0])), (q1, .inl (cW, 10, .inr (.inr (.inr (.inr (fun _ => none))))))] ++ ws) := hD
  refine lv_iconst (v := 0) hx hb dX0_init_18 (by decide) ?_
  refine lv_istore_n (lv' := [(2, .int 0), (0, .ref a), (1, .ref (X 1))]) hx hb dX0_init_19 rfl hl (by decide) rfl (fun ls hl => ?_)
  have hB0 : ∀ i : Nat, arrk (fun _ => q1) 0 = fun _ => none := fun _ => arrk_0 _
  rw [← hB0 0] at hP hD
  exact key q1 10 0 (by omega) (fun _ => q1) rfl _ _ hP hD hS ls (lv_sub hl [0, 1, 2] rfl)
theorem cons_over {x y : Nat × va_E} {R : va_W} {k : Nat} (h : R[k]? = some y) : ([x] ++ R)[k + 1]? = some y := h
theorem bk_over {cW : ClassId} {X B : Nat → Nat} {n : Nat} {ch pd pr yr : Int32} {W : Nat → Nat → Int32} {R : va_W} {k : Nat} {x : Nat × va_E} (h : R[k]? = some x) : (bk cW X B n ch pd pr yr W ++ R)[12 + k]? = some x := by
  have hl : (bk cW X B n ch pd pr yr W).length = 12 := by simp [wl_len]
  rw [List.getElem?_append_right (by omega), hl, show 12 + k - 12 = k by omega]
  exact h
theorem bk_oset {cW : ClassId} {X B : Nat → Nat} {n : Nat} {ch pd pr yr : Int32} {W : Nat → Nat → Int32} {R : va_W} {k : Nat} {x : Nat × va_E} : List.set (bk cW X B n ch pd pr yr W ++ R) (12 + k) x = bk cW X B n ch pd pr yr W ++ R.set k x := by
  have hl : (bk cW X B n ch pd pr yr W).length = 12 := by simp [wl_len]
  rw [List.set_append_right _ _ (by omega), hl, show 12 + k - 12 = k by omega]
theorem perm_4 {α : Type} (x y t o : List α) : (x ++ (y ++ (t ++ o))).Perm (t ++ (y ++ (x ++ o))) := by
  have h1 : (x ++ (y ++ (t ++ o))).Perm (y ++ (t ++ (x ++ o))) := by
    have h : ((x ++ (y ++ t)) ++ o).Perm (((y ++ t) ++ x) ++ o) := List.Perm.append_right o List.perm_append_comm
    simpa [List.append_assoc] using h
  have h2 : (y ++ (t ++ (x ++ o))).Perm (t ++ (y ++ (x ++ o))) := by
    have h : ((y ++ t) ++ (x ++ o)).Perm ((t ++ y) ++ (x ++ o)) := List.Perm.append_right (x ++ o) List.perm_append_comm
    simpa [List.append_assoc] using h
  exact h1.trans h2
set_option maxHeartbeats 4000000 in
set_option maxRecDepth 100000 in
theorem met_X3_init (l : Launch) (dC : Nat → ClassId) (dI : Nat → Nat → Nat) (cI cW : ClassId) (ws : va_W) (a : Nat) (sz : Nat) : Met l yX3_init wsX3_init ({ frames := 3, cells := 27, slots := 229, locals := 62 }) (PreA dC dI cI cW [.ref a] ([(a, .inr (3, [.null, .null, .null]))] ++ ws) sz) (QvU (S := (Nat → Nat) × (Nat → Nat) × (Nat → Nat)) dC dI ([(a, .inr (3, [.null, .null, .null]))] ++ ws) (fun u => tab cI (fun k => if k = 0 then a else u.1 k) (dP 50) r00 ++ (bk cW (fun k => if k = 0 then a else u.1 k) (u.2.1) 0 0 0 0 0 (fun _ _ => 0) ++ (bk cW (fun k => if k = 0 then a else u.1 k) (u.2.2) 0 0 0 0 0 (fun _ _ => 0) ++ (obj (fun k => if k = 0 then a else u.1 k) u.2.1 u.2.2 :: ws)))) sz) 27 229 (va_A ([(a, .inr (3, [.null, .null, .null]))] ++ ws) sz) := by
  refine Met.ofW (cc := cX3_init) (maxL := 1) (ret := none) (by decide) rfl ?_
  intro p e s m args below meth c s₁ B hml hv
  obtain ⟨rfl, hsz, hP, hD0, hKK, hAO⟩ := hv
  subst hsz
  have hx := B.exec
  have hb := B.bytes
  have hr := B.returns
  have hts := atoms_spec (ws := wsX3_init) B.pre
  have hown : s.vm.findClass RX3 = some m.cls := findClass_of_methodNamed B.named
  have hlocks := B.notSynchronized
  have hin : meth.name = "<init>" := (name_of_methodNamed B.named B.method).1
  have hD := hD0.self (sz := s.heap.size)
  generalize hAe : va_A ([(a, .inr (3, [.null, .null, .null]))] ++ ws) s.heap.size = A at hD ⊢
  have hA : ∀ q : Nat, s.heap.size ≤ q → A q := fun q h => by rw [← hAe]; exact Or.inr h
  have hS : va_S A s.heap s.heap [] := va_S.rf
  have hl := lv_entry ([.ref a]) (n := 1) (Nat.le_of_ble_eq_true rfl)
  rw [lg_entry_eq]
  generalize (lg_sl ([.ref a]) ++ List.replicate (1 - (lg_sl ([.ref a])).length) Slot.unset).toArray = ls at hl ⊢
  have hl : lv_has ls 1 [(0, .ref a)] := hl
  refine lv_aload_n hx hb dX3_init_0 rfl (lv_at hl 0 rfl) ?_
  refine W.objInit hx hb hown (hts (.methodLink RX3 3 objectInit) (by decide +kernel)) (hts (.instanceMethod objectInit) (by decide +kernel)) (hts _ (List.mem_of_getElem? (i := 3) rfl)) rfl (by rw [hml]; exact hl.1) rfl dX3_init_1 (Nat.le_of_ble_eq_true rfl) (Nat.le_of_ble_eq_true rfl) ?_
  refine W.eq (g2 := F0 m 4 ls []) rfl ?_
  refine lv_aload_n hx hb dX3_init_4 rfl (lv_at hl 0 rfl) ?_
  refine va_new (ci := 1) (fs := [.null, .null]) (C := RX1) (T := TX1) (N := 2) hx hb hts (by decide +kernel) tyX1 tyX1_ok hown (hts (.classLink RX3 9 RX1) (by decide +kernel)) (hts (.instantiable RX1 2) (by decide +kernel)) (hts (.initialized RX1) (by decide +kernel)) hKK.1 hP hD hS hA rfl (fun j hj => by rcases (show j = 0 ∨ j = 1 by omega) with rfl | rfl <;> rfl) (Nat.le_of_ble_eq_true rfl) (Nat.le_of_ble_eq_true rfl) dX3_init_5 (fun t1 H hP hD hS => ?_)
  have hP : va_P (dC, dI) vwCl ([(t1, .inr (1, [.null, .null]))] ++ ([(a, .inr (3, [.null, .null, .null]))] ++ ws)) H := va_P_perm (perm_front ([(a, .inr (3, [.null, .null, .null]))] ++ ws) (t1, .inr (1, [.null, .null]))) hP
  have hD : va_D A ([(t1, .inr (1, [.null, .null]))] ++ ([(a, .inr (3, [.null, .null, .null]))] ++ ws)) := va_D_perm (perm_front ([(a, .inr (3, [.null, .null, .null]))] ++ ws) (t1, .inr (1, [.null, .null]))) hD
  refine lv_dup hx hb dX3_init_8 rfl ?_
  refine wr_u (runI1 (As := []) (rest := [.ref t1, .ref a]) ⟨hx, hb, hml, hown, hts⟩ (met_X1_init l dC dI cI cW ([(a, .inr (3, [.null, .null, .null]))] ++ ws) t1 _) (cwI 0 hts gX3_init_X1_init rfl rfl rfl (hts (.initialized RX1) (by decide +kernel)) (hts (.methodLink RX3 11 yX1_init) (by decide +kernel)) (hts (.instanceMethod yX1_init) (by decide +kernel)) rfl (by decide +kernel) ⟨Nat.le_of_ble_eq_true rfl, Nat.le_of_ble_eq_true rfl⟩) hKK hP hD rfl hl.1 (Nat.le_of_ble_eq_true rfl) rfl dX3_init_9 ⟨Nat.le_of_ble_eq_true rfl, Nat.le_of_ble_eq_true rfl⟩) hD hS hA (fun u1 H locs hP hD hS => ?_)
  obtain ⟨X9, hX9⟩ : ∃ X9 : Nat → Nat, X9 = fun k => if k = 0 then a else if k = 1 then t1 else if k = 2 then u1.1 else u1.2 := ⟨_, rfl⟩
  have e0 : a = X9 0 := by rw [hX9]; rfl
  have e1 : t1 = X9 1 := by rw [hX9]; rfl
  have e2 : u1.1 = X9 2 := by rw [hX9]; rfl
  have e3 : u1.2 = X9 3 := by rw [hX9]; rfl
  have hP : va_P (dC, dI) vwCl (tab cI X9 (dP 50) r00 ++ ([(a, .inr (3, [.null, .null, .null]))] ++ ws)) H := by rw [e1, e2, e3] at hP; exact hP
  have hD : va_D A (tab cI X9 (dP 50) r00 ++ ([(a, .inr (3, [.null, .null, .null]))] ++ ws)) := by rw [e1, e2, e3] at hD; exact hD
  rw [e1]
  refine va_putF (D := (dC, dI)) (ci := 3) (v := .ref (X9 1)) (ty := (.object "WidowPennies$Tables")) (C := RX3) (T := TX3) (N := 3) hx hb hts (by decide +kernel) tyX3 tyX3_ok nmX3 hown hKK.1 hP hD hS 3 rfl rfl 0 (by decide) (hts (.fieldLink RX3 12 "WidowPennies" "tables" "LWidowPennies$Tables;") (by decide +kernel)) (fun _ h9 => h9) rfl hin rfl (by decide +kernel) rfl rfl (Nat.le_of_ble_eq_true rfl) dX3_init_12 (fun H locs hP hD hS => ?_)
  have hP : va_P (dC, dI) vwCl (tab cI X9 (dP 50) r00 ++ ((a, .inr (3, [.ref (X9 1), .null, .null])) :: ws)) H := hP
  have hD : va_D A (tab cI X9 (dP 50) r00 ++ ((a, .inr (3, [.ref (X9 1), .null, .null])) :: ws)) := hD
  refine lv_aload_n hx hb dX3_init_15 rfl (lv_at hl 0 rfl) ?_
  refine va_new (ci := 0) (fs := [.null, .null, .int 0, .int 0, .int 0, .int 0, .int 0]) (C := RX0) (T := TX0) (N := 7) hx hb hts (by decide +kernel) tyX0 tyX0_ok hown (hts (.classLink RX3 16 RX0) (by decide +kernel)) (hts (.instantiable RX0 7) (by decide +kernel)) (hts (.initialized RX0) (by decide +kernel)) hKK.1 hP hD hS hA rfl (fun j hj => by rcases (show j = 0 ∨ j = 1 ∨ j = 2 ∨ j = 3 ∨ j = 4 ∨ j = 5 ∨ j = 6 by omega) with rfl | rfl | rfl | rfl | rfl | rfl | rfl <;> rfl) (Nat.le_of_ble_eq_true rfl) (Nat.le_of_ble_eq_true rfl) dX3_init_16 (fun b1 H hP hD hS => ?_)
  have hP : va_P (dC, dI) vwCl ([(b1, .inr (0, [.null, .null, .int 0, .int 0, .int 0, .int 0, .int 0]))] ++ (tab cI X9 (dP 50) r00 ++ ((a, .inr (3, [.ref (X9 1), .null, .null])) :: ws))) H := va_P_perm (perm_front (tab cI X9 (dP 50) r00 ++ ((a, .inr (3, [.ref (X9 1), .null, .null])) :: ws)) (b1, .inr (0, [.null, .null, .int 0, .int 0, .int 0, .int 0, .int 0]))) hP
  have hD : va_D A ([(b1, .inr (0, [.null, .null, .int 0, .int 0, .int 0, .int 0, .int 0]))] ++ (tab cI X9 (dP 50) r00 ++ ((a, .inr (3, [.ref (X9 1), .null, .null])) :: ws))) := va_D_perm (perm_front (tab cI X9 (dP 50) r00 ++ ((a, .inr (3, [.ref (X9 1), .null, .null])) :: ws)) (b1, .inr (0, [.null, .null, .int 0, .int 0, .int 0, .int 0, .int 0]))) hD
  refine lv_dup hx hb dX3_init_19 rfl ?_
  refine lv_aload_n hx hb dX3_init_20 rfl (lv_at hl 0 rfl) ?_
  refine va_get (D := (dC, dI)) (ci := 3) (v := .ref (X9 1)) (C := RX3) (T := TX3) (N := 3) hx hb hts (by decide +kernel) hown hKK.1 hP 4 rfl rfl 0 (by decide) (hts (.fieldLink RX3 12 "WidowPennies" "tables" "LWidowPennies$Tables;") (by decide +kernel)) (fun _ h9 => h9) rfl dX3_init_21 ?_
  refine wr_u (runI1A (As := [.ref (X9 1)]) (rest := [.ref b1, .ref a]) ⟨hx, hb, hml, hown, hts⟩ (met_X0_init l dC dI cI cW X9 (tab cI X9 (dP 50) r00 ++ ((a, .inr (3, [.ref (X9 1), .null, .null])) :: ws)) b1 _) (cwI 1 hts gX3_init_X0_init rfl rfl rfl (hts (.initialized RX0) (by decide +kernel)) (hts (.methodLink RX3 18 yX0_init) (by decide +kernel)) (hts (.instanceMethod yX0_init) (by decide +kernel)) rfl (by decide +kernel) ⟨Nat.le_of_ble_eq_true rfl, Nat.le_of_ble_eq_true rfl⟩) hKK hAO hP hD rfl hl.1 (Nat.le_of_ble_eq_true rfl) rfl dX3_init_24 ⟨Nat.le_of_ble_eq_true rfl, Nat.le_of_ble_eq_true rfl⟩) hD hS hA (fun u2 H locs hP hD hS => ?_)
  have hP : va_P (dC, dI) vwCl (bk cW X9 (fun k => if k = 0 then b1 else u2 k) 0 0 0 0 0 (fun _ _ => 0) ++ (tab cI X9 (dP 50) r00 ++ ((a, .inr (3, [.ref (X9 1), .null, .null])) :: ws))) H := hP
  have hD : va_D A (bk cW X9 (fun k => if k = 0 then b1 else u2 k) 0 0 0 0 0 (fun _ _ => 0) ++ (tab cI X9 (dP 50) r00 ++ ((a, .inr (3, [.ref (X9 1), .null, .null])) :: ws))) := hD
  refine va_putF (D := (dC, dI)) (ci := 3) (v := .ref b1) (ty := (.object "WidowPennies$Book")) (C := RX3) (T := TX3) (N := 3) hx hb hts (by decide +kernel) tyX3 tyX3_ok nmX3 hown hKK.1 hP hD hS (12 + 3) (bk_over rfl) rfl 1 (by decide) (hts (.fieldLink RX3 21 "WidowPennies" "book" "LWidowPennies$Book;") (by decide +kernel)) (fun _ h9 => h9) rfl hin rfl (by decide +kernel) rfl rfl (Nat.le_of_ble_eq_true rfl) dX3_init_27 (fun H locs hP hD hS => ?_)
  rw [bk_oset] at hP hD
  have hP : va_P (dC, dI) vwCl (bk cW X9 (fun k => if k = 0 then b1 else u2 k) 0 0 0 0 0 (fun _ _ => 0) ++ (tab cI X9 (dP 50) r00 ++ ((a, .inr (3, [.ref (X9 1), .ref b1, .null])) :: ws))) H := hP
  have hD : va_D A (bk cW X9 (fun k => if k = 0 then b1 else u2 k) 0 0 0 0 0 (fun _ _ => 0) ++ (tab cI X9 (dP 50) r00 ++ ((a, .inr (3, [.ref (X9 1), .ref b1, .null])) :: ws))) := hD
  refine lv_aload_n hx hb dX3_init_30 rfl (lv_at hl 0 rfl) ?_
  refine va_new (ci := 0) (fs := [.null, .null, .int 0, .int 0, .int 0, .int 0, .int 0]) (C := RX0) (T := TX0) (N := 7) hx hb hts (by decide +kernel) tyX0 tyX0_ok hown (hts (.classLink RX3 16 RX0) (by decide +kernel)) (hts (.instantiable RX0 7) (by decide +kernel)) (hts (.initialized RX0) (by decide +kernel)) hKK.1 hP hD hS hA rfl (fun j hj => by rcases (show j = 0 ∨ j = 1 ∨ j = 2 ∨ j = 3 ∨ j = 4 ∨ j = 5 ∨ j = 6 by omega) with rfl | rfl | rfl | rfl | rfl | rfl | rfl <;> rfl) (Nat.le_of_ble_eq_true rfl) (Nat.le_of_ble_eq_true rfl) dX3_init_31 (fun b2 H hP hD hS => ?_)
  have hP : va_P (dC, dI) vwCl ([(b2, .inr (0, [.null, .null, .int 0, .int 0, .int 0, .int 0, .int 0]))] ++ (bk cW X9 (fun k => if k = 0 then b1 else u2 k) 0 0 0 0 0 (fun _ _ => 0) ++ (tab cI X9 (dP 50) r00 ++ ((a, .inr (3, [.ref (X9 1), .ref b1, .null])) :: ws)))) H := va_P_perm (perm_front (bk cW X9 (fun k => if k = 0 then b1 else u2 k) 0 0 0 0 0 (fun _ _ => 0) ++ (tab cI X9 (dP 50) r00 ++ ((a, .inr (3, [.ref (X9 1), .ref b1, .null])) :: ws))) (b2, .inr (0, [.null, .null, .int 0, .int 0, .int 0, .int 0, .int 0]))) hP
  have hD : va_D A ([(b2, .inr (0, [.null, .null, .int 0, .int 0, .int 0, .int 0, .int 0]))] ++ (bk cW X9 (fun k => if k = 0 then b1 else u2 k) 0 0 0 0 0 (fun _ _ => 0) ++ (tab cI X9 (dP 50) r00 ++ ((a, .inr (3, [.ref (X9 1), .ref b1, .null])) :: ws)))) := va_D_perm (perm_front (bk cW X9 (fun k => if k = 0 then b1 else u2 k) 0 0 0 0 0 (fun _ _ => 0) ++ (tab cI X9 (dP 50) r00 ++ ((a, .inr (3, [.ref (X9 1), .ref b1, .null])) :: ws))) (b2, .inr (0, [.null, .null, .int 0, .int 0, .int 0, .int 0, .int 0]))) hD
  refine lv_dup hx hb dX3_init_34 rfl ?_
  refine lv_aload_n hx hb dX3_init_35 rfl (lv_at hl 0 rfl) ?_
  refine va_get (D := (dC, dI)) (ci := 3) (v := .ref (X9 1)) (C := RX3) (T := TX3) (N := 3) hx hb hts (by decide +kernel) hown hKK.1 hP (12 + 3 + 1) (cons_over (bk_over rfl)) rfl 0 (by decide) (hts (.fieldLink RX3 12 "WidowPennies" "tables" "LWidowPennies$Tables;") (by decide +kernel)) (fun _ h9 => h9) rfl dX3_init_36 ?_
  refine wr_u (runI1A (As := [.ref (X9 1)]) (rest := [.ref b2, .ref a]) ⟨hx, hb, hml, hown, hts⟩ (met_X0_init l dC dI cI cW X9 (bk cW X9 (fun k => if k = 0 then b1 else u2 k) 0 0 0 0 0 (fun _ _ => 0) ++ (tab cI X9 (dP 50) r00 ++ ((a, .inr (3, [.ref (X9 1), .ref b1, .null])) :: ws))) b2 _) (cwI 1 hts gX3_init_X0_init rfl rfl rfl (hts (.initialized RX0) (by decide +kernel)) (hts (.methodLink RX3 18 yX0_init) (by decide +kernel)) (hts (.instanceMethod yX0_init) (by decide +kernel)) rfl (by decide +kernel) ⟨Nat.le_of_ble_eq_true rfl, Nat.le_of_ble_eq_true rfl⟩) hKK hAO hP hD rfl hl.1 (Nat.le_of_ble_eq_true rfl) rfl dX3_init_39 ⟨Nat.le_of_ble_eq_true rfl, Nat.le_of_ble_eq_true rfl⟩) hD hS hA (fun u3 H locs hP hD hS => ?_)
  have hP : va_P (dC, dI) vwCl (bk cW X9 (fun k => if k = 0 then b2 else u3 k) 0 0 0 0 0 (fun _ _ => 0) ++ (bk cW X9 (fun k => if k = 0 then b1 else u2 k) 0 0 0 0 0 (fun _ _ => 0) ++ (tab cI X9 (dP 50) r00 ++ ((a, .inr (3, [.ref (X9 1), .ref b1, .null])) :: ws)))) H := hP
  have hD : va_D A (bk cW X9 (fun k => if k = 0 then b2 else u3 k) 0 0 0 0 0 (fun _ _ => 0) ++ (bk cW X9 (fun k => if k = 0 then b1 else u2 k) 0 0 0 0 0 (fun _ _ => 0) ++ (tab cI X9 (dP 50) r00 ++ ((a, .inr (3, [.ref (X9 1), .ref b1, .null])) :: ws)))) := hD
  refine va_putF (D := (dC, dI)) (ci := 3) (v := .ref b2) (ty := (.object "WidowPennies$Book")) (C := RX3) (T := TX3) (N := 3) hx hb hts (by decide +kernel) tyX3 tyX3_ok nmX3 hown hKK.1 hP hD hS (12 + (12 + 3)) (bk_over (bk_over rfl)) rfl 2 (by decide) (hts (.fieldLink RX3 25 "WidowPennies" "trial" "LWidowPennies$Book;") (by decide +kernel)) (fun _ h9 => h9) rfl hin rfl (by decide +kernel) rfl rfl (Nat.le_of_ble_eq_true rfl) dX3_init_42 (fun H locs hP hD hS => ?_)
  rw [bk_oset, bk_oset] at hP hD
  have hP : va_P (dC, dI) vwCl (bk cW X9 (fun k => if k = 0 then b2 else u3 k) 0 0 0 0 0 (fun _ _ => 0) ++ (bk cW X9 (fun k => if k = 0 then b1 else u2 k) 0 0 0 0 0 (fun _ _ => 0) ++ (tab cI X9 (dP 50) r00 ++ ((a, .inr (3, [.ref (X9 1), .ref b1, .ref b2])) :: ws)))) H := hP
  have hD : va_D A (bk cW X9 (fun k => if k = 0 then b2 else u3 k) 0 0 0 0 0 (fun _ _ => 0) ++ (bk cW X9 (fun k => if k = 0 then b1 else u2 k) 0 0 0 0 0 (fun _ _ => 0) ++ (tab cI X9 (dP 50) r00 ++ ((a, .inr (3, [.ref (X9 1), .ref b1, .ref b2])) :: ws)))) := hD
  have hX99 : (fun k => if k = 0 then a else X9 k) = X9 := by
    funext k
    by_cases h : k = 0
    · subst h; rw [if_pos rfl]; exact e0
    · rw [if_neg h]
  have hP := va_P_perm (perm_4 (bk cW X9 (fun k => if k = 0 then b2 else u3 k) 0 0 0 0 0 (fun _ _ => 0)) (bk cW X9 (fun k => if k = 0 then b1 else u2 k) 0 0 0 0 0 (fun _ _ => 0)) (tab cI X9 (dP 50) r00) ((a, .inr (3, [.ref (X9 1), .ref b1, .ref b2])) :: ws)) hP
  have hD := va_D_perm (perm_4 (bk cW X9 (fun k => if k = 0 then b2 else u3 k) 0 0 0 0 0 (fun _ _ => 0)) (bk cW X9 (fun k => if k = 0 then b1 else u2 k) 0 0 0 0 0 (fun _ _ => 0)) (tab cI X9 (dP 50) r00) ((a, .inr (3, [.ref (X9 1), .ref b1, .ref b2])) :: ws)) hD
  have hP : va_P (dC, dI) vwCl (tab cI X9 (dP 50) r00 ++ (bk cW X9 (fun k => if k = 0 then b1 else u2 k) 0 0 0 0 0 (fun _ _ => 0) ++ (bk cW X9 (fun k => if k = 0 then b2 else u3 k) 0 0 0 0 0 (fun _ _ => 0) ++ (obj X9 (fun k => if k = 0 then b1 else u2 k) (fun k => if k = 0 then b2 else u3 k) :: ws)))) H := by rw [e0] at hP; exact hP
  have hD : va_D A (tab cI X9 (dP 50) r00 ++ (bk cW X9 (fun k => if k = 0 then b1 else u2 k) 0 0 0 0 0 (fun _ _ => 0) ++ (bk cW X9 (fun k => if k = 0 then b2 else u3 k) 0 0 0 0 0 (fun _ _ => 0) ++ (obj X9 (fun k => if k = 0 then b1 else u2 k) (fun k => if k = 0 then b2 else u3 k) :: ws)))) := by rw [e0] at hD; exact hD
  exact W.vret hx hb hr (fun t ht hW => ⟨⟨(X9, (fun k => if k = 0 then b1 else u2 k), (fun k => if k = 0 then b2 else u3 k)), rfl, trivial, by rw [ht]; dsimp only; rw [hX99]; exact hP, by rw [hAe]; dsimp only; rw [hX99]; exact hD⟩, by rw [hAe]; exact hS.F ht⟩) hS.2.2 dX3_init_45
