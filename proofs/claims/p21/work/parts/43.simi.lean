set_option maxHeartbeats 4000000 in
set_option maxRecDepth 100000 in
theorem met_X5_init (l : Launch) (dC : Nat → ClassId) (dI : Nat → Nat → Nat) (cI cW : ClassId) (ws : va_W) (a : Nat) (sz : Nat) : Met l yX5_init wsX5_init ({ frames := 1, cells := 0, slots := 0, locals := 20 }) (Pre1 dC dI cI cW [.ref a] ([(a, .inr (5, row (fun _ => 0)))] ++ ws) sz) (QvU (S := Unit) dC dI ([(a, .inr (5, row (fun _ => 0)))] ++ ws) (fun _ => [(a, .inr (5, row (fun _ => 0)))] ++ ws) sz) 0 0 (va_A ([(a, .inr (5, row (fun _ => 0)))] ++ ws) sz) := by
  refine Met.ofW (cc := cX5_init) (maxL := 1) (ret := none) (by decide) rfl ?_
  intro p e s m args below meth c s₁ B hml hv
  obtain ⟨rfl, hsz, hP, hD0, hKK⟩ := hv
  subst hsz
  have hx := B.exec
  have hb := B.bytes
  have hr := B.returns
  have hts := atoms_spec (ws := wsX5_init) B.pre
  have hown : s.vm.findClass RX5 = some m.cls := findClass_of_methodNamed B.named
  have hlocks := B.notSynchronized
  have hin : meth.name = "<init>" := (name_of_methodNamed B.named B.method).1
  have hD := hD0.self (sz := s.heap.size)
  generalize hAe : va_A ([(a, .inr (5, row (fun _ => 0)))] ++ ws) s.heap.size = A at hD ⊢
  have hA : ∀ q : Nat, s.heap.size ≤ q → A q := fun q h => by rw [← hAe]; exact Or.inr h
  have hS : va_S A s.heap s.heap [] := va_S.rf
  have hl := lv_entry ([.ref a]) (n := 1) (Nat.le_of_ble_eq_true rfl)
  rw [lg_entry_eq]
  generalize (lg_sl ([.ref a]) ++ List.replicate (1 - (lg_sl ([.ref a])).length) Slot.unset).toArray = ls at hl ⊢
  have hl : lv_has ls 1 [(0, .ref a)] := hl
  refine lv_aload_n hx hb dX5_init_0 rfl (lv_at hl 0 rfl) ?_
  refine W.objInit hx hb hown (hts (.methodLink RX5 1 objectInit) (by decide +kernel)) (hts (.instanceMethod objectInit) (by decide +kernel)) (hts _ (List.mem_of_getElem? (i := 3) rfl)) rfl (by rw [hml]; exact hl.1) rfl dX5_init_1 (Nat.le_of_ble_eq_true rfl) (Nat.le_of_ble_eq_true rfl) ?_
  refine W.eq (g2 := F0 m 4 ls []) rfl ?_
  exact W.vret hx hb hr (fun t ht hW => ⟨⟨(), rfl, trivial, by rw [ht]; exact hP, by rw [hAe]; exact hD⟩, by rw [hAe]; exact hS.F ht⟩) hS.2.2 dX5_init_4
theorem cls_objV {dC : Nat → ClassId} {dI : Nat → Nat → Nat} {cV cA : ClassId} {s : State} (h : va_K (dC, dI) vwCl ([(cV, .object "WidowPenniesLaw$Widow")] ++ [(cA, .object "WidowPenniesLaw$Widow")]) s) : cA = cV := by
  have h1 := va_nmO (h.2 0 (cV, .object "WidowPenniesLaw$Widow") rfl).2 rfl
  have h2 := va_nmO (h.2 1 (cA, .object "WidowPenniesLaw$Widow") rfl).2 rfl
  exact Option.some.inj (Eq.trans (Eq.symm h2) h1)
set_option maxHeartbeats 4000000 in
set_option maxRecDepth 100000 in
theorem met_X4_init (l : Launch) (dC : Nat → ClassId) (dI : Nat → Nat → Nat) (cI cW cV : ClassId) (ws : va_W) (a : Nat) (sz : Nat) : Met l yX4_init wsX4_init ({ frames := 1, cells := 3, slots := 53, locals := 20 }) (Pre1S dC dI cI cW cV [.ref a] ([(a, .inr (4, [.int 0, .int 0, .int 0, .null, .null, .null]))] ++ ws) sz) (QvU (S := (Nat → Nat) × Nat) dC dI ([(a, .inr (4, [.int 0, .int 0, .int 0, .null, .null, .null]))] ++ ws) (fun u => si cI cV (fun k => if k = 0 then a else u.1 k) u.2 (fun _ => 0) 0 (dP 50) r00 0 0 0 (fun _ _ => 0) ++ ws) sz) 3 53 (va_A ([(a, .inr (4, [.int 0, .int 0, .int 0, .null, .null, .null]))] ++ ws) sz) := by
  refine Met.ofW (cc := cX4_init) (maxL := 2) (ret := none) (by decide) rfl ?_
  intro p e s m args below meth c s₁ B hml hv
  obtain ⟨rfl, hsz, hP, hD0, hKS⟩ := hv
  have hKK := hKS.1
  have hKV := hKS.2.1
  have hAO := hKS.2.2.2
  subst hsz
  have hx := B.exec
  have hb := B.bytes
  have hr := B.returns
  have hts := atoms_spec (ws := wsX4_init) B.pre
  have hown : s.vm.findClass RX4 = some m.cls := findClass_of_methodNamed B.named
  have hlocks := B.notSynchronized
  have hD := hD0.self (sz := s.heap.size)
  generalize hAe : va_A ([(a, .inr (4, [.int 0, .int 0, .int 0, .null, .null, .null]))] ++ ws) s.heap.size = A at hD ⊢
  have hA : ∀ q : Nat, s.heap.size ≤ q → A q := fun q h => by rw [← hAe]; exact Or.inr h
  have hS : va_S A s.heap s.heap [] := va_S.rf
  have hl := lv_entry ([.ref a]) (n := 2) (Nat.le_of_ble_eq_true rfl)
  rw [lg_entry_eq]
  generalize (lg_sl ([.ref a]) ++ List.replicate (2 - (lg_sl ([.ref a])).length) Slot.unset).toArray = ls at hl ⊢
  have hl : lv_has ls 2 [(0, .ref a)] := hl
  have key : ∀ (q1 q2 q3 m9 j : Nat), j + m9 = 50 → ∀ (H : Heap) (locs : List Loc), va_P (dC, dI) vwCl ([(a, .inr (4, [.int 0, .int 0, .int 0, .ref q1, .ref q2, .ref q3])), (q1, .inl (cI, 3, .inl r00)), (q2, .inl (cI, 50, .inl (dP j))), (q3, .inl (cV, 0, .inr (.inr (.inr (.inr (fun _ => none))))))] ++ ws) H → va_D A ([(a, .inr (4, [.int 0, .int 0, .int 0, .ref q1, .ref q2, .ref q3])), (q1, .inl (cI, 3, .inl r00)), (q2, .inl (cI, 50, .inl (dP j))), (q3, .inl (cV, 0, .inr (.inr (.inr (.inr (fun _ => none))))))] ++ ws) → va_S A s.heap H locs → ∀ ls : Array Slot, lv_has ls 2 [(1, .int (nI j)), (0, .ref a)] → W p l e (headSpec wsX4_init ({ frames := 1, cells := 3, slots := 53, locals := 20 })).room s m (([.ref a] : List Value).toArray) below meth c H locs 3 53 (MQ below (QvU (S := (Nat → Nat) × Nat) dC dI ([(a, .inr (4, [.int 0, .int 0, .int 0, .null, .null, .null]))] ++ ws) (fun u => si cI cV (fun k => if k = 0 then a else u.1 k) u.2 (fun _ => 0) 0 (dP 50) r00 0 0 0 (fun _ _ => 0) ++ ws) s.heap.size) ([.ref a] : List Value).toArray s 3 53 A) (F0 m 43 ls []) := by
    intro q1 q2 q3 m9
    induction m9 with
    | zero =>
      intro j hj H locs hP hD hS ls hl
      have hj50 : j = 50 := by omega
      subst hj50
      refine lv_iload_n hx hb dX4_init_43 rfl (lv_at hl 0 rfl) ?_
      refine lv_bipush (v := 50) hx hb dX4_init_44 (by decide) ?_
      refine lv_icmp_ge (tgt := 68) hx hb dX4_init_46 (by decide) (fun c_1 => ?_) (fun c_1 => ?_)
      · have hP := cell_objs (cA := cV) (g := fun k => some ((fun _ => 0) k)) (i := 3) hP rfl (fun k hk => absurd hk (Nat.not_lt_zero k))
        have hD := va_D.set (e := .inl (cV, 0, .inr (.inr (.inr (.inr (fun k => some ((fun _ => 0) k))))))) (p := 3) hD rfl
        have hP : va_P (dC, dI) vwCl (si cI cV (fun k => if k = 0 then a else (fun k => if k = 1 then q1 else q2) k) q3 (fun _ => 0) 0 (dP 50) r00 0 0 0 (fun _ _ => 0) ++ ws) _ := hP
        have hD : va_D A (si cI cV (fun k => if k = 0 then a else (fun k => if k = 1 then q1 else q2) k) q3 (fun _ => 0) 0 (dP 50) r00 0 0 0 (fun _ _ => 0) ++ ws) := hD
        exact W.vret hx hb hr (fun t ht hW => ⟨⟨((fun k => if k = 1 then q1 else q2), q3), rfl, trivial, by rw [ht]; exact hP, by rw [hAe]; exact hD⟩, by rw [hAe]; exact hS.F ht⟩) hS.2.2 dX4_init_68
      · exact absurd (by decide) c_1
    | succ m9 ih =>
      intro j hj H locs hP hD hS ls hl
      refine lv_iload_n hx hb dX4_init_43 rfl (lv_at hl 0 rfl) ?_
      refine lv_bipush (v := 50) hx hb dX4_init_44 (by decide) ?_
      refine lv_icmp_ge (tgt := 68) hx hb dX4_init_46 (by decide) (fun c_1 => ?_) (fun c_1 => ?_)
      · exact absurd c_1 (fun q9 => absurd ((le_nI (a := 50) (by omega)).mp q9) (by omega))
      · refine lv_aload_n hx hb dX4_init_49 rfl (lv_at hl 1 rfl) ?_
        refine va_get (D := (dC, dI)) (ci := 4) (v := .ref q2) (C := RX4) (T := TX4) (N := 6) hx hb hts (by decide +kernel) hown hKK.1 hP 0 rfl rfl 4 (by decide) (hts (.fieldLink RX4 13 "WidowPenniesLaw$Sim" "deaths" "[I") (by decide +kernel)) (fun _ h9 => h9) rfl dX4_init_50 ?_
        refine lv_iload_n hx hb dX4_init_53 rfl (lv_at hl 0 rfl) ?_
        refine lv_bipush (v := 10) hx hb dX4_init_54 (by decide) ?_
        refine lv_bipush (v := 8) hx hb dX4_init_56 (by decide) ?_
        refine lv_iload_n hx hb dX4_init_58 rfl (lv_at hl 0 rfl) ?_
        refine lv_imul hx hb dX4_init_59 ?_
        rw [show (8 * (nI j) : Int32) = nI (8 * j) from pk_mul 8 j]
        refine lv_iadd hx hb dX4_init_60 ?_
        rw [show (10 + (nI (8 * j)) : Int32) = nI (10 + 8 * j) from nI_add 10 _]
        refine va_iast hx hb hKK.1 hP hD hS 2 0 rfl rfl (vp_in_nI (by omega) (by omega)) dX4_init_61 (fun H locs hP hD hS => ?_)
        rw [clamp_nI (show j < 2147483648 by omega), dP_put] at hP hD
        have hP : va_P (dC, dI) vwCl ([(a, .inr (4, [.int 0, .int 0, .int 0, .ref q1, .ref q2, .ref q3])), (q1, .inl (cI, 3, .inl r00)), (q2, .inl (cI, 50, .inl (dP (j + 1)))), (q3, .inl (cV, 0, .inr (.inr (.inr (.inr (fun _ => none))))))] ++ ws) H := hP
        have hD : va_D A ([(a, .inr (4, [.int 0, .int 0, .int 0, .ref q1, .ref q2, .ref q3])), (q1, .inl (cI, 3, .inl r00)), (q2, .inl (cI, 50, .inl (dP (j + 1)))), (q3, .inl (cV, 0, .inr (.inr (.inr (.inr (fun _ => none))))))] ++ ws) := hD
        refine lv_iinc (v := (nI (j + 1))) (lv' := [(1, .int (nI (j + 1))), (0, .ref a)]) hx hb dX4_init_62 hl (k := 0) rfl (nI_1 j) (by decide) rfl (fun ls hl => ?_)
        refine lv_goto (tgt := 43) hx hb dX4_init_65 (by decide) ?_
        exact ih (j + 1) (by omega) H locs hP hD hS ls (lv_sub hl [0, 1] rfl)
  refine lv_aload_n hx hb dX4_init_0 rfl (lv_at hl 0 rfl) ?_
  refine W.objInit hx hb hown (hts (.methodLink RX4 1 objectInit) (by decide +kernel)) (hts (.instanceMethod objectInit) (by decide +kernel)) (hts _ (List.mem_of_getElem? (i := 3) rfl)) rfl (by rw [hml]; exact hl.1) rfl dX4_init_1 (Nat.le_of_ble_eq_true rfl) (Nat.le_of_ble_eq_true rfl) ?_
  refine W.eq (g2 := F0 m 4 ls []) rfl ?_
  refine lv_aload_n hx hb dX4_init_4 rfl (lv_at hl 0 rfl) ?_
  refine lv_iconst (v := 3) hx hb dX4_init_5 (by decide) ?_
  refine va_newa (atype := .int) (ty := .int) (a0 := (3, .inl (fun _ => 0))) (N' := 3) hx hb (hts (.arrayClass .int) (by decide +kernel)) rfl hKK.1 hP hD hS hA (fun _ => rfl) (by decide) rfl (by decide) (Nat.le_of_ble_eq_true rfl) (Nat.le_of_ble_eq_true rfl) dX4_init_6 (fun q1 cA H hK2 hP hD hS => ?_)
  have hcA := cls_int hK2
  rw [hcA] at hP hD
  clear hK2 hcA
  have hP := va_P_perm (perm_tail ([(a, .inr (4, [.int 0, .int 0, .int 0, .null, .null, .null]))]) ws (q1, .inl (cI, 3, .inl (fun _ => 0)))) hP
  have hD := va_D_perm (perm_tail ([(a, .inr (4, [.int 0, .int 0, .int 0, .null, .null, .null]))]) ws (q1, .inl (cI, 3, .inl (fun _ => 0)))) hD
  have hP : va_P (dC, dI) vwCl ([(a, .inr (4, [.int 0, .int 0, .int 0, .null, .null, .null])), (q1, .inl (cI, 3, .inl (fun _ => 0)))] ++ ws) H := hP
  have hD : va_D A ([(a, .inr (4, [.int 0, .int 0, .int 0, .null, .null, .null])), (q1, .inl (cI, 3, .inl (fun _ => 0)))] ++ ws) := hD
  refine lv_dup hx hb dX4_init_8 rfl ?_
  refine lv_iconst (v := 0) hx hb dX4_init_9 (by decide) ?_
  refine lv_bipush (v := 40) hx hb dX4_init_10 (by decide) ?_
  refine va_iast hx hb hKK.1 hP hD hS 1 0 rfl rfl (vp_in_nI (n := 0) (by omega) (by omega)) dX4_init_12 (fun H locs hP hD hS => ?_)
  rw [show (0 : Int32).toNatClampNeg = 0 from rfl] at hP hD
  have hP : va_P (dC, dI) vwCl ([(a, .inr (4, [.int 0, .int 0, .int 0, .null, .null, .null])), (q1, .inl (cI, 3, .inl (upd (fun _ => 0) 0 40)))] ++ ws) H := hP
  have hD : va_D A ([(a, .inr (4, [.int 0, .int 0, .int 0, .null, .null, .null])), (q1, .inl (cI, 3, .inl (upd (fun _ => 0) 0 40)))] ++ ws) := hD
  refine lv_dup hx hb dX4_init_13 rfl ?_
  refine lv_iconst (v := 1) hx hb dX4_init_14 (by decide) ?_
  refine lv_iconst (v := 5) hx hb dX4_init_15 (by decide) ?_
  refine va_iast hx hb hKK.1 hP hD hS 1 0 rfl rfl (vp_in_nI (n := 1) (by omega) (by omega)) dX4_init_16 (fun H locs hP hD hS => ?_)
  rw [show (1 : Int32).toNatClampNeg = 1 from rfl] at hP hD
  have hP : va_P (dC, dI) vwCl ([(a, .inr (4, [.int 0, .int 0, .int 0, .null, .null, .null])), (q1, .inl (cI, 3, .inl (upd (upd (fun _ => 0) 0 40) 1 5)))] ++ ws) H := hP
  have hD : va_D A ([(a, .inr (4, [.int 0, .int 0, .int 0, .null, .null, .null])), (q1, .inl (cI, 3, .inl (upd (upd (fun _ => 0) 0 40) 1 5)))] ++ ws) := hD
  refine lv_dup hx hb dX4_init_17 rfl ?_
  refine lv_iconst (v := 2) hx hb dX4_init_18 (by decide) ?_
  refine lv_bipush (v := 10) hx hb dX4_init_19 (by decide) ?_
  refine va_iast hx hb hKK.1 hP hD hS 1 0 rfl rfl (vp_in_nI (n := 2) (by omega) (by omega)) dX4_init_21 (fun H locs hP hD hS => ?_)
  rw [show (2 : Int32).toNatClampNeg = 2 from rfl] at hP hD
  have hP : va_P (dC, dI) vwCl ([(a, .inr (4, [.int 0, .int 0, .int 0, .null, .null, .null])), (q1, .inl (cI, 3, .inl (upd (upd (upd (fun _ => 0) 0 40) 1 5) 2 10)))] ++ ws) H := hP
  have hD : va_D A ([(a, .inr (4, [.int 0, .int 0, .int 0, .null, .null, .null])), (q1, .inl (cI, 3, .inl (upd (upd (upd (fun _ => 0) 0 40) 1 5) 2 10)))] ++ ws) := hD
  refine va_put (D := (dC, dI)) (ci := 4) (v := .ref q1) (ty := (.array .int)) (C := RX4) (T := TX4) (N := 6) hx hb hts (by decide +kernel) tyX4 tyX4_ok nmX4 hown hKK.1 hP hD hS 0 rfl rfl 3 (by decide) (hts (.fieldLink RX4 7 "WidowPenniesLaw$Sim" "rates" "[I") (by decide +kernel)) (fun _ h9 => h9) rfl (by decide +kernel) rfl rfl (Nat.le_of_ble_eq_true rfl) dX4_init_22 (fun H locs hP hD hS => ?_)
  have hP : va_P (dC, dI) vwCl ([(a, .inr (4, [.int 0, .int 0, .int 0, .ref q1, .null, .null])), (q1, .inl (cI, 3, .inl (upd (upd (upd (fun _ => 0) 0 40) 1 5) 2 10)))] ++ ws) H := hP
  have hD : va_D A ([(a, .inr (4, [.int 0, .int 0, .int 0, .ref q1, .null, .null])), (q1, .inl (cI, 3, .inl (upd (upd (upd (fun _ => 0) 0 40) 1 5) 2 10)))] ++ ws) := hD
  refine lv_aload_n hx hb dX4_init_25 rfl (lv_at hl 0 rfl) ?_
  refine lv_bipush (v := 50) hx hb dX4_init_26 (by decide) ?_
  refine va_newa (atype := .int) (ty := .int) (a0 := (50, .inl (fun _ => 0))) (N' := 50) hx hb (hts (.arrayClass .int) (by decide +kernel)) rfl hKK.1 hP hD hS hA (fun _ => rfl) (by decide) rfl (by decide) (Nat.le_of_ble_eq_true rfl) (Nat.le_of_ble_eq_true rfl) dX4_init_28 (fun q2 cA H hK2 hP hD hS => ?_)
  have hcA := cls_int hK2
  rw [hcA] at hP hD
  clear hK2 hcA
  have hP := va_P_perm (perm_tail ([(a, .inr (4, [.int 0, .int 0, .int 0, .ref q1, .null, .null])), (q1, .inl (cI, 3, .inl (upd (upd (upd (fun _ => 0) 0 40) 1 5) 2 10)))]) ws (q2, .inl (cI, 50, .inl (fun _ => 0)))) hP
  have hD := va_D_perm (perm_tail ([(a, .inr (4, [.int 0, .int 0, .int 0, .ref q1, .null, .null])), (q1, .inl (cI, 3, .inl (upd (upd (upd (fun _ => 0) 0 40) 1 5) 2 10)))]) ws (q2, .inl (cI, 50, .inl (fun _ => 0)))) hD
  have hP : va_P (dC, dI) vwCl ([(a, .inr (4, [.int 0, .int 0, .int 0, .ref q1, .null, .null])), (q1, .inl (cI, 3, .inl (upd (upd (upd (fun _ => 0) 0 40) 1 5) 2 10))), (q2, .inl (cI, 50, .inl (fun _ => 0)))] ++ ws) H := hP
  have hD : va_D A ([(a, .inr (4, [.int 0, .int 0, .int 0, .ref q1, .null, .null])), (q1, .inl (cI, 3, .inl (upd (upd (upd (fun _ => 0) 0 40) 1 5) 2 10))), (q2, .inl (cI, 50, .inl (fun _ => 0)))] ++ ws) := hD
  refine va_put (D := (dC, dI)) (ci := 4) (v := .ref q2) (ty := (.array .int)) (C := RX4) (T := TX4) (N := 6) hx hb hts (by decide +kernel) tyX4 tyX4_ok nmX4 hown hKK.1 hP hD hS 0 rfl rfl 4 (by decide) (hts (.fieldLink RX4 13 "WidowPenniesLaw$Sim" "deaths" "[I") (by decide +kernel)) (fun _ h9 => h9) rfl (by decide +kernel) rfl rfl (Nat.le_of_ble_eq_true rfl) dX4_init_30 (fun H locs hP hD hS => ?_)
  have hP : va_P (dC, dI) vwCl ([(a, .inr (4, [.int 0, .int 0, .int 0, .ref q1, .ref q2, .null])), (q1, .inl (cI, 3, .inl (upd (upd (upd (fun _ => 0) 0 40) 1 5) 2 10))), (q2, .inl (cI, 50, .inl (fun _ => 0)))] ++ ws) H := hP
  have hD : va_D A ([(a, .inr (4, [.int 0, .int 0, .int 0, .ref q1, .ref q2, .null])), (q1, .inl (cI, 3, .inl (upd (upd (upd (fun _ => 0) 0 40) 1 5) 2 10))), (q2, .inl (cI, 50, .inl (fun _ => 0)))] ++ ws) := hD
  refine lv_aload_n hx hb dX4_init_33 rfl (lv_at hl 0 rfl) ?_
  refine lv_iconst (v := 0) hx hb dX4_init_34 (by decide) ?_
  refine va_newq (N' := 0) hx hb hown (hts (.classLink RX4 16 RX5) (by decide +kernel)) hAO hKV hP hD hS hA (by decide) rfl (by decide) (Nat.le_of_ble_eq_true rfl) (Nat.le_of_ble_eq_true rfl) dX4_init_35 (fun q3 cA H hK2 hP hD hS => ?_)
  have hcA := cls_objV hK2
  rw [hcA] at hP hD
  clear hK2 hcA
  have hP := va_P_perm (perm_tail ([(a, .inr (4, [.int 0, .int 0, .int 0, .ref q1, .ref q2, .null])), (q1, .inl (cI, 3, .inl (upd (upd (upd (fun _ => 0) 0 40) 1 5) 2 10))), (q2, .inl (cI, 50, .inl (fun _ => 0)))]) ws (q3, .inl (cV, 0, .inr (.inr (.inr (.inr (fun _ => none))))))) hP
  have hD := va_D_perm (perm_tail ([(a, .inr (4, [.int 0, .int 0, .int 0, .ref q1, .ref q2, .null])), (q1, .inl (cI, 3, .inl (upd (upd (upd (fun _ => 0) 0 40) 1 5) 2 10))), (q2, .inl (cI, 50, .inl (fun _ => 0)))]) ws (q3, .inl (cV, 0, .inr (.inr (.inr (.inr (fun _ => none))))))) hD
  have hP : va_P (dC, dI) vwCl ([(a, .inr (4, [.int 0, .int 0, .int 0, .ref q1, .ref q2, .null])), (q1, .inl (cI, 3, .inl (upd (upd (upd (fun _ => 0) 0 40) 1 5) 2 10))), (q2, .inl (cI, 50, .inl (fun _ => 0))), (q3, .inl (cV, 0, .inr (.inr (.inr (.inr (fun _ => none))))))] ++ ws) H := hP
  have hD : va_D A ([(a, .inr (4, [.int 0, .int 0, .int 0, .ref q1, .ref q2, .null])), (q1, .inl (cI, 3, .inl (upd (upd (upd (fun _ => 0) 0 40) 1 5) 2 10))), (q2, .inl (cI, 50, .inl (fun _ => 0))), (q3, .inl (cV, 0, .inr (.inr (.inr (.inr (fun _ => none))))))] ++ ws) := hD
  refine va_put (D := (dC, dI)) (ci := 4) (v := .ref q3) (ty := (.array (.object "WidowPenniesLaw$Widow"))) (C := RX4) (T := TX4) (N := 6) hx hb hts (by decide +kernel) tyX4 tyX4_ok nmX4 hown hKK.1 hP hD hS 0 rfl rfl 5 (by decide) (hts (.fieldLink RX4 18 "WidowPenniesLaw$Sim" "all" "[LWidowPenniesLaw$Widow;") (by decide +kernel)) (fun _ h9 => h9) rfl (by decide +kernel) rfl rfl (Nat.le_of_ble_eq_true rfl) dX4_init_38 (fun H locs hP hD hS => ?_)
  have hP : va_P (dC, dI) vwCl ([(a, .inr (4, [.int 0, .int 0, .int 0, .ref q1, .ref q2, .ref q3])), (q1, .inl (cI, 3, .inl (upd (upd (upd (fun _ => 0) 0 40) 1 5) 2 10))), (q2, .inl (cI, 50, .inl (fun _ => 0))), (q3, .inl (cV, 0, .inr (.inr (.inr (.inr (fun _ => none))))))] ++ ws) H := hP
  have hD : va_D A ([(a, .inr (4, [.int 0, .int 0, .int 0, .ref q1, .ref q2, .ref q3])), (q1, .inl (cI, 3, .inl (upd (upd (upd (fun _ => 0) 0 40) 1 5) 2 10))), (q2, .inl (cI, 50, .inl (fun _ => 0))), (q3, .inl (cV, 0, .inr (.inr (.inr (.inr (fun _ => none))))))] ++ ws) := hD
  refine lv_iconst (v := 0) hx hb dX4_init_41 (by decide) ?_
  refine lv_istore_n (lv' := [(1, .int 0), (0, .ref a)]) hx hb dX4_init_42 rfl hl (by decide) rfl (fun ls hl => ?_)
  rw [← dP_0] at hP hD
  exact key q1 q2 q3 50 0 (by omega) _ _ hP hD hS ls (lv_sub hl [0, 1] rfl)
set_option maxHeartbeats 4000000 in
set_option maxRecDepth 100000 in
theorem met_L_below (l : Launch) (dC : Nat → ClassId) (dI : Nat → Nat → Nat) (cI cW : ClassId) (v n : Int32) (h0 : ¬ n = 0) : Met l yL_below wsL_below ({ frames := 0, cells := 0, slots := 0, locals := 0 }) (Pre0 dC dI cI cW [.int v, .int n] ([])) (vp_Si (fun z => z = belS v n)) 0 0 (fun _ => False) := by
  refine Met.ofW (cc := cL_below) (maxL := 2) (ret := (some .int)) (by decide) rfl ?_
  intro p e s m args below meth c s₁ B hml hv
  obtain ⟨rfl, hP, hKK⟩ := hv
  have hx := B.exec
  have hb := B.bytes
  have hr := B.returns
  have hts := atoms_spec (ws := wsL_below) B.pre
  have hown : s.vm.findClass RL = some m.cls := findClass_of_methodNamed B.named
  have hlocks := B.notSynchronized
  have hl := lv_entry ([.int v, .int n]) (n := 2) (Nat.le_of_ble_eq_true rfl)
  rw [lg_entry_eq]
  generalize (lg_sl ([.int v, .int n]) ++ List.replicate (2 - (lg_sl ([.int v, .int n])).length) Slot.unset).toArray = ls at hl ⊢
  have hl : lv_has ls 2 [(0, .int v), (1, .int n)] := hl
  refine lv_iload_n hx hb dL_below_0 rfl (lv_at hl 0 rfl) ?_
  refine lv_ldc (v := 2147483647) hx hb hown (hts (.constant RL 7 2147483647) (by decide +kernel)) dL_below_1 ?_
  refine lv_iand hx hb dL_below_3 ?_
  refine lv_iload_n hx hb dL_below_4 rfl (lv_at hl 1 rfl) ?_
  refine lv_irem hx hb dL_below_5 h0 ?_
  have hz : (v &&& 2147483647) - (v &&& 2147483647) / n * n = belS v n := rfl
  exact W.iret (v := ((v &&& 2147483647) - (v &&& 2147483647) / n * n)) hx hb hr (fun t ht hW => ⟨_, rfl, hz, ht⟩) (fun q hq => absurd hq List.not_mem_nil) dL_below_6
/-- the number that cell(s, k) answers -/
def cellS (L : Nat) (xs : Nat → Int32) (k : Nat) : Int32 := if k < L then xs k else 790386105 * (nI k + 3)
set_option maxHeartbeats 4000000 in
set_option maxRecDepth 100000 in
theorem met_L_cell (l : Launch) (dC : Nat → ClassId) (dI : Nat → Nat → Nat) (cI cW cV : ClassId) (b L : Nat) (xs : Nat → Int32) (hL : L ≤ 260) (k : Nat) (hk : k < 1000) : Met l yL_cell wsL_cell ({ frames := 0, cells := 0, slots := 0, locals := 0 }) (PreX0 dC dI cI cW cV b L xs [.ref b, .int (nI k)]) (vp_Si (fun z => z = cellS L xs k)) 0 0 (fun _ => False) := by
  refine Met.ofW (cc := cL_cell) (maxL := 2) (ret := (some .int)) (by decide) rfl ?_
  intro p e s m args below meth c s₁ B hml hv
  obtain ⟨rfl, hX, hbl, hKS⟩ := hv
  have hx := B.exec
  have hb := B.bytes
  have hr := B.returns
  have hts := atoms_spec (ws := wsL_cell) B.pre
  have hown : s.vm.findClass RL = some m.cls := findClass_of_methodNamed B.named
  have hlocks := B.notSynchronized
  have hS : va_S (fun _ => False) s.heap s.heap [] := va_S.rf
  have hl := lv_entry ([.ref b, .int (nI k)]) (n := 2) (Nat.le_of_ble_eq_true rfl)
  rw [lg_entry_eq]
  generalize (lg_sl ([.ref b, .int (nI k)]) ++ List.replicate (2 - (lg_sl ([.ref b, .int (nI k)])).length) Slot.unset).toArray = ls at hl ⊢
  have hl : lv_has ls 2 [(0, .ref b), (1, .int (nI k))] := hl
  refine lv_iload_n hx hb dL_cell_0 rfl (lv_at hl 1 rfl) ?_
  refine lv_aload_n hx hb dL_cell_1 rfl (lv_at hl 0 rfl) ?_
  refine va_slen hx hb hX hbl (fun q => q) hS dL_cell_2 ?_
  refine lv_icmp_ge (tgt := 12) hx hb dL_cell_3 (by decide) (fun c_1 => ?_) (fun c_1 => ?_)
  · have hlt : ¬ k < L := fun q => absurd ((le_nI (by omega)).mp c_1) (Nat.not_le.mpr q)
    refine lv_ldc (v := 790386105) hx hb hown (hts (.constant RL 8 790386105) (by decide +kernel)) dL_cell_12 ?_
    refine lv_iload_n hx hb dL_cell_14 rfl (lv_at hl 1 rfl) ?_
    refine lv_iconst (v := 3) hx hb dL_cell_15 (by decide) ?_
    refine lv_iadd hx hb dL_cell_16 ?_
    refine lv_imul hx hb dL_cell_17 ?_
    have hz : 790386105 * ((nI k) + 3) = cellS L xs k := by rw [cellS, if_neg hlt]
    exact W.iret (v := (790386105 * ((nI k) + 3))) hx hb hr (fun t ht hW => ⟨_, rfl, hz, ht⟩) (fun q hq => absurd hq List.not_mem_nil) dL_cell_18
  · have hlt : k < L := Nat.not_le.mp (fun q => c_1 ((le_nI (by omega)).mpr q))
    refine lv_aload_n hx hb dL_cell_6 rfl (lv_at hl 0 rfl) ?_
    refine lv_iload_n hx hb dL_cell_7 rfl (lv_at hl 1 rfl) ?_
    refine va_sld hx hb hX hbl (fun q => q) hS (vp_in_nI hlt (by omega)) dL_cell_8 ?_
    rw [show xs (nI k).toNatClampNeg = xs k from congrArg xs (clamp_nI (by omega))]
    refine lv_goto (tgt := 18) hx hb dL_cell_9 (by decide) ?_
    have hz : xs k = cellS L xs k := by rw [cellS, if_pos hlt]
    exact W.iret (v := (xs k)) hx hb hr (fun t ht hW => ⟨_, rfl, hz, ht⟩) (fun q hq => absurd hq List.not_mem_nil) dL_cell_18
