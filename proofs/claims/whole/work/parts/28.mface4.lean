abbrev Ql1 (dC : Nat → ClassId) (dI : Nat → Nat → Nat) (post : Int64 → Prop) (ws ws' : va_W) (sz : Nat) : Array Value → State → Outcome → State → Prop :=
  va_Ql (fun (r : Int64) (_ : Unit) => post r) (fun _ t => va_P (dC, dI) vwCl ws' t.heap ∧ va_D (va_A ws sz) ws') (va_A ws sz)
abbrev Qd1 (dC : Nat → ClassId) (dI : Nat → Nat → Nat) (post : UInt64 → Prop) (ws ws' : va_W) (sz : Nat) : Array Value → State → Outcome → State → Prop :=
  va_Qd (fun (r : UInt64) (_ : Unit) => post r) (fun _ t => va_P (dC, dI) vwCl ws' t.heap ∧ va_D (va_A ws sz) ws') (va_A ws sz)
set_option maxHeartbeats 4000000 in
set_option maxRecDepth 100000 in
theorem met_X4_digest (l : Launch) (dC : Nat → ClassId) (dI : Nat → Nat → Nat) (cI cW : ClassId) (M : Nat → Nat) (th : Int32) (n : Nat) (d r : Nat → Int32) (Wd : Nat → Nat → Int32) (ch pd yr : Int32) (R : va_W) (hn : n ≤ 10) (hok : ∀ k, k < n → okW (Wd k)) (sz : Nat) : Met l yX4_digest wsX4_digest ({ frames := 5, cells := 0, slots := 0, locals := 109 }) (Pre1 dC dI cI cW [.ref (M 0)] (mw cI M th n d r Wd ch pd yr (WT d (r 0)) ++ R) sz) (Ql1 dC dI (fun z => z = digO d r Wd (digF d (digF r (digF (fun k => countS d r n ch pd (sm (prcF Wd) n) yr Wd k) 1667 9) 3) 50) n) (mw cI M th n d r Wd ch pd yr (WT d (r 0)) ++ R) (mw cI M 0 n d r Wd ch pd yr (WT d (r 0)) ++ R) sz) 0 0 (va_A (mw cI M th n d r Wd ch pd yr (WT d (r 0)) ++ R) sz) := by
  refine Met.ofW (cc := cX4_digest) (maxL := 7) (ret := (some .long)) (by decide) rfl ?_
  intro p e s m args below meth c s₁ B hml hv
  obtain ⟨rfl, hsz, hP, hD0, hKK⟩ := hv
  subst hsz
  have hx := B.exec
  have hb := B.bytes
  have hr := B.returns
  have hts := atoms_spec (ws := wsX4_digest) B.pre
  have hown : s.vm.findClass RX4 = some m.cls := findClass_of_methodNamed B.named
  have hlocks := B.notSynchronized
  have hD := hD0.self (sz := s.heap.size)
  generalize hAe : va_A (mw cI M th n d r Wd ch pd yr (WT d (r 0)) ++ R) s.heap.size = A at hD ⊢
  have hA : ∀ q : Nat, s.heap.size ≤ q → A q := fun q h => by rw [← hAe]; exact Or.inr h
  have hS : va_S A s.heap s.heap [] := va_S.rf
  have hl := lv_entry ([.ref (M 0)]) (n := 7) (Nat.le_of_ble_eq_true rfl)
  rw [lg_entry_eq]
  generalize (lg_sl ([.ref (M 0)]) ++ List.replicate (7 - (lg_sl ([.ref (M 0)])).length) Slot.unset).toArray = ls at hl ⊢
  have hl : lv_has ls 7 [(0, .ref (M 0))] := hl
  have hrx : ∃ x3 : Int64, x3 = digF d (digF r (digF (fun k => countS d r n ch pd (sm (prcF Wd) n) yr Wd k) 1667 9) 3) 50 := ⟨_, rfl⟩
  obtain ⟨x3, ex3⟩ := hrx
  have keyW : ∀ (m9 j : Nat), j + m9 = n → ∀ (H : Heap) (locs : List Loc), va_P (dC, dI) vwCl (mw cI M 0 n d r Wd ch pd yr (WT d (r 0)) ++ R) H → va_D A (mw cI M 0 n d r Wd ch pd yr (WT d (r 0)) ++ R) → va_S A s.heap H locs → ∀ ls : Array Slot, lv_has ls 7 [(3, .int (nI j)), (1, .long (digO d r Wd x3 j)), (0, .ref (M 0))] → W p l e (headSpec wsX4_digest ({ frames := 5, cells := 0, slots := 0, locals := 109 })).room s m (([.ref (M 0)] : List Value).toArray) below meth c H locs 0 0 (MQ below (Ql1 dC dI (fun z => z = digO d r Wd (digF d (digF r (digF (fun k => countS d r n ch pd (sm (prcF Wd) n) yr Wd k) 1667 9) 3) 50) n) (mw cI M th n d r Wd ch pd yr (WT d (r 0)) ++ R) (mw cI M 0 n d r Wd ch pd yr (WT d (r 0)) ++ R) s.heap.size) ([.ref (M 0)] : List Value).toArray s 0 0 A) (F0 m 120 ls []) := by
    intro m9
    induction m9 with
    | zero =>
      intro j hj H locs hP hD hS ls hl
      refine lv_iload_n hx hb dX4_digest_120 rfl (lv_at hl 0 rfl) ?_
      refine lv_aload_n hx hb dX4_digest_121 rfl (lv_at hl 2 rfl) ?_
      refine va_get (D := (dC, dI)) (ci := 4) (v := .int (nI n)) (C := RX4) (T := TX4) (N := 7) hx hb hts (by decide +kernel) hown hKK.1 hP 0 rfl rfl 1 (by decide) (hts (.fieldLink RX4 36 "WidowPenniesModel" "widows" "I") (by decide +kernel)) (fun _ h9 => h9) rfl dX4_digest_122 ?_
      refine lv_icmp_ge (tgt := 165) hx hb dX4_digest_125 (by decide) (fun c_1 => ?_) (fun c_1 => ?_)
      · refine lv_lload_n hx hb dX4_digest_165 rfl (lv_at hl 1 rfl) ?_
        have hP9 : va_P (dC, dI) vwCl (mw cI M 0 n d r Wd ch pd yr (WT d (r 0)) ++ R) _ := hP
        have hD9 : va_D A (mw cI M 0 n d r Wd ch pd yr (WT d (r 0)) ++ R) := hD
        have hz : (digO d r Wd x3 j : Int64) = digO d r Wd (digF d (digF r (digF (fun k => countS d r n ch pd (sm (prcF Wd) n) yr Wd k) 1667 9) 3) 50) n := by rw [← ex3, show j = n by omega]
        exact W.lret (v := (digO d r Wd x3 j)) hx hb hr (fun t ht hW => ⟨⟨_, (), rfl, hz, by rw [ht]; exact hP9, by rw [hAe]; exact hD9⟩, by rw [hAe]; exact hS.F ht⟩) hS.2.2 dX4_digest_166
      · exact absurd ((le_nI (by omega)).mpr (by omega)) c_1
    | succ m9 ih =>
      intro j hj H locs hP hD hS ls hl
      have inner : ∀ (q f : Nat), f + q = 9 → ∀ ls : Array Slot, lv_has ls 7 [(4, .int (nI f)), (3, .int (nI j)), (1, .long (digF (fun f => tellS d r (Wd j) f) (digO d r Wd x3 j) f)), (0, .ref (M 0))] → W p l e (headSpec wsX4_digest ({ frames := 5, cells := 0, slots := 0, locals := 109 })).room s m (([.ref (M 0)] : List Value).toArray) below meth c H locs 0 0 (MQ below (Ql1 dC dI (fun z => z = digO d r Wd (digF d (digF r (digF (fun k => countS d r n ch pd (sm (prcF Wd) n) yr Wd k) 1667 9) 3) 50) n) (mw cI M th n d r Wd ch pd yr (WT d (r 0)) ++ R) (mw cI M 0 n d r Wd ch pd yr (WT d (r 0)) ++ R) s.heap.size) ([.ref (M 0)] : List Value).toArray s 0 0 A) (F0 m 131 ls []) := by
        intro q
        induction q with
        | zero =>
          intro f hf ls hl
          have hf9 : f = 9 := by omega
          subst hf9
          refine lv_iload hx hb dX4_digest_131 (lv_at hl 0 rfl) ?_
          refine lv_bipush (v := 9) hx hb dX4_digest_133 (by decide) ?_
          refine lv_icmp_ge (tgt := 159) hx hb dX4_digest_135 (by decide) (fun c_1 => ?_) (fun c_1 => ?_)
          · refine lv_iinc (v := (nI (j + 1))) (lv' := [(3, .int (nI (j + 1))), (4, .int (nI 9)), (1, .long (digF (fun f => tellS d r (Wd j) f) (digO d r Wd x3 j) 9)), (0, .ref (M 0))]) hx hb dX4_digest_159 hl (k := 1) rfl (nI_1 j) (by decide) rfl (fun ls hl => ?_)
            refine lv_goto (tgt := 120) hx hb dX4_digest_162 (by decide) ?_
            exact ih (j + 1) (by omega) H locs hP hD hS ls (lv_sub hl [0, 2, 3] rfl)
          · exact absurd (by decide) c_1
        | succ q ih2 =>
          intro f hf ls hl
          refine lv_iload hx hb dX4_digest_131 (lv_at hl 0 rfl) ?_
          refine lv_bipush (v := 9) hx hb dX4_digest_133 (by decide) ?_
          refine lv_icmp_ge (tgt := 159) hx hb dX4_digest_135 (by decide) (fun c_1 => ?_) (fun c_1 => ?_)
          · exact absurd c_1 (fun q9 => absurd ((le_nI (a := 9) (by omega)).mp q9) (by omega))
          · refine lv_lload_n hx hb dX4_digest_138 rfl (lv_at hl 2 rfl) ?_
            refine lv_ldc2 (v := 31) hx hb hown (hts (.constantLong RX4 138 31) (by decide +kernel)) dX4_digest_139 ?_
            refine lv_lmul hx hb dX4_digest_142 ?_
            refine lv_aload_n hx hb dX4_digest_143 rfl (lv_at hl 3 rfl) ?_
            refine lv_iload_n hx hb dX4_digest_144 rfl (lv_at hl 1 rfl) ?_
            refine lv_iload hx hb dX4_digest_145 (lv_at hl 0 rfl) ?_
            refine rd_i (runV0 (As := [.int (nI j), .int (nI f)]) (rest := [.long ((digF (fun f => tellS d r (Wd j) f) (digO d r Wd x3 j) f) * 31)]) ⟨hx, hb, hml, hown, hts⟩ (met_X4_widowTold l dC dI cI cW M 0 n d r Wd ch pd yr j (by omega) (hok j (by omega)) f (by omega)) (cwV 2 hts gX4_digest_X4_widowTold rfl rfl rfl (by decide +kernel) ⟨Nat.le_of_ble_eq_true rfl, Nat.le_of_ble_eq_true rfl⟩) hKK (ws_left hP) 4 0 rfl rfl rfl hl.1 (Nat.le_of_ble_eq_true rfl) rfl dX4_digest_147 ⟨Nat.zero_le _, Nat.zero_le _⟩) (fun r_2 hr_2 => ?_)
            subst hr_2
            refine lv_i2l hx hb dX4_digest_150 rfl ?_
            refine lv_ladd hx hb dX4_digest_151 ?_
            rw [show (((digF (fun f => tellS d r (Wd j) f) (digO d r Wd x3 j) f) * 31) + ((tellS d r (Wd j) f).toInt64) : Int64) = digF (fun f => tellS d r (Wd j) f) (digO d r Wd x3 j) (f + 1) from rfl]
            refine lv_lstore_n (lv' := [(1, .long (digF (fun f => tellS d r (Wd j) f) (digO d r Wd x3 j) (f + 1))), (4, .int (nI f)), (3, .int (nI j)), (0, .ref (M 0))]) hx hb dX4_digest_152 rfl hl (by decide) rfl (fun ls hl => ?_)
            refine lv_iinc (v := (nI (f + 1))) (lv' := [(4, .int (nI (f + 1))), (1, .long (digF (fun f => tellS d r (Wd j) f) (digO d r Wd x3 j) (f + 1))), (3, .int (nI j)), (0, .ref (M 0))]) hx hb dX4_digest_153 hl (k := 1) rfl (nI_1 f) (by decide) rfl (fun ls hl => ?_)
            refine lv_goto (tgt := 131) hx hb dX4_digest_156 (by decide) ?_
            exact ih2 (f + 1) (by omega) ls (lv_sub hl [0, 2, 1, 3] rfl)
      refine lv_iload_n hx hb dX4_digest_120 rfl (lv_at hl 0 rfl) ?_
      refine lv_aload_n hx hb dX4_digest_121 rfl (lv_at hl 2 rfl) ?_
      refine va_get (D := (dC, dI)) (ci := 4) (v := .int (nI n)) (C := RX4) (T := TX4) (N := 7) hx hb hts (by decide +kernel) hown hKK.1 hP 0 rfl rfl 1 (by decide) (hts (.fieldLink RX4 36 "WidowPenniesModel" "widows" "I") (by decide +kernel)) (fun _ h9 => h9) rfl dX4_digest_122 ?_
      refine lv_icmp_ge (tgt := 165) hx hb dX4_digest_125 (by decide) (fun c_1 => ?_) (fun c_1 => ?_)
      · exact absurd c_1 (fun q9 => absurd ((le_nI (by omega)).mp q9) (by omega))
      · refine lv_iconst (v := 0) hx hb dX4_digest_128 (by decide) ?_
        refine lv_istore (lv' := [(4, .int 0), (3, .int (nI j)), (1, .long (digO d r Wd x3 j)), (0, .ref (M 0))]) hx hb dX4_digest_129 hl (by decide) rfl (fun ls hl => ?_)
        exact inner 9 0 (by omega) ls (lv_sub hl [0, 1, 2, 3] rfl)
  have keyA : ∀ (m9 j : Nat), j + m9 = 50 → ∀ (H : Heap) (locs : List Loc), va_P (dC, dI) vwCl (mw cI M 0 n d r Wd ch pd yr (WT d (r 0)) ++ R) H → va_D A (mw cI M 0 n d r Wd ch pd yr (WT d (r 0)) ++ R) → va_S A s.heap H locs → ∀ ls : Array Slot, lv_has ls 7 [(5, .int (nI j)), (1, .long (digF d (digF r (digF (fun k => countS d r n ch pd (sm (prcF Wd) n) yr Wd k) 1667 9) 3) j)), (4, .int 50), (3, .ref (M 2)), (0, .ref (M 0))] → W p l e (headSpec wsX4_digest ({ frames := 5, cells := 0, slots := 0, locals := 109 })).room s m (([.ref (M 0)] : List Value).toArray) below meth c H locs 0 0 (MQ below (Ql1 dC dI (fun z => z = digO d r Wd (digF d (digF r (digF (fun k => countS d r n ch pd (sm (prcF Wd) n) yr Wd k) 1667 9) 3) 50) n) (mw cI M th n d r Wd ch pd yr (WT d (r 0)) ++ R) (mw cI M 0 n d r Wd ch pd yr (WT d (r 0)) ++ R) s.heap.size) ([.ref (M 0)] : List Value).toArray s 0 0 A) (F0 m 89 ls []) := by
    intro m9
    induction m9 with
    | zero =>
      intro j hj H locs hP hD hS ls hl
      have hjN : j = 50 := by omega
      subst hjN
      refine lv_iload hx hb dX4_digest_89 (lv_at hl 0 rfl) ?_
      refine lv_iload hx hb dX4_digest_91 (lv_at hl 2 rfl) ?_
      refine lv_icmp_ge (tgt := 118) hx hb dX4_digest_93 (by decide) (fun c_1 => ?_) (fun c_1 => ?_)
      · refine lv_iconst (v := 0) hx hb dX4_digest_118 (by decide) ?_
        refine lv_istore_n (lv' := [(3, .int 0), (5, .int (nI 50)), (1, .long (digF d (digF r (digF (fun k => countS d r n ch pd (sm (prcF Wd) n) yr Wd k) 1667 9) 3) 50)), (4, .int 50), (0, .ref (M 0))]) hx hb dX4_digest_119 rfl hl (by decide) rfl (fun ls hl => ?_)
        exact keyW n 0 (by omega) _ _ hP hD hS ls (hl_to (by rw [ex3]; rfl) (lv_sub hl [0, 2, 4] rfl))
      · exact absurd (by decide) c_1
    | succ m9 ih =>
      intro j hj H locs hP hD hS ls hl
      refine lv_iload hx hb dX4_digest_89 (lv_at hl 0 rfl) ?_
      refine lv_iload hx hb dX4_digest_91 (lv_at hl 2 rfl) ?_
      refine lv_icmp_ge (tgt := 118) hx hb dX4_digest_93 (by decide) (fun c_1 => ?_) (fun c_1 => ?_)
      · exact absurd c_1 (fun q9 => absurd ((le_nI (a := 50) (by omega)).mp q9) (by omega))
      · refine lv_aload_n hx hb dX4_digest_96 rfl (lv_at hl 3 rfl) ?_
        refine lv_iload hx hb dX4_digest_97 (lv_at hl 0 rfl) ?_
        refine va_iald hx hb hKK.1 hP 2 0 rfl rfl (vp_in_nI (by omega) (by omega)) dX4_digest_99 ?_
        rw [show d (nI j).toNatClampNeg = d j from congrArg d (clamp_nI (by omega))]
        refine lv_istore (lv' := [(6, .int (d j)), (5, .int (nI j)), (1, .long (digF d (digF r (digF (fun k => countS d r n ch pd (sm (prcF Wd) n) yr Wd k) 1667 9) 3) j)), (4, .int 50), (3, .ref (M 2)), (0, .ref (M 0))]) hx hb dX4_digest_100 hl (by decide) rfl (fun ls hl => ?_)
        refine lv_lload_n hx hb dX4_digest_102 rfl (lv_at hl 2 rfl) ?_
        refine lv_ldc2 (v := 31) hx hb hown (hts (.constantLong RX4 138 31) (by decide +kernel)) dX4_digest_103 ?_
        refine lv_lmul hx hb dX4_digest_106 ?_
        refine lv_iload hx hb dX4_digest_107 (lv_at hl 0 rfl) ?_
        refine lv_i2l hx hb dX4_digest_109 rfl ?_
        refine lv_ladd hx hb dX4_digest_110 ?_
        rw [show (((digF d (digF r (digF (fun k => countS d r n ch pd (sm (prcF Wd) n) yr Wd k) 1667 9) 3) j) * 31) + ((d j).toInt64) : Int64) = digF d (digF r (digF (fun k => countS d r n ch pd (sm (prcF Wd) n) yr Wd k) 1667 9) 3) (j + 1) from rfl]
        refine lv_lstore_n (lv' := [(1, .long (digF d (digF r (digF (fun k => countS d r n ch pd (sm (prcF Wd) n) yr Wd k) 1667 9) 3) (j + 1))), (6, .int (d j)), (5, .int (nI j)), (4, .int 50), (3, .ref (M 2)), (0, .ref (M 0))]) hx hb dX4_digest_111 rfl hl (by decide) rfl (fun ls hl => ?_)
        refine lv_iinc (v := (nI (j + 1))) (lv' := [(5, .int (nI (j + 1))), (1, .long (digF d (digF r (digF (fun k => countS d r n ch pd (sm (prcF Wd) n) yr Wd k) 1667 9) 3) (j + 1))), (6, .int (d j)), (4, .int 50), (3, .ref (M 2)), (0, .ref (M 0))]) hx hb dX4_digest_112 hl (k := 2) rfl (nI_1 j) (by decide) rfl (fun ls hl => ?_)
        refine lv_goto (tgt := 89) hx hb dX4_digest_115 (by decide) ?_
        exact ih (j + 1) (by omega) H locs hP hD hS ls (lv_sub hl [0, 1, 3, 4, 5] rfl)
  have keyR : ∀ (m9 j : Nat), j + m9 = 3 → ∀ (H : Heap) (locs : List Loc), va_P (dC, dI) vwCl (mw cI M 0 n d r Wd ch pd yr (WT d (r 0)) ++ R) H → va_D A (mw cI M 0 n d r Wd ch pd yr (WT d (r 0)) ++ R) → va_S A s.heap H locs → ∀ ls : Array Slot, lv_has ls 7 [(5, .int (nI j)), (1, .long (digF r (digF (fun k => countS d r n ch pd (sm (prcF Wd) n) yr Wd k) 1667 9) j)), (4, .int 3), (3, .ref (M 1)), (0, .ref (M 0))] → W p l e (headSpec wsX4_digest ({ frames := 5, cells := 0, slots := 0, locals := 109 })).room s m (([.ref (M 0)] : List Value).toArray) below meth c H locs 0 0 (MQ below (Ql1 dC dI (fun z => z = digO d r Wd (digF d (digF r (digF (fun k => countS d r n ch pd (sm (prcF Wd) n) yr Wd k) 1667 9) 3) 50) n) (mw cI M th n d r Wd ch pd yr (WT d (r 0)) ++ R) (mw cI M 0 n d r Wd ch pd yr (WT d (r 0)) ++ R) s.heap.size) ([.ref (M 0)] : List Value).toArray s 0 0 A) (F0 m 48 ls []) := by
    intro m9
    induction m9 with
    | zero =>
      intro j hj H locs hP hD hS ls hl
      have hjN : j = 3 := by omega
      subst hjN
      refine lv_iload hx hb dX4_digest_48 (lv_at hl 0 rfl) ?_
      refine lv_iload hx hb dX4_digest_50 (lv_at hl 2 rfl) ?_
      refine lv_icmp_ge (tgt := 77) hx hb dX4_digest_52 (by decide) (fun c_1 => ?_) (fun c_1 => ?_)
      · refine lv_aload_n hx hb dX4_digest_77 rfl (lv_at hl 4 rfl) ?_
        refine va_get (D := (dC, dI)) (ci := 4) (v := .ref (M 2)) (C := RX4) (T := TX4) (N := 7) hx hb hts (by decide +kernel) hown hKK.1 hP 0 rfl rfl 3 (by decide) (hts (.fieldLink RX4 13 "WidowPenniesModel" "deaths" "[I") (by decide +kernel)) (fun _ h9 => h9) rfl dX4_digest_78 ?_
        refine lv_astore_n (lv' := [(3, .ref (M 2)), (5, .int (nI 3)), (1, .long (digF r (digF (fun k => countS d r n ch pd (sm (prcF Wd) n) yr Wd k) 1667 9) 3)), (4, .int 3), (0, .ref (M 0))]) hx hb dX4_digest_81 rfl hl (by decide) rfl (fun ls hl => ?_)
        refine lv_aload_n hx hb dX4_digest_82 rfl (lv_at hl 0 rfl) ?_
        refine va_alen hx hb hKK.1 hP 2 0 rfl rfl (v := 50) rfl dX4_digest_83 ?_
        refine lv_istore (lv' := [(4, .int 50), (3, .ref (M 2)), (5, .int (nI 3)), (1, .long (digF r (digF (fun k => countS d r n ch pd (sm (prcF Wd) n) yr Wd k) 1667 9) 3)), (0, .ref (M 0))]) hx hb dX4_digest_84 hl (by decide) rfl (fun ls hl => ?_)
        refine lv_iconst (v := 0) hx hb dX4_digest_86 (by decide) ?_
        refine lv_istore (lv' := [(5, .int 0), (4, .int 50), (3, .ref (M 2)), (1, .long (digF r (digF (fun k => countS d r n ch pd (sm (prcF Wd) n) yr Wd k) 1667 9) 3)), (0, .ref (M 0))]) hx hb dX4_digest_87 hl (by decide) rfl (fun ls hl => ?_)
        exact keyA 50 0 (by omega) _ _ hP hD hS ls (lv_sub hl [0, 3, 1, 2, 4] rfl)
      · exact absurd (by decide) c_1
    | succ m9 ih =>
      intro j hj H locs hP hD hS ls hl
      refine lv_iload hx hb dX4_digest_48 (lv_at hl 0 rfl) ?_
      refine lv_iload hx hb dX4_digest_50 (lv_at hl 2 rfl) ?_
      refine lv_icmp_ge (tgt := 77) hx hb dX4_digest_52 (by decide) (fun c_1 => ?_) (fun c_1 => ?_)
      · exact absurd c_1 (fun q9 => absurd ((le_nI (a := 3) (by omega)).mp q9) (by omega))
      · refine lv_aload_n hx hb dX4_digest_55 rfl (lv_at hl 3 rfl) ?_
        refine lv_iload hx hb dX4_digest_56 (lv_at hl 0 rfl) ?_
        refine va_iald hx hb hKK.1 hP 1 0 rfl rfl (vp_in_nI (by omega) (by omega)) dX4_digest_58 ?_
        rw [show r (nI j).toNatClampNeg = r j from congrArg r (clamp_nI (by omega))]
        refine lv_istore (lv' := [(6, .int (r j)), (5, .int (nI j)), (1, .long (digF r (digF (fun k => countS d r n ch pd (sm (prcF Wd) n) yr Wd k) 1667 9) j)), (4, .int 3), (3, .ref (M 1)), (0, .ref (M 0))]) hx hb dX4_digest_59 hl (by decide) rfl (fun ls hl => ?_)
        refine lv_lload_n hx hb dX4_digest_61 rfl (lv_at hl 2 rfl) ?_
        refine lv_ldc2 (v := 31) hx hb hown (hts (.constantLong RX4 138 31) (by decide +kernel)) dX4_digest_62 ?_
        refine lv_lmul hx hb dX4_digest_65 ?_
        refine lv_iload hx hb dX4_digest_66 (lv_at hl 0 rfl) ?_
        refine lv_i2l hx hb dX4_digest_68 rfl ?_
        refine lv_ladd hx hb dX4_digest_69 ?_
        rw [show (((digF r (digF (fun k => countS d r n ch pd (sm (prcF Wd) n) yr Wd k) 1667 9) j) * 31) + ((r j).toInt64) : Int64) = digF r (digF (fun k => countS d r n ch pd (sm (prcF Wd) n) yr Wd k) 1667 9) (j + 1) from rfl]
        refine lv_lstore_n (lv' := [(1, .long (digF r (digF (fun k => countS d r n ch pd (sm (prcF Wd) n) yr Wd k) 1667 9) (j + 1))), (6, .int (r j)), (5, .int (nI j)), (4, .int 3), (3, .ref (M 1)), (0, .ref (M 0))]) hx hb dX4_digest_70 rfl hl (by decide) rfl (fun ls hl => ?_)
        refine lv_iinc (v := (nI (j + 1))) (lv' := [(5, .int (nI (j + 1))), (1, .long (digF r (digF (fun k => countS d r n ch pd (sm (prcF Wd) n) yr Wd k) 1667 9) (j + 1))), (6, .int (r j)), (4, .int 3), (3, .ref (M 1)), (0, .ref (M 0))]) hx hb dX4_digest_71 hl (k := 2) rfl (nI_1 j) (by decide) rfl (fun ls hl => ?_)
        refine lv_goto (tgt := 48) hx hb dX4_digest_74 (by decide) ?_
        exact ih (j + 1) (by omega) H locs hP hD hS ls (lv_sub hl [0, 1, 3, 4, 5] rfl)
  have keyC : ∀ (m9 j : Nat), j + m9 = 9 → ∀ (H : Heap) (locs : List Loc), va_P (dC, dI) vwCl (mw cI M 0 n d r Wd ch pd yr (WT d (r 0)) ++ R) H → va_D A (mw cI M 0 n d r Wd ch pd yr (WT d (r 0)) ++ R) → va_S A s.heap H locs → ∀ ls : Array Slot, lv_has ls 7 [(3, .int (nI j)), (1, .long (digF (fun k => countS d r n ch pd (sm (prcF Wd) n) yr Wd k) 1667 j)), (0, .ref (M 0))] → W p l e (headSpec wsX4_digest ({ frames := 5, cells := 0, slots := 0, locals := 109 })).room s m (([.ref (M 0)] : List Value).toArray) below meth c H locs 0 0 (MQ below (Ql1 dC dI (fun z => z = digO d r Wd (digF d (digF r (digF (fun k => countS d r n ch pd (sm (prcF Wd) n) yr Wd k) 1667 9) 3) 50) n) (mw cI M th n d r Wd ch pd yr (WT d (r 0)) ++ R) (mw cI M 0 n d r Wd ch pd yr (WT d (r 0)) ++ R) s.heap.size) ([.ref (M 0)] : List Value).toArray s 0 0 A) (F0 m 11 ls []) := by
    intro m9
    induction m9 with
    | zero =>
      intro j hj H locs hP hD hS ls hl
      have hjN : j = 9 := by omega
      subst hjN
      refine lv_iload_n hx hb dX4_digest_11 rfl (lv_at hl 0 rfl) ?_
      refine lv_bipush (v := 9) hx hb dX4_digest_12 (by decide) ?_
      refine lv_icmp_ge (tgt := 36) hx hb dX4_digest_14 (by decide) (fun c_1 => ?_) (fun c_1 => ?_)
      · refine lv_aload_n hx hb dX4_digest_36 rfl (lv_at hl 2 rfl) ?_
        refine va_get (D := (dC, dI)) (ci := 4) (v := .ref (M 1)) (C := RX4) (T := TX4) (N := 7) hx hb hts (by decide +kernel) hown hKK.1 hP 0 rfl rfl 2 (by decide) (hts (.fieldLink RX4 7 "WidowPenniesModel" "rates" "[I") (by decide +kernel)) (fun _ h9 => h9) rfl dX4_digest_37 ?_
        refine lv_astore_n (lv' := [(3, .ref (M 1)), (1, .long (digF (fun k => countS d r n ch pd (sm (prcF Wd) n) yr Wd k) 1667 9)), (0, .ref (M 0))]) hx hb dX4_digest_40 rfl hl (by decide) rfl (fun ls hl => ?_)
        refine lv_aload_n hx hb dX4_digest_41 rfl (lv_at hl 0 rfl) ?_
        refine va_alen hx hb hKK.1 hP 1 0 rfl rfl (v := 3) rfl dX4_digest_42 ?_
        refine lv_istore (lv' := [(4, .int 3), (3, .ref (M 1)), (1, .long (digF (fun k => countS d r n ch pd (sm (prcF Wd) n) yr Wd k) 1667 9)), (0, .ref (M 0))]) hx hb dX4_digest_43 hl (by decide) rfl (fun ls hl => ?_)
        refine lv_iconst (v := 0) hx hb dX4_digest_45 (by decide) ?_
        refine lv_istore (lv' := [(5, .int 0), (4, .int 3), (3, .ref (M 1)), (1, .long (digF (fun k => countS d r n ch pd (sm (prcF Wd) n) yr Wd k) 1667 9)), (0, .ref (M 0))]) hx hb dX4_digest_46 hl (by decide) rfl (fun ls hl => ?_)
        exact keyR 3 0 (by omega) _ _ hP hD hS ls (lv_sub hl [0, 3, 1, 2, 4] rfl)
      · exact absurd (by decide) c_1
    | succ m9 ih =>
      intro j hj H locs hP hD hS ls hl
      refine lv_iload_n hx hb dX4_digest_11 rfl (lv_at hl 0 rfl) ?_
      refine lv_bipush (v := 9) hx hb dX4_digest_12 (by decide) ?_
      refine lv_icmp_ge (tgt := 36) hx hb dX4_digest_14 (by decide) (fun c_1 => ?_) (fun c_1 => ?_)
      · exact absurd c_1 (fun q9 => absurd ((le_nI (a := 9) (by omega)).mp q9) (by omega))
      · refine lv_lload_n hx hb dX4_digest_17 rfl (lv_at hl 1 rfl) ?_
        refine lv_ldc2 (v := 31) hx hb hown (hts (.constantLong RX4 138 31) (by decide +kernel)) dX4_digest_18 ?_
        refine lv_lmul hx hb dX4_digest_21 ?_
        refine lv_aload_n hx hb dX4_digest_22 rfl (lv_at hl 2 rfl) ?_
        refine lv_iload_n hx hb dX4_digest_23 rfl (lv_at hl 0 rfl) ?_
        refine rd_i (runV0 (As := [.int (nI j)]) (rest := [.long ((digF (fun k => countS d r n ch pd (sm (prcF Wd) n) yr Wd k) 1667 j) * 31)]) ⟨hx, hb, hml, hown, hts⟩ (met_X4_counted l dC dI cI cW M 0 n d r Wd ch pd yr hn hok j (by omega)) (cwV 1 hts gX4_digest_X4_counted rfl rfl rfl (by decide +kernel) ⟨Nat.le_of_ble_eq_true rfl, Nat.le_of_ble_eq_true rfl⟩) hKK (ws_left hP) 4 0 rfl rfl rfl hl.1 (Nat.le_of_ble_eq_true rfl) rfl dX4_digest_24 ⟨Nat.zero_le _, Nat.zero_le _⟩) (fun r_2 hr_2 => ?_)
        subst hr_2
        refine lv_i2l hx hb dX4_digest_27 rfl ?_
        refine lv_ladd hx hb dX4_digest_28 ?_
        rw [show (((digF (fun k => countS d r n ch pd (sm (prcF Wd) n) yr Wd k) 1667 j) * 31) + ((countS d r n ch pd (sm (prcF Wd) n) yr Wd j).toInt64) : Int64) = digF (fun k => countS d r n ch pd (sm (prcF Wd) n) yr Wd k) 1667 (j + 1) from rfl]
        refine lv_lstore_n (lv' := [(1, .long (digF (fun k => countS d r n ch pd (sm (prcF Wd) n) yr Wd k) 1667 (j + 1))), (3, .int (nI j)), (0, .ref (M 0))]) hx hb dX4_digest_29 rfl hl (by decide) rfl (fun ls hl => ?_)
        refine lv_iinc (v := (nI (j + 1))) (lv' := [(3, .int (nI (j + 1))), (1, .long (digF (fun k => countS d r n ch pd (sm (prcF Wd) n) yr Wd k) 1667 (j + 1))), (0, .ref (M 0))]) hx hb dX4_digest_30 hl (k := 1) rfl (nI_1 j) (by decide) rfl (fun ls hl => ?_)
        refine lv_goto (tgt := 11) hx hb dX4_digest_33 (by decide) ?_
        exact ih (j + 1) (by omega) H locs hP hD hS ls (lv_sub hl [0, 1, 2] rfl)
  refine lv_aload_n hx hb dX4_digest_0 rfl (lv_at hl 0 rfl) ?_
  refine lv_iconst (v := 0) hx hb dX4_digest_1 (by decide) ?_
  refine va_put (D := (dC, dI)) (ci := 4) (v := .int 0) (ty := .int) (C := RX4) (T := TX4) (N := 7) hx hb hts (by decide +kernel) tyX4 tyX4_ok nmX4 hown hKK.1 hP hD hS 0 rfl rfl 0 (by decide) (hts (.fieldLink RX4 28 "WidowPenniesModel" "thrown" "I") (by decide +kernel)) (fun _ h9 => h9) rfl (by decide +kernel) rfl rfl (Nat.le_of_ble_eq_true rfl) dX4_digest_2 (fun H locs hP hD hS => ?_)
  have hP : va_P (dC, dI) vwCl (mw cI M 0 n d r Wd ch pd yr (WT d (r 0)) ++ R) H := hP
  have hD : va_D A (mw cI M 0 n d r Wd ch pd yr (WT d (r 0)) ++ R) := hD
  refine lv_ldc2 (v := 1667) hx hb hown (hts (.constantLong RX4 136 1667) (by decide +kernel)) dX4_digest_5 ?_
  refine lv_lstore_n (lv' := [(1, .long 1667), (0, .ref (M 0))]) hx hb dX4_digest_8 rfl hl (by decide) rfl (fun ls hl => ?_)
  refine lv_iconst (v := 0) hx hb dX4_digest_9 (by decide) ?_
  refine lv_istore_n (lv' := [(3, .int 0), (1, .long 1667), (0, .ref (M 0))]) hx hb dX4_digest_10 rfl hl (by decide) rfl (fun ls hl => ?_)
  exact keyC 9 0 (by omega) _ _ hP hD hS ls (lv_sub hl [0, 1, 2] rfl)
set_option maxHeartbeats 4000000 in
set_option maxRecDepth 100000 in
theorem met_X4_mean (l : Launch) (dC : Nat → ClassId) (dI : Nat → Nat → Nat) (cI cW : ClassId) (M : Nat → Nat) (th : Int32) (n : Nat) (d r : Nat → Int32) (Wd : Nat → Nat → Int32) (ch pd yr : Int32) (R : va_W) (hn : n ≤ 10) (hok : ∀ k, k < n → okW (Wd k)) (sz : Nat) : Met l yX4_mean wsX4_mean ({ frames := 5, cells := 0, slots := 0, locals := 109 }) (Pre1 dC dI cI cW [.ref (M 0)] (mw cI M th n d r Wd ch pd yr (WT d (r 0)) ++ R) sz) (Qd1 dC dI (fun z => z = meanS n Wd) (mw cI M th n d r Wd ch pd yr (WT d (r 0)) ++ R) (mw cI M 0 n d r Wd ch pd yr (WT d (r 0)) ++ R) sz) 0 0 (va_A (mw cI M th n d r Wd ch pd yr (WT d (r 0)) ++ R) sz) := by
  refine Met.ofW (cc := cX4_mean) (maxL := 3) (ret := (some .double)) (by decide) rfl ?_
  intro p e s m args below meth c s₁ B hml hv
  obtain ⟨rfl, hsz, hP, hD0, hKK⟩ := hv
  subst hsz
  have hx := B.exec
  have hb := B.bytes
  have hr := B.returns
  have hts := atoms_spec (ws := wsX4_mean) B.pre
  have hown : s.vm.findClass RX4 = some m.cls := findClass_of_methodNamed B.named
  have hlocks := B.notSynchronized
  have hD := hD0.self (sz := s.heap.size)
  generalize hAe : va_A (mw cI M th n d r Wd ch pd yr (WT d (r 0)) ++ R) s.heap.size = A at hD ⊢
  have hA : ∀ q : Nat, s.heap.size ≤ q → A q := fun q h => by rw [← hAe]; exact Or.inr h
  have hS : va_S A s.heap s.heap [] := va_S.rf
  have hl := lv_entry ([.ref (M 0)]) (n := 3) (Nat.le_of_ble_eq_true rfl)
  rw [lg_entry_eq]
  generalize (lg_sl ([.ref (M 0)]) ++ List.replicate (3 - (lg_sl ([.ref (M 0)])).length) Slot.unset).toArray = ls at hl ⊢
  have hl : lv_has ls 3 [(0, .ref (M 0))] := hl
  have key : ∀ (m9 j : Nat), j + m9 = n → ∀ (H : Heap) (locs : List Loc), va_P (dC, dI) vwCl (mw cI M 0 n d r Wd ch pd yr (WT d (r 0)) ++ R) H → va_D A (mw cI M 0 n d r Wd ch pd yr (WT d (r 0)) ++ R) → va_S A s.heap H locs → ∀ ls : Array Slot, lv_has ls 3 [(2, .int (nI j)), (1, .int (sm (ageF Wd) j)), (0, .ref (M 0))] → W p l e (headSpec wsX4_mean ({ frames := 5, cells := 0, slots := 0, locals := 109 })).room s m (([.ref (M 0)] : List Value).toArray) below meth c H locs 0 0 (MQ below (Qd1 dC dI (fun z => z = meanS n Wd) (mw cI M th n d r Wd ch pd yr (WT d (r 0)) ++ R) (mw cI M 0 n d r Wd ch pd yr (WT d (r 0)) ++ R) s.heap.size) ([.ref (M 0)] : List Value).toArray s 0 0 A) (F0 m 9 ls []) := by
    intro m9
    induction m9 with
    | zero =>
      intro j hj H locs hP hD hS ls hl
      have hjn : j = n := by omega
      subst hjn
      refine lv_iload_n hx hb dX4_mean_9 rfl (lv_at hl 0 rfl) ?_
      refine lv_aload_n hx hb dX4_mean_10 rfl (lv_at hl 2 rfl) ?_
      refine va_get (D := (dC, dI)) (ci := 4) (v := .int (nI j)) (C := RX4) (T := TX4) (N := 7) hx hb hts (by decide +kernel) hown hKK.1 hP 0 rfl rfl 1 (by decide) (hts (.fieldLink RX4 36 "WidowPenniesModel" "widows" "I") (by decide +kernel)) (fun _ h9 => h9) rfl dX4_mean_11 ?_
      refine lv_icmp_ge (tgt := 44) hx hb dX4_mean_14 (by decide) (fun c_1 => ?_) (fun c_1 => ?_)
      · refine lv_aload_n hx hb dX4_mean_44 rfl (lv_at hl 2 rfl) ?_
        refine lv_iconst (v := 2) hx hb dX4_mean_45 (by decide) ?_
        refine rd_i (runV0 (As := [.int 2]) (rest := []) ⟨hx, hb, hml, hown, hts⟩ (met_X4_counted l dC dI cI cW M 0 j d r Wd ch pd yr hn hok 2 (by omega)) (cwV 1 hts gX4_mean_X4_counted rfl rfl rfl (by decide +kernel) ⟨Nat.le_of_ble_eq_true rfl, Nat.le_of_ble_eq_true rfl⟩) hKK (ws_left hP) 4 0 rfl rfl rfl hl.1 (Nat.le_of_ble_eq_true rfl) rfl dX4_mean_46 ⟨Nat.zero_le _, Nat.zero_le _⟩) (fun r_2 hr_2 => ?_)
        subst hr_2
        rw [show (countS d r j ch pd (sm (prcF Wd) j) yr Wd 2 : Int32) = sm (alvF Wd) j from rfl]
        refine lv_istore_n (lv' := [(2, .int (sm (alvF Wd) j)), (1, .int (sm (ageF Wd) j)), (0, .ref (M 0))]) hx hb dX4_mean_49 rfl hl (by decide) rfl (fun ls hl => ?_)
        refine lv_iload_n hx hb dX4_mean_50 rfl (lv_at hl 0 rfl) ?_
        refine lv_if_ne (tgt := 58) hx hb dX4_mean_51 (by decide) (fun c_4 => ?_) (fun c_4 => ?_)
        · refine lv_iload_n hx hb dX4_mean_58 rfl (lv_at hl 1 rfl) ?_
          refine lv_i2d hx hb dX4_mean_59 ?_
          refine lv_iload_n hx hb dX4_mean_60 rfl (lv_at hl 0 rfl) ?_
          refine lv_i2d hx hb dX4_mean_61 ?_
          refine lv_ddiv hx hb dX4_mean_62 (mean_no hn hok c_4) ?_
          have hP9 : va_P (dC, dI) vwCl (mw cI M 0 j d r Wd ch pd yr (WT d (r 0)) ++ R) _ := hP
          have hD9 : va_D A (mw cI M 0 j d r Wd ch pd yr (WT d (r 0)) ++ R) := hD
          have hz : (FP.ddiv (FP.i2d (sm (ageF Wd) j)) (FP.i2d (sm (alvF Wd) j)) : UInt64) = meanS j Wd := by rw [meanS, if_neg c_4]
          exact W.dret (v := (FP.ddiv (FP.i2d (sm (ageF Wd) j)) (FP.i2d (sm (alvF Wd) j)))) hx hb hr (fun t ht hW => ⟨⟨_, (), rfl, hz, by rw [ht]; exact hP9, by rw [hAe]; exact hD9⟩, by rw [hAe]; exact hS.F ht⟩) hS.2.2 dX4_mean_63
        · refine lv_dconst0 hx hb dX4_mean_54 ?_
          refine lv_goto (tgt := 63) hx hb dX4_mean_55 (by decide) ?_
          have hP9 : va_P (dC, dI) vwCl (mw cI M 0 j d r Wd ch pd yr (WT d (r 0)) ++ R) _ := hP
          have hD9 : va_D A (mw cI M 0 j d r Wd ch pd yr (WT d (r 0)) ++ R) := hD
          have hz : (0 : UInt64) = meanS j Wd := by rw [meanS, if_pos c_4]
          exact W.dret (v := 0) hx hb hr (fun t ht hW => ⟨⟨_, (), rfl, hz, by rw [ht]; exact hP9, by rw [hAe]; exact hD9⟩, by rw [hAe]; exact hS.F ht⟩) hS.2.2 dX4_mean_63
      · exact absurd (Int32.le_refl _) c_1
    | succ m9 ih =>
      intro j hj H locs hP hD hS ls hl
      have hj10 : j < 10 := by omega
      refine lv_iload_n hx hb dX4_mean_9 rfl (lv_at hl 0 rfl) ?_
      refine lv_aload_n hx hb dX4_mean_10 rfl (lv_at hl 2 rfl) ?_
      refine va_get (D := (dC, dI)) (ci := 4) (v := .int (nI n)) (C := RX4) (T := TX4) (N := 7) hx hb hts (by decide +kernel) hown hKK.1 hP 0 rfl rfl 1 (by decide) (hts (.fieldLink RX4 36 "WidowPenniesModel" "widows" "I") (by decide +kernel)) (fun _ h9 => h9) rfl dX4_mean_11 ?_
      refine lv_icmp_ge (tgt := 44) hx hb dX4_mean_14 (by decide) (fun c_1 => ?_) (fun c_1 => ?_)
      · exact absurd c_1 (fun q9 => absurd ((le_nI (by omega)).mp q9) (by omega))
      · refine lv_iload_n hx hb dX4_mean_17 rfl (lv_at hl 1 rfl) ?_
        refine lv_aload_n hx hb dX4_mean_18 rfl (lv_at hl 2 rfl) ?_
        refine lv_iload_n hx hb dX4_mean_19 rfl (lv_at hl 0 rfl) ?_
        refine rd_i (runV0 (As := [.int (nI j)]) (rest := [.int (sm (ageF Wd) j)]) ⟨hx, hb, hml, hown, hts⟩ (met_X4_isAlive l dC dI cI cW M 0 n d r Wd ch pd yr (WT d (r 0)) j hj10) (cwV 1 hts gX4_mean_X4_isAlive rfl rfl rfl (by decide +kernel) ⟨Nat.le_of_ble_eq_true rfl, Nat.le_of_ble_eq_true rfl⟩) hKK (ws_left hP) 4 0 rfl rfl rfl hl.1 (Nat.le_of_ble_eq_true rfl) rfl dX4_mean_20 ⟨Nat.zero_le _, Nat.zero_le _⟩) (fun r_2 hr_2 => ?_)
        subst hr_2
        refine lv_if_eq (tgt := 35) hx hb dX4_mean_23 (by decide) (fun c_3 => ?_) (fun c_3 => ?_)
        · have bc_3 : ¬ (Wd j 4 = 0) := b0.mp c_3
          refine lv_iconst (v := 0) hx hb dX4_mean_35 (by decide) ?_
          refine lv_iadd hx hb dX4_mean_36 ?_
          rw [show ((sm (ageF Wd) j) + 0 : Int32) = sm (ageF Wd) (j + 1) from by simp [sm, ageF, bc_3]]
          refine lv_istore_n (lv' := [(1, .int (sm (ageF Wd) (j + 1))), (2, .int (nI j)), (0, .ref (M 0))]) hx hb dX4_mean_37 rfl hl (by decide) rfl (fun ls hl => ?_)
          refine lv_iinc (v := (nI (j + 1))) (lv' := [(2, .int (nI (j + 1))), (1, .int (sm (ageF Wd) (j + 1))), (0, .ref (M 0))]) hx hb dX4_mean_38 hl (k := 1) rfl (nI_1 j) (by decide) rfl (fun ls hl => ?_)
          refine lv_goto (tgt := 9) hx hb dX4_mean_41 (by decide) ?_
          exact ih (j + 1) (by omega) H locs hP hD hS ls (lv_sub hl [0, 1, 2] rfl)
        · have bc_3 : Wd j 4 = 0 := b1.mp c_3
          refine lv_aload_n hx hb dX4_mean_26 rfl (lv_at hl 2 rfl) ?_
          refine lv_iload_n hx hb dX4_mean_27 rfl (lv_at hl 0 rfl) ?_
          refine lv_iconst (v := 0) hx hb dX4_mean_28 (by decide) ?_
          refine rd_i (runV0 (As := [.int (nI j), .int 0]) (rest := [.int (sm (ageF Wd) j)]) ⟨hx, hb, hml, hown, hts⟩ (met_X4_wi l dC dI cI cW M 0 n d r Wd ch pd yr (WT d (r 0)) j hj10 0 (by omega)) (cwV 2 hts gX4_mean_X4_wi rfl rfl rfl (by decide +kernel) ⟨Nat.le_of_ble_eq_true rfl, Nat.le_of_ble_eq_true rfl⟩) hKK (ws_left hP) 4 0 rfl rfl rfl hl.1 (Nat.le_of_ble_eq_true rfl) rfl dX4_mean_29 ⟨Nat.zero_le _, Nat.zero_le _⟩) (fun r_5 hr_5 => ?_)
          subst hr_5
          refine lv_goto (tgt := 36) hx hb dX4_mean_32 (by decide) ?_
          refine lv_iadd hx hb dX4_mean_36 ?_
          rw [show ((sm (ageF Wd) j) + (Wd j 0) : Int32) = sm (ageF Wd) (j + 1) from by simp [sm, ageF, bc_3]]
          refine lv_istore_n (lv' := [(1, .int (sm (ageF Wd) (j + 1))), (2, .int (nI j)), (0, .ref (M 0))]) hx hb dX4_mean_37 rfl hl (by decide) rfl (fun ls hl => ?_)
          refine lv_iinc (v := (nI (j + 1))) (lv' := [(2, .int (nI (j + 1))), (1, .int (sm (ageF Wd) (j + 1))), (0, .ref (M 0))]) hx hb dX4_mean_38 hl (k := 1) rfl (nI_1 j) (by decide) rfl (fun ls hl => ?_)
          refine lv_goto (tgt := 9) hx hb dX4_mean_41 (by decide) ?_
          exact ih (j + 1) (by omega) H locs hP hD hS ls (lv_sub hl [0, 1, 2] rfl)
  refine lv_aload_n hx hb dX4_mean_0 rfl (lv_at hl 0 rfl) ?_
  refine lv_iconst (v := 0) hx hb dX4_mean_1 (by decide) ?_
  refine va_put (D := (dC, dI)) (ci := 4) (v := .int 0) (ty := .int) (C := RX4) (T := TX4) (N := 7) hx hb hts (by decide +kernel) tyX4 tyX4_ok nmX4 hown hKK.1 hP hD hS 0 rfl rfl 0 (by decide) (hts (.fieldLink RX4 28 "WidowPenniesModel" "thrown" "I") (by decide +kernel)) (fun _ h9 => h9) rfl (by decide +kernel) rfl rfl (Nat.le_of_ble_eq_true rfl) dX4_mean_2 (fun H locs hP hD hS => ?_)
  have hP : va_P (dC, dI) vwCl (mw cI M 0 n d r Wd ch pd yr (WT d (r 0)) ++ R) H := hP
  have hD : va_D A (mw cI M 0 n d r Wd ch pd yr (WT d (r 0)) ++ R) := hD
  refine lv_iconst (v := 0) hx hb dX4_mean_5 (by decide) ?_
  refine lv_istore_n (lv' := [(1, .int 0), (0, .ref (M 0))]) hx hb dX4_mean_6 rfl hl (by decide) rfl (fun ls hl => ?_)
  refine lv_iconst (v := 0) hx hb dX4_mean_7 (by decide) ?_
  refine lv_istore_n (lv' := [(2, .int 0), (1, .int 0), (0, .ref (M 0))]) hx hb dX4_mean_8 rfl hl (by decide) rfl (fun ls hl => ?_)
  exact key n 0 (by omega) _ _ hP hD hS ls (lv_sub hl [0, 1, 2] rfl)
