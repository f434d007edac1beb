set_option maxHeartbeats 4000000 in
set_option maxRecDepth 100000 in
theorem met_X4_isSame (l : Launch) (dC : Nat → ClassId) (dI : Nat → Nat → Nat) (cI cW cV : ClassId) (X Bk Br : Nat → Nat) (Y : Nat → Nat) (Ya : Nat) (V : Nat → Nat) (d r : Nat → Int32) (n : Nat) (ch pd pr yr : Int32) (Wd : Nat → Nat → Int32) (R : va_W) (hn : n ≤ 10) (hok : ∀ k, k < n → okW (Wd k)) (hpr : pr = sm (prcF Wd) n) (hi : ¬ (1000 : Int32) + r 0 = 0) (hi0 : ¬ r 0 < 0) (sz : Nat) : Met l yX4_isSame wsX4_isSame ({ frames := 8, cells := 20, slots := 180, locals := 177 }) (Pre1S dC dI cI cW cV [.ref (Y 0), .ref (X 0)] (tab cI X d r ++ (bk cW X Bk n ch pd pr yr Wd ++ (bk cW X Br 0 0 0 0 0 (fun _ _ => 0) ++ (obj X Bk Br :: (si cI cV Y Ya V n d r ch pd yr Wd ++ R))))) sz) (Qi1 dC dI (fun z => z = 1) (tab cI X d r ++ (bk cW X Bk n ch pd pr yr Wd ++ (bk cW X Br 0 0 0 0 0 (fun _ _ => 0) ++ (obj X Bk Br :: (si cI cV Y Ya V n d r ch pd yr Wd ++ R))))) (tab cI X d r ++ (bk cW X Bk n ch pd pr yr Wd ++ (bk cW X Br 0 0 0 0 0 (fun _ _ => 0) ++ (obj X Bk Br :: (si cI cV Y Ya V n d r ch pd yr Wd ++ R))))) sz) 20 180 (va_A (tab cI X d r ++ (bk cW X Bk n ch pd pr yr Wd ++ (bk cW X Br 0 0 0 0 0 (fun _ _ => 0) ++ (obj X Bk Br :: (si cI cV Y Ya V n d r ch pd yr Wd ++ R))))) sz) := by
  refine Met.ofW (cc := cX4_isSame) (maxL := 7) (ret := (some .boolean)) (by decide) rfl ?_
  intro p e s m args below meth c s₁ B hml hv
  obtain ⟨rfl, hsz, hP, hD0, hKS⟩ := hv
  have hKK := hKS.1
  have hKV := hKS.2.1
  subst hsz
  have hx := B.exec
  have hb := B.bytes
  have hr := B.returns
  have hts := atoms_spec (ws := wsX4_isSame) B.pre
  have hown : s.vm.findClass RX4 = some m.cls := findClass_of_methodNamed B.named
  have hlocks := B.notSynchronized
  have hD := hD0.self (sz := s.heap.size)
  generalize hAe : va_A (tab cI X d r ++ (bk cW X Bk n ch pd pr yr Wd ++ (bk cW X Br 0 0 0 0 0 (fun _ _ => 0) ++ (obj X Bk Br :: (si cI cV Y Ya V n d r ch pd yr Wd ++ R))))) s.heap.size = A at hD ⊢
  have hA : ∀ q : Nat, s.heap.size ≤ q → A q := fun q h => by rw [← hAe]; exact Or.inr h
  have hS : va_S A s.heap s.heap [] := va_S.rf
  have hl := lv_entry ([.ref (Y 0), .ref (X 0)]) (n := 7) (Nat.le_of_ble_eq_true rfl)
  rw [lg_entry_eq]
  generalize (lg_sl ([.ref (Y 0), .ref (X 0)]) ++ List.replicate (7 - (lg_sl ([.ref (Y 0), .ref (X 0)])).length) Slot.unset).toArray = ls at hl ⊢
  have hl : lv_has ls 7 [(0, .ref (Y 0)), (1, .ref (X 0))] := hl
  subst hpr
  have tail : ∀ (H : Heap) (locs : List Loc), va_P (dC, dI) vwCl (tab cI X d r ++ (bk cW X Bk n ch pd (sm (prcF Wd) n) yr Wd ++ (bk cW X Br 0 0 0 0 0 (fun _ _ => 0) ++ (obj X Bk Br :: (si cI cV Y Ya V n d r ch pd yr Wd ++ R))))) H → va_D A (tab cI X d r ++ (bk cW X Bk n ch pd (sm (prcF Wd) n) yr Wd ++ (bk cW X Br 0 0 0 0 0 (fun _ _ => 0) ++ (obj X Bk Br :: (si cI cV Y Ya V n d r ch pd yr Wd ++ R))))) → va_S A s.heap H locs → ∀ ls : Array Slot, lv_has ls 7 [(2, .int (sm (ageF Wd) n)), (0, .ref (Y 0)), (1, .ref (X 0))] → W p l e (headSpec wsX4_isSame ({ frames := 8, cells := 20, slots := 180, locals := 177 })).room s m (([.ref (Y 0), .ref (X 0)] : List Value).toArray) below meth c H locs 19 171 (MQ below (Qi1 dC dI (fun z => z = 1) (tab cI X d r ++ (bk cW X Bk n ch pd (sm (prcF Wd) n) yr Wd ++ (bk cW X Br 0 0 0 0 0 (fun _ _ => 0) ++ (obj X Bk Br :: (si cI cV Y Ya V n d r ch pd yr Wd ++ R))))) (tab cI X d r ++ (bk cW X Bk n ch pd (sm (prcF Wd) n) yr Wd ++ (bk cW X Br 0 0 0 0 0 (fun _ _ => 0) ++ (obj X Bk Br :: (si cI cV Y Ya V n d r ch pd yr Wd ++ R))))) s.heap.size) ([.ref (Y 0), .ref (X 0)] : List Value).toArray s 20 180 A) (F0 m 192 ls []) := by
    intro H locs hP hD hS ls hl
    refine lv_aload_n hx hb dX4_isSame_192 rfl (lv_at hl 1 rfl) ?_
    refine lv_iconst (v := 2) hx hb dX4_isSame_193 (by decide) ?_
    have hP : va_P (dC, dI) vwCl (si cI cV Y Ya V n d r ch pd yr Wd ++ (tab cI X d r ++ (bk cW X Bk n ch pd (sm (prcF Wd) n) yr Wd ++ (bk cW X Br 0 0 0 0 0 (fun _ _ => 0) ++ (obj X Bk Br :: (R)))))) _ := va_P_perm (pm_in0 _ _ _ _ _ _) hP
    have hD : va_D A (si cI cV Y Ya V n d r ch pd yr Wd ++ (tab cI X d r ++ (bk cW X Bk n ch pd (sm (prcF Wd) n) yr Wd ++ (bk cW X Br 0 0 0 0 0 (fun _ _ => 0) ++ (obj X Bk Br :: (R)))))) := va_D_perm (pm_in0 _ _ _ _ _ _) hD
    refine wr_i (runV1S (As := [.int 2]) (rest := []) ⟨hx, hb, hml, hown, hts⟩ (met_X4_counted l dC dI cI cW cV Y Ya V n d r ch pd yr Wd (tab cI X d r ++ (bk cW X Bk n ch pd (sm (prcF Wd) n) yr Wd ++ (bk cW X Br 0 0 0 0 0 (fun _ _ => 0) ++ (obj X Bk Br :: (R))))) hn hok hi 2 (by omega) _) (cwV 1 hts gX4_isSame_X4_counted rfl rfl rfl (by decide +kernel) ⟨Nat.le_of_ble_eq_true rfl, Nat.le_of_ble_eq_true rfl⟩) hKS hP hD 4 0 rfl rfl rfl hl.1 (Nat.le_of_ble_eq_true rfl) rfl dX4_isSame_194 ⟨Nat.le_of_ble_eq_true rfl, Nat.le_of_ble_eq_true rfl⟩) hD hS hA (fun r_1 H locs hr_1 hP hD hS => ?_)
    subst hr_1
    have hP : va_P (dC, dI) vwCl (tab cI X d r ++ (bk cW X Bk n ch pd (sm (prcF Wd) n) yr Wd ++ (bk cW X Br 0 0 0 0 0 (fun _ _ => 0) ++ (obj X Bk Br :: (si cI cV Y Ya V n d r ch pd yr Wd ++ R))))) H := va_P_perm (pm_in0 _ _ _ _ _ _).symm hP
    have hD : va_D A (tab cI X d r ++ (bk cW X Bk n ch pd (sm (prcF Wd) n) yr Wd ++ (bk cW X Br 0 0 0 0 0 (fun _ _ => 0) ++ (obj X Bk Br :: (si cI cV Y Ya V n d r ch pd yr Wd ++ R))))) := va_D_perm (pm_in0 _ _ _ _ _ _).symm hD
    rw [show (countS d r n ch pd (sm (prcF Wd) n) yr Wd 2 : Int32) = sm (alvF Wd) n from rfl]
    refine lv_istore_n (lv' := [(3, .int (sm (alvF Wd) n)), (2, .int (sm (ageF Wd) n)), (0, .ref (Y 0)), (1, .ref (X 0))]) hx hb dX4_isSame_197 rfl hl (by decide) rfl (fun ls hl => ?_)
    refine lv_aload_n hx hb dX4_isSame_198 rfl (lv_at hl 3 rfl) ?_
    refine rd_d (runV0 (As := []) (rest := []) ⟨hx, hb, hml, hown, hts⟩ (met_X3_mean l dC dI cI cW X Bk Br d r n ch pd (sm (prcF Wd) n) yr Wd 0 0 0 0 0 (fun _ _ => 0) (si cI cV Y Ya V n d r ch pd yr Wd ++ R) hn hok) (cwV 0 hts gX4_isSame_X3_mean rfl rfl rfl (by decide +kernel) ⟨Nat.le_of_ble_eq_true rfl, Nat.le_of_ble_eq_true rfl⟩) hKK hP 3 27 rfl cw_obj rfl hl.1 (Nat.le_of_ble_eq_true rfl) rfl dX4_isSame_199 ⟨Nat.le_of_ble_eq_true rfl, Nat.le_of_ble_eq_true rfl⟩) (fun r_1 hr_1 => ?_)
    subst hr_1
    refine lv_iload_n hx hb dX4_isSame_202 rfl (lv_at hl 0 rfl) ?_
    refine lv_if_ne (tgt := 210) hx hb dX4_isSame_203 (by decide) (fun c_3 => ?_) (fun c_3 => ?_)
    · have hzz := c_3
      refine lv_iload_n hx hb dX4_isSame_210 rfl (lv_at hl 1 rfl) ?_
      refine lv_i2d hx hb dX4_isSame_211 ?_
      refine lv_iload_n hx hb dX4_isSame_212 rfl (lv_at hl 0 rfl) ?_
      refine lv_i2d hx hb dX4_isSame_213 ?_
      refine lv_ddiv hx hb dX4_isSame_214 (mean_no hn hok hzz) ?_
      refine lv_dcmp hx hb dX4_isSame_215 ?_
      rw [mean_c1 hn hok hzz]
      refine lv_if_ne (tgt := 223) hx hb dX4_isSame_216 (by decide) (fun c_4 => ?_) (fun c_4 => ?_)
      · exact absurd rfl c_4
      · refine lv_iconst (v := 1) hx hb dX4_isSame_219 (by decide) ?_
        refine lv_goto (tgt := 224) hx hb dX4_isSame_220 (by decide) ?_
        exact W.zret (v := 1) hx hb hr (by first | rfl | (split <;> rfl)) (fun t ht hW => ⟨⟨_, (), rfl, rfl, by rw [ht]; exact hP, by rw [hAe]; exact hD⟩, by rw [hAe]; exact hS.F ht⟩) hS.2.2 dX4_isSame_224
    · have hzz := c_3
      refine lv_dconst0 hx hb dX4_isSame_206 ?_
      refine lv_goto (tgt := 215) hx hb dX4_isSame_207 (by decide) ?_
      refine lv_dcmp hx hb dX4_isSame_215 ?_
      rw [show FP.dconst0 = (0 : UInt64) from by decide +kernel, mean_c0 hzz]
      refine lv_if_ne (tgt := 223) hx hb dX4_isSame_216 (by decide) (fun c_5 => ?_) (fun c_5 => ?_)
      · exact absurd rfl c_5
      · refine lv_iconst (v := 1) hx hb dX4_isSame_219 (by decide) ?_
        refine lv_goto (tgt := 224) hx hb dX4_isSame_220 (by decide) ?_
        exact W.zret (v := 1) hx hb hr (by first | rfl | (split <;> rfl)) (fun t ht hW => ⟨⟨_, (), rfl, rfl, by rw [ht]; exact hP, by rw [hAe]; exact hD⟩, by rw [hAe]; exact hS.F ht⟩) hS.2.2 dX4_isSame_224
  have key2 : ∀ (m9 k : Nat), k + m9 = 9 → ∀ (H : Heap) (locs : List Loc), va_P (dC, dI) vwCl (tab cI X d r ++ (bk cW X Bk n ch pd (sm (prcF Wd) n) yr Wd ++ (bk cW X Br 0 0 0 0 0 (fun _ _ => 0) ++ (obj X Bk Br :: (si cI cV Y Ya V n d r ch pd yr Wd ++ R))))) H → va_D A (tab cI X d r ++ (bk cW X Bk n ch pd (sm (prcF Wd) n) yr Wd ++ (bk cW X Br 0 0 0 0 0 (fun _ _ => 0) ++ (obj X Bk Br :: (si cI cV Y Ya V n d r ch pd yr Wd ++ R))))) → va_S A s.heap H locs → ∀ ls : Array Slot, lv_has ls 7 [(3, .int (nI k)), (2, .int (sm (ageF Wd) n)), (0, .ref (Y 0)), (1, .ref (X 0))] → W p l e (headSpec wsX4_isSame ({ frames := 8, cells := 20, slots := 180, locals := 177 })).room s m (([.ref (Y 0), .ref (X 0)] : List Value).toArray) below meth c H locs (10 + k) (90 + 9 * k) (MQ below (Qi1 dC dI (fun z => z = 1) (tab cI X d r ++ (bk cW X Bk n ch pd (sm (prcF Wd) n) yr Wd ++ (bk cW X Br 0 0 0 0 0 (fun _ _ => 0) ++ (obj X Bk Br :: (si cI cV Y Ya V n d r ch pd yr Wd ++ R))))) (tab cI X d r ++ (bk cW X Bk n ch pd (sm (prcF Wd) n) yr Wd ++ (bk cW X Br 0 0 0 0 0 (fun _ _ => 0) ++ (obj X Bk Br :: (si cI cV Y Ya V n d r ch pd yr Wd ++ R))))) s.heap.size) ([.ref (Y 0), .ref (X 0)] : List Value).toArray s 20 180 A) (F0 m 165 ls []) := by
    intro m9
    induction m9 with
    | zero =>
      intro k hk H locs hP hD hS ls hl
      have hk9 : k = 9 := by omega
      subst hk9
      refine lv_iload_n hx hb dX4_isSame_165 rfl (lv_at hl 0 rfl) ?_
      refine lv_bipush (v := 9) hx hb dX4_isSame_166 (by decide) ?_
      refine lv_icmp_ge (tgt := 192) hx hb dX4_isSame_168 (by decide) (fun c_1 => ?_) (fun c_1 => ?_)
      · exact tail H locs hP hD hS ls (lv_sub hl [1, 2, 3] rfl)
      · exact absurd (by decide) c_1
    | succ m9 ih =>
      intro k hk H locs hP hD hS ls hl
      have hk9 : k < 9 := by omega
      refine lv_iload_n hx hb dX4_isSame_165 rfl (lv_at hl 0 rfl) ?_
      refine lv_bipush (v := 9) hx hb dX4_isSame_166 (by decide) ?_
      refine lv_icmp_ge (tgt := 192) hx hb dX4_isSame_168 (by decide) (fun c_1 => ?_) (fun c_1 => ?_)
      · exact absurd c_1 (fun q9 => absurd ((le_nI (a := 9) (by omega)).mp q9) (by omega))
      · refine lv_aload_n hx hb dX4_isSame_171 rfl (lv_at hl 3 rfl) ?_
        refine lv_iload_n hx hb dX4_isSame_172 rfl (lv_at hl 0 rfl) ?_
        refine rd_i (runV0 (As := [.int (nI k)]) (rest := []) ⟨hx, hb, hml, hown, hts⟩ (met_X3_count l dC dI cI cW X Bk Br d r n ch pd (sm (prcF Wd) n) yr Wd 0 0 0 0 0 (fun _ _ => 0) (si cI cV Y Ya V n d r ch pd yr Wd ++ R) hn hok k hk9 hi hi0) (cwV 1 hts gX4_isSame_X3_count rfl rfl rfl (by decide +kernel) ⟨Nat.le_of_ble_eq_true rfl, Nat.le_of_ble_eq_true rfl⟩) hKK hP 3 27 rfl cw_obj rfl hl.1 (Nat.le_of_ble_eq_true rfl) rfl dX4_isSame_173 ⟨by first | (show 10 + k + 1 ≤ 20; omega) | (show 10 + k ≤ 20; omega), by first | (show 90 + 9 * k + 9 ≤ 180; omega) | (show 90 + 9 * k ≤ 180; omega)⟩) (fun r_2 hr_2 => ?_)
        subst hr_2
        refine lv_aload_n hx hb dX4_isSame_176 rfl (lv_at hl 2 rfl) ?_
        refine lv_iload_n hx hb dX4_isSame_177 rfl (lv_at hl 0 rfl) ?_
        have hP : va_P (dC, dI) vwCl (si cI cV Y Ya V n d r ch pd yr Wd ++ (tab cI X d r ++ (bk cW X Bk n ch pd (sm (prcF Wd) n) yr Wd ++ (bk cW X Br 0 0 0 0 0 (fun _ _ => 0) ++ (obj X Bk Br :: (R)))))) _ := va_P_perm (pm_in0 _ _ _ _ _ _) hP
        have hD : va_D A (si cI cV Y Ya V n d r ch pd yr Wd ++ (tab cI X d r ++ (bk cW X Bk n ch pd (sm (prcF Wd) n) yr Wd ++ (bk cW X Br 0 0 0 0 0 (fun _ _ => 0) ++ (obj X Bk Br :: (R)))))) := va_D_perm (pm_in0 _ _ _ _ _ _) hD
        refine wr_i (runV1S (As := [.int (nI k)]) (rest := [.int (countS d r n ch pd (sm (prcF Wd) n) yr Wd k)]) ⟨hx, hb, hml, hown, hts⟩ (met_X4_counted l dC dI cI cW cV Y Ya V n d r ch pd yr Wd (tab cI X d r ++ (bk cW X Bk n ch pd (sm (prcF Wd) n) yr Wd ++ (bk cW X Br 0 0 0 0 0 (fun _ _ => 0) ++ (obj X Bk Br :: (R))))) hn hok hi k hk9 _) (cwV 1 hts gX4_isSame_X4_counted rfl rfl rfl (by decide +kernel) ⟨Nat.le_of_ble_eq_true rfl, Nat.le_of_ble_eq_true rfl⟩) hKS hP hD 4 0 rfl rfl rfl hl.1 (Nat.le_of_ble_eq_true rfl) rfl dX4_isSame_178 ⟨by first | (show 10 + k + 1 ≤ 20; omega) | (show 10 + k ≤ 20; omega), by first | (show 90 + 9 * k + 9 ≤ 180; omega) | (show 90 + 9 * k ≤ 180; omega)⟩) hD hS hA (fun r_3 H locs hr_3 hP hD hS => ?_)
        subst hr_3
        have hP : va_P (dC, dI) vwCl (tab cI X d r ++ (bk cW X Bk n ch pd (sm (prcF Wd) n) yr Wd ++ (bk cW X Br 0 0 0 0 0 (fun _ _ => 0) ++ (obj X Bk Br :: (si cI cV Y Ya V n d r ch pd yr Wd ++ R))))) H := va_P_perm (pm_in0 _ _ _ _ _ _).symm hP
        have hD : va_D A (tab cI X d r ++ (bk cW X Bk n ch pd (sm (prcF Wd) n) yr Wd ++ (bk cW X Br 0 0 0 0 0 (fun _ _ => 0) ++ (obj X Bk Br :: (si cI cV Y Ya V n d r ch pd yr Wd ++ R))))) := va_D_perm (pm_in0 _ _ _ _ _ _).symm hD
        refine lv_icmp_eq (tgt := 186) hx hb dX4_isSame_181 (by decide) (fun c_4 => ?_) (fun c_4 => ?_)
        · refine lv_iinc (v := (nI (k + 1))) (lv' := [(3, .int (nI (k + 1))), (2, .int (sm (ageF Wd) n)), (0, .ref (Y 0)), (1, .ref (X 0))]) hx hb dX4_isSame_186 hl (k := 0) rfl (nI_1 k) (by decide) rfl (fun ls hl => ?_)
          refine lv_goto (tgt := 165) hx hb dX4_isSame_189 (by decide) ?_
          exact ih (k + 1) (by omega) H locs hP hD hS ls (lv_sub hl [0, 1, 2, 3] rfl)
        · exact absurd rfl c_4
  have key1 : ∀ (m9 j : Nat), j + m9 = n → ∀ (H : Heap) (locs : List Loc), va_P (dC, dI) vwCl (tab cI X d r ++ (bk cW X Bk n ch pd (sm (prcF Wd) n) yr Wd ++ (bk cW X Br 0 0 0 0 0 (fun _ _ => 0) ++ (obj X Bk Br :: (si cI cV Y Ya V n d r ch pd yr Wd ++ R))))) H → va_D A (tab cI X d r ++ (bk cW X Bk n ch pd (sm (prcF Wd) n) yr Wd ++ (bk cW X Br 0 0 0 0 0 (fun _ _ => 0) ++ (obj X Bk Br :: (si cI cV Y Ya V n d r ch pd yr Wd ++ R))))) → va_S A s.heap H locs → ∀ ls : Array Slot, lv_has ls 7 [(3, .int (nI j)), (2, .int (sm (ageF Wd) j)), (0, .ref (Y 0)), (1, .ref (X 0))] → W p l e (headSpec wsX4_isSame ({ frames := 8, cells := 20, slots := 180, locals := 177 })).room s m (([.ref (Y 0), .ref (X 0)] : List Value).toArray) below meth c H locs j (9 * j) (MQ below (Qi1 dC dI (fun z => z = 1) (tab cI X d r ++ (bk cW X Bk n ch pd (sm (prcF Wd) n) yr Wd ++ (bk cW X Br 0 0 0 0 0 (fun _ _ => 0) ++ (obj X Bk Br :: (si cI cV Y Ya V n d r ch pd yr Wd ++ R))))) (tab cI X d r ++ (bk cW X Bk n ch pd (sm (prcF Wd) n) yr Wd ++ (bk cW X Br 0 0 0 0 0 (fun _ _ => 0) ++ (obj X Bk Br :: (si cI cV Y Ya V n d r ch pd yr Wd ++ R))))) s.heap.size) ([.ref (Y 0), .ref (X 0)] : List Value).toArray s 20 180 A) (F0 m 4 ls []) := by
    intro m9
    induction m9 with
    | zero =>
      intro j hj H locs hP hD hS ls hl
      have hjn : j = n := by omega
      refine lv_iload_n hx hb dX4_isSame_4 rfl (lv_at hl 0 rfl) ?_
      refine lv_aload_n hx hb dX4_isSame_5 rfl (lv_at hl 2 rfl) ?_
      refine va_get (D := (dC, dI)) (ci := 4) (v := .ref Ya) (C := RX4) (T := TX4) (N := 6) hx hb hts (by decide +kernel) hown hKK.1 (siP0 hP) 0 rfl rfl 5 (by decide) (hts (.fieldLink RX4 18 "WidowPenniesLaw$Sim" "all" "[LWidowPenniesLaw$Widow;") (by decide +kernel)) (fun _ h9 => h9) rfl dX4_isSame_6 ?_
      refine va_alen (v := nI n) hx hb hKV (siP0 hP) 3 0 rfl rfl rfl dX4_isSame_9 ?_
      refine lv_icmp_ge (tgt := 163) hx hb dX4_isSame_10 (by decide) (fun c_1 => ?_) (fun c_1 => ?_)
      · refine lv_iconst (v := 0) hx hb dX4_isSame_163 (by decide) ?_
        refine lv_istore_n (lv' := [(3, .int 0), (2, .int (sm (ageF Wd) j)), (0, .ref (Y 0)), (1, .ref (X 0))]) hx hb dX4_isSame_164 rfl hl (by decide) rfl (fun ls hl => ?_)
        refine W.widen (k := 10 + 0) (n := 90 + 9 * 0) (by omega) (by omega) ?_
        exact key2 9 0 (by omega) H locs hP hD hS ls (hl_to (a := [(3, .int 0), (2, .int (sm (ageF Wd) j)), (0, .ref (Y 0)), (1, .ref (X 0))]) (by rw [hjn]; rfl) (lv_sub hl [0, 1, 2, 3] rfl))
      · exact absurd (by rw [hjn]; exact Int32.le_refl _) c_1
    | succ m9 ih =>
      intro j hj H locs hP hD hS ls hl
      have hjn : j < n := by omega
      have hokj := hok j hjn
      refine lv_iload_n hx hb dX4_isSame_4 rfl (lv_at hl 0 rfl) ?_
      refine lv_aload_n hx hb dX4_isSame_5 rfl (lv_at hl 2 rfl) ?_
      refine va_get (D := (dC, dI)) (ci := 4) (v := .ref Ya) (C := RX4) (T := TX4) (N := 6) hx hb hts (by decide +kernel) hown hKK.1 (siP0 hP) 0 rfl rfl 5 (by decide) (hts (.fieldLink RX4 18 "WidowPenniesLaw$Sim" "all" "[LWidowPenniesLaw$Widow;") (by decide +kernel)) (fun _ h9 => h9) rfl dX4_isSame_6 ?_
      refine va_alen (v := nI n) hx hb hKV (siP0 hP) 3 0 rfl rfl rfl dX4_isSame_9 ?_
      refine lv_icmp_ge (tgt := 163) hx hb dX4_isSame_10 (by decide) (fun c_1 => ?_) (fun c_1 => ?_)
      · exact absurd c_1 (fun q9 => absurd ((le_nI (by omega)).mp q9) (by omega))
      · refine lv_aload_n hx hb dX4_isSame_13 rfl (lv_at hl 2 rfl) ?_
        refine va_get (D := (dC, dI)) (ci := 4) (v := .ref Ya) (C := RX4) (T := TX4) (N := 6) hx hb hts (by decide +kernel) hown hKK.1 (siP0 hP) 0 rfl rfl 5 (by decide) (hts (.fieldLink RX4 18 "WidowPenniesLaw$Sim" "all" "[LWidowPenniesLaw$Widow;") (by decide +kernel)) (fun _ h9 => h9) rfl dX4_isSame_14 ?_
        refine lv_iload_n hx hb dX4_isSame_17 rfl (lv_at hl 0 rfl) ?_
        refine va_aldq hx hb hKV (siP0 hP) 3 0 rfl rfl (vp_in_nI hjn (by omega)) dX4_isSame_18 ?_
        rw [show va_rf ((fun k => some (V k)) (nI j).toNatClampNeg) = .ref (V j) from by rw [clamp_nI (show j < 2147483648 by omega)]; rfl]
        refine lv_astore (lv' := [(4, .ref (V j)), (3, .int (nI j)), (2, .int (sm (ageF Wd) j)), (0, .ref (Y 0)), (1, .ref (X 0))]) hx hb dX4_isSame_19 hl (by decide) rfl (fun ls hl => ?_)
        refine lv_bipush (v := 9) hx hb dX4_isSame_21 (by decide) ?_
        refine va_newa (atype := .int) (ty := .int) (a0 := (9, .inl (fun _ => 0))) (N' := 9) hx hb (hts (.arrayClass .int) (by decide +kernel)) rfl hKK.1 hP hD hS hA (fun _ => rfl) (by decide) rfl (by decide) (by show j + 1 ≤ 20; omega) (by show 9 * j + 9 ≤ 180; omega) dX4_isSame_23 (fun o cA H hK2 hP hD hS => ?_)
        have hcA := cls_int hK2
        rw [hcA] at hP hD
        clear hK2 hcA
        have hP : va_P (dC, dI) vwCl (tab cI X d r ++ (bk cW X Bk n ch pd (sm (prcF Wd) n) yr Wd ++ (bk cW X Br 0 0 0 0 0 (fun _ _ => 0) ++ (obj X Bk Br :: ([(o, .inl (cI, 9, .inl (fun _ => 0)))] ++ (si cI cV Y Ya V n d r ch pd yr Wd ++ R)))))) H := va_P_perm (pm_new _ _ _ _ _ _) hP
        have hD : va_D A (tab cI X d r ++ (bk cW X Bk n ch pd (sm (prcF Wd) n) yr Wd ++ (bk cW X Br 0 0 0 0 0 (fun _ _ => 0) ++ (obj X Bk Br :: ([(o, .inl (cI, 9, .inl (fun _ => 0)))] ++ (si cI cV Y Ya V n d r ch pd yr Wd ++ R)))))) := va_D_perm (pm_new _ _ _ _ _ _) hD
        refine lv_dup hx hb dX4_isSame_25 rfl ?_
        refine lv_iconst (v := 0) hx hb dX4_isSame_26 (by decide) ?_
        refine lv_aload hx hb dX4_isSame_27 (lv_at hl 0 rfl) ?_
        refine va_get (D := (dC, dI)) (ci := 5) (v := .int (Wd j 0)) (C := RX5) (T := TX5) (N := 7) hx hb hts (by decide +kernel) hown hKK.1 (siP1 hP) (j + 4) (si_at0 hjn) rfl 0 (by decide) (hts (.fieldLink RX4 52 "WidowPenniesLaw$Widow" "age" "I") (by decide +kernel)) (fun _ h9 => h9) rfl dX4_isSame_29 ?_
        refine va_iast hx hb hKK.1 hP hD hS (27 + 1) 0 (cw_at (k := 1) rfl) rfl (vp_in_nI (n := 0) (by omega) (by omega)) dX4_isSame_32 (fun H locs hP hD hS => ?_)
        rw [show (0 : Int32).toNatClampNeg = 0 from rfl, cw_aset] at hP hD
        have hP : va_P (dC, dI) vwCl (tab cI X d r ++ (bk cW X Bk n ch pd (sm (prcF Wd) n) yr Wd ++ (bk cW X Br 0 0 0 0 0 (fun _ _ => 0) ++ (obj X Bk Br :: ([(o, .inl (cI, 9, .inl (upd (fun _ => 0) 0 (Wd j 0))))] ++ (si cI cV Y Ya V n d r ch pd yr Wd ++ R)))))) H := hP
        have hD : va_D A (tab cI X d r ++ (bk cW X Bk n ch pd (sm (prcF Wd) n) yr Wd ++ (bk cW X Br 0 0 0 0 0 (fun _ _ => 0) ++ (obj X Bk Br :: ([(o, .inl (cI, 9, .inl (upd (fun _ => 0) 0 (Wd j 0))))] ++ (si cI cV Y Ya V n d r ch pd yr Wd ++ R)))))) := hD
        refine lv_dup hx hb dX4_isSame_33 rfl ?_
        refine lv_iconst (v := 1) hx hb dX4_isSame_34 (by decide) ?_
        refine lv_aload hx hb dX4_isSame_35 (lv_at hl 0 rfl) ?_
        refine va_get (D := (dC, dI)) (ci := 5) (v := .int (Wd j 1)) (C := RX5) (T := TX5) (N := 7) hx hb hts (by decide +kernel) hown hKK.1 (siP1 hP) (j + 4) (si_at0 hjn) rfl 1 (by decide) (hts (.fieldLink RX4 49 "WidowPenniesLaw$Widow" "sum" "I") (by decide +kernel)) (fun _ h9 => h9) rfl dX4_isSame_37 ?_
        refine va_iast hx hb hKK.1 hP hD hS (27 + 1) 0 (cw_at (k := 1) rfl) rfl (vp_in_nI (n := 1) (by omega) (by omega)) dX4_isSame_40 (fun H locs hP hD hS => ?_)
        rw [show (1 : Int32).toNatClampNeg = 1 from rfl, cw_aset] at hP hD
        have hP : va_P (dC, dI) vwCl (tab cI X d r ++ (bk cW X Bk n ch pd (sm (prcF Wd) n) yr Wd ++ (bk cW X Br 0 0 0 0 0 (fun _ _ => 0) ++ (obj X Bk Br :: ([(o, .inl (cI, 9, .inl (upd (upd (fun _ => 0) 0 (Wd j 0)) 1 (Wd j 1))))] ++ (si cI cV Y Ya V n d r ch pd yr Wd ++ R)))))) H := hP
        have hD : va_D A (tab cI X d r ++ (bk cW X Bk n ch pd (sm (prcF Wd) n) yr Wd ++ (bk cW X Br 0 0 0 0 0 (fun _ _ => 0) ++ (obj X Bk Br :: ([(o, .inl (cI, 9, .inl (upd (upd (fun _ => 0) 0 (Wd j 0)) 1 (Wd j 1))))] ++ (si cI cV Y Ya V n d r ch pd yr Wd ++ R)))))) := hD
        refine lv_dup hx hb dX4_isSame_41 rfl ?_
        refine lv_iconst (v := 2) hx hb dX4_isSame_42 (by decide) ?_
        refine lv_aload hx hb dX4_isSame_43 (lv_at hl 0 rfl) ?_
        refine va_get (D := (dC, dI)) (ci := 5) (v := .int (Wd j 2)) (C := RX5) (T := TX5) (N := 7) hx hb hts (by decide +kernel) hown hKK.1 (siP1 hP) (j + 4) (si_at0 hjn) rfl 2 (by decide) (hts (.fieldLink RX4 55 "WidowPenniesLaw$Widow" "waits" "I") (by decide +kernel)) (fun _ h9 => h9) rfl dX4_isSame_45 ?_
        refine va_iast hx hb hKK.1 hP hD hS (27 + 1) 0 (cw_at (k := 1) rfl) rfl (vp_in_nI (n := 2) (by omega) (by omega)) dX4_isSame_48 (fun H locs hP hD hS => ?_)
        rw [show (2 : Int32).toNatClampNeg = 2 from rfl, cw_aset] at hP hD
        have hP : va_P (dC, dI) vwCl (tab cI X d r ++ (bk cW X Bk n ch pd (sm (prcF Wd) n) yr Wd ++ (bk cW X Br 0 0 0 0 0 (fun _ _ => 0) ++ (obj X Bk Br :: ([(o, .inl (cI, 9, .inl (upd (upd (upd (fun _ => 0) 0 (Wd j 0)) 1 (Wd j 1)) 2 (Wd j 2))))] ++ (si cI cV Y Ya V n d r ch pd yr Wd ++ R)))))) H := hP
        have hD : va_D A (tab cI X d r ++ (bk cW X Bk n ch pd (sm (prcF Wd) n) yr Wd ++ (bk cW X Br 0 0 0 0 0 (fun _ _ => 0) ++ (obj X Bk Br :: ([(o, .inl (cI, 9, .inl (upd (upd (upd (fun _ => 0) 0 (Wd j 0)) 1 (Wd j 1)) 2 (Wd j 2))))] ++ (si cI cV Y Ya V n d r ch pd yr Wd ++ R)))))) := hD
        refine lv_dup hx hb dX4_isSame_49 rfl ?_
        refine lv_iconst (v := 3) hx hb dX4_isSame_50 (by decide) ?_
        refine lv_aload hx hb dX4_isSame_51 (lv_at hl 0 rfl) ?_
        refine va_get (D := (dC, dI)) (ci := 5) (v := .int (Wd j 3)) (C := RX5) (T := TX5) (N := 7) hx hb hts (by decide +kernel) hown hKK.1 (siP1 hP) (j + 4) (si_at0 hjn) rfl 3 (by decide) (hts (.fieldLink RX4 62 "WidowPenniesLaw$Widow" "since" "I") (by decide +kernel)) (fun _ h9 => h9) rfl dX4_isSame_53 ?_
        refine va_iast hx hb hKK.1 hP hD hS (27 + 1) 0 (cw_at (k := 1) rfl) rfl (vp_in_nI (n := 3) (by omega) (by omega)) dX4_isSame_56 (fun H locs hP hD hS => ?_)
        rw [show (3 : Int32).toNatClampNeg = 3 from rfl, cw_aset] at hP hD
        have hP : va_P (dC, dI) vwCl (tab cI X d r ++ (bk cW X Bk n ch pd (sm (prcF Wd) n) yr Wd ++ (bk cW X Br 0 0 0 0 0 (fun _ _ => 0) ++ (obj X Bk Br :: ([(o, .inl (cI, 9, .inl (upd (upd (upd (upd (fun _ => 0) 0 (Wd j 0)) 1 (Wd j 1)) 2 (Wd j 2)) 3 (Wd j 3))))] ++ (si cI cV Y Ya V n d r ch pd yr Wd ++ R)))))) H := hP
        have hD : va_D A (tab cI X d r ++ (bk cW X Bk n ch pd (sm (prcF Wd) n) yr Wd ++ (bk cW X Br 0 0 0 0 0 (fun _ _ => 0) ++ (obj X Bk Br :: ([(o, .inl (cI, 9, .inl (upd (upd (upd (upd (fun _ => 0) 0 (Wd j 0)) 1 (Wd j 1)) 2 (Wd j 2)) 3 (Wd j 3))))] ++ (si cI cV Y Ya V n d r ch pd yr Wd ++ R)))))) := hD
        refine lv_dup hx hb dX4_isSame_57 rfl ?_
        refine lv_iconst (v := 4) hx hb dX4_isSame_58 (by decide) ?_
        refine lv_aload hx hb dX4_isSame_59 (lv_at hl 0 rfl) ?_
        refine va_get (D := (dC, dI)) (ci := 5) (v := .int (Wd j 4)) (C := RX5) (T := TX5) (N := 7) hx hb hts (by decide +kernel) hown hKK.1 (siP1 hP) (j + 4) (si_at0 hjn) rfl 4 (by decide) (hts (.fieldLink RX4 46 "WidowPenniesLaw$Widow" "state" "I") (by decide +kernel)) (fun _ h9 => h9) rfl dX4_isSame_61 ?_
        refine va_iast hx hb hKK.1 hP hD hS (27 + 1) 0 (cw_at (k := 1) rfl) rfl (vp_in_nI (n := 4) (by omega) (by omega)) dX4_isSame_64 (fun H locs hP hD hS => ?_)
        rw [show (4 : Int32).toNatClampNeg = 4 from rfl, cw_aset] at hP hD
        have hP : va_P (dC, dI) vwCl (tab cI X d r ++ (bk cW X Bk n ch pd (sm (prcF Wd) n) yr Wd ++ (bk cW X Br 0 0 0 0 0 (fun _ _ => 0) ++ (obj X Bk Br :: ([(o, .inl (cI, 9, .inl (upd (upd (upd (upd (upd (fun _ => 0) 0 (Wd j 0)) 1 (Wd j 1)) 2 (Wd j 2)) 3 (Wd j 3)) 4 (Wd j 4))))] ++ (si cI cV Y Ya V n d r ch pd yr Wd ++ R)))))) H := hP
        have hD : va_D A (tab cI X d r ++ (bk cW X Bk n ch pd (sm (prcF Wd) n) yr Wd ++ (bk cW X Br 0 0 0 0 0 (fun _ _ => 0) ++ (obj X Bk Br :: ([(o, .inl (cI, 9, .inl (upd (upd (upd (upd (upd (fun _ => 0) 0 (Wd j 0)) 1 (Wd j 1)) 2 (Wd j 2)) 3 (Wd j 3)) 4 (Wd j 4))))] ++ (si cI cV Y Ya V n d r ch pd yr Wd ++ R)))))) := hD
        refine lv_dup hx hb dX4_isSame_65 rfl ?_
        refine lv_iconst (v := 5) hx hb dX4_isSame_66 (by decide) ?_
        refine lv_aload_n hx hb dX4_isSame_67 rfl (lv_at hl 3 rfl) ?_
        refine lv_aload hx hb dX4_isSame_68 (lv_at hl 0 rfl) ?_
        refine rd_i (runV0S (As := [.ref (V j)]) (rest := [.int 5, .ref o, .ref o]) ⟨hx, hb, hml, hown, hts⟩ (met_X4_kept l dC dI cI cW cV Y Ya V n d r ch pd yr Wd j hjn hokj hi) (cwV 1 hts gX4_isSame_X4_kept rfl rfl rfl (by decide +kernel) ⟨Nat.le_of_ble_eq_true rfl, Nat.le_of_ble_eq_true rfl⟩) hKS (siP1 hP) 4 0 rfl rfl rfl hl.1 (Nat.le_of_ble_eq_true rfl) rfl dX4_isSame_70 ⟨by show j + 1 ≤ 20; omega, by show 9 * j + 9 ≤ 180; omega⟩) (fun r_2 hr_2 => ?_)
        subst hr_2
        refine va_iast hx hb hKK.1 hP hD hS (27 + 1) 0 (cw_at (k := 1) rfl) rfl (vp_in_nI (n := 5) (by omega) (by omega)) dX4_isSame_73 (fun H locs hP hD hS => ?_)
        rw [show (5 : Int32).toNatClampNeg = 5 from rfl, cw_aset] at hP hD
        have hP : va_P (dC, dI) vwCl (tab cI X d r ++ (bk cW X Bk n ch pd (sm (prcF Wd) n) yr Wd ++ (bk cW X Br 0 0 0 0 0 (fun _ _ => 0) ++ (obj X Bk Br :: ([(o, .inl (cI, 9, .inl (upd (upd (upd (upd (upd (upd (fun _ => 0) 0 (Wd j 0)) 1 (Wd j 1)) 2 (Wd j 2)) 3 (Wd j 3)) 4 (Wd j 4)) 5 (keptS d (r 0) (Wd j)))))] ++ (si cI cV Y Ya V n d r ch pd yr Wd ++ R)))))) H := hP
        have hD : va_D A (tab cI X d r ++ (bk cW X Bk n ch pd (sm (prcF Wd) n) yr Wd ++ (bk cW X Br 0 0 0 0 0 (fun _ _ => 0) ++ (obj X Bk Br :: ([(o, .inl (cI, 9, .inl (upd (upd (upd (upd (upd (upd (fun _ => 0) 0 (Wd j 0)) 1 (Wd j 1)) 2 (Wd j 2)) 3 (Wd j 3)) 4 (Wd j 4)) 5 (keptS d (r 0) (Wd j)))))] ++ (si cI cV Y Ya V n d r ch pd yr Wd ++ R)))))) := hD
        refine lv_dup hx hb dX4_isSame_74 rfl ?_
        refine lv_bipush (v := 6) hx hb dX4_isSame_75 (by decide) ?_
        refine lv_aload hx hb dX4_isSame_77 (lv_at hl 0 rfl) ?_
        refine va_get (D := (dC, dI)) (ci := 5) (v := .int (Wd j 5)) (C := RX5) (T := TX5) (N := 7) hx hb hts (by decide +kernel) hown hKK.1 (siP1 hP) (j + 4) (si_at0 hjn) rfl 5 (by decide) (hts (.fieldLink RX4 74 "WidowPenniesLaw$Widow" "got" "I") (by decide +kernel)) (fun _ h9 => h9) rfl dX4_isSame_79 ?_
        refine va_iast hx hb hKK.1 hP hD hS (27 + 1) 0 (cw_at (k := 1) rfl) rfl (vp_in_nI (n := 6) (by omega) (by omega)) dX4_isSame_82 (fun H locs hP hD hS => ?_)
        rw [show (6 : Int32).toNatClampNeg = 6 from rfl, cw_aset] at hP hD
        have hP : va_P (dC, dI) vwCl (tab cI X d r ++ (bk cW X Bk n ch pd (sm (prcF Wd) n) yr Wd ++ (bk cW X Br 0 0 0 0 0 (fun _ _ => 0) ++ (obj X Bk Br :: ([(o, .inl (cI, 9, .inl (upd (upd (upd (upd (upd (upd (upd (fun _ => 0) 0 (Wd j 0)) 1 (Wd j 1)) 2 (Wd j 2)) 3 (Wd j 3)) 4 (Wd j 4)) 5 (keptS d (r 0) (Wd j))) 6 (Wd j 5))))] ++ (si cI cV Y Ya V n d r ch pd yr Wd ++ R)))))) H := hP
        have hD : va_D A (tab cI X d r ++ (bk cW X Bk n ch pd (sm (prcF Wd) n) yr Wd ++ (bk cW X Br 0 0 0 0 0 (fun _ _ => 0) ++ (obj X Bk Br :: ([(o, .inl (cI, 9, .inl (upd (upd (upd (upd (upd (upd (upd (fun _ => 0) 0 (Wd j 0)) 1 (Wd j 1)) 2 (Wd j 2)) 3 (Wd j 3)) 4 (Wd j 4)) 5 (keptS d (r 0) (Wd j))) 6 (Wd j 5))))] ++ (si cI cV Y Ya V n d r ch pd yr Wd ++ R)))))) := hD
        refine lv_dup hx hb dX4_isSame_83 rfl ?_
        refine lv_bipush (v := 7) hx hb dX4_isSame_84 (by decide) ?_
        refine lv_aload hx hb dX4_isSame_86 (lv_at hl 0 rfl) ?_
        refine va_get (D := (dC, dI)) (ci := 5) (v := .int (Wd j 6)) (C := RX5) (T := TX5) (N := 7) hx hb hts (by decide +kernel) hown hKK.1 (siP1 hP) (j + 4) (si_at0 hjn) rfl 6 (by decide) (hts (.fieldLink RX4 77 "WidowPenniesLaw$Widow" "price" "I") (by decide +kernel)) (fun _ h9 => h9) rfl dX4_isSame_88 ?_
        refine va_iast hx hb hKK.1 hP hD hS (27 + 1) 0 (cw_at (k := 1) rfl) rfl (vp_in_nI (n := 7) (by omega) (by omega)) dX4_isSame_91 (fun H locs hP hD hS => ?_)
        rw [show (7 : Int32).toNatClampNeg = 7 from rfl, cw_aset] at hP hD
        have hP : va_P (dC, dI) vwCl (tab cI X d r ++ (bk cW X Bk n ch pd (sm (prcF Wd) n) yr Wd ++ (bk cW X Br 0 0 0 0 0 (fun _ _ => 0) ++ (obj X Bk Br :: ([(o, .inl (cI, 9, .inl (upd (upd (upd (upd (upd (upd (upd (upd (fun _ => 0) 0 (Wd j 0)) 1 (Wd j 1)) 2 (Wd j 2)) 3 (Wd j 3)) 4 (Wd j 4)) 5 (keptS d (r 0) (Wd j))) 6 (Wd j 5)) 7 (Wd j 6))))] ++ (si cI cV Y Ya V n d r ch pd yr Wd ++ R)))))) H := hP
        have hD : va_D A (tab cI X d r ++ (bk cW X Bk n ch pd (sm (prcF Wd) n) yr Wd ++ (bk cW X Br 0 0 0 0 0 (fun _ _ => 0) ++ (obj X Bk Br :: ([(o, .inl (cI, 9, .inl (upd (upd (upd (upd (upd (upd (upd (upd (fun _ => 0) 0 (Wd j 0)) 1 (Wd j 1)) 2 (Wd j 2)) 3 (Wd j 3)) 4 (Wd j 4)) 5 (keptS d (r 0) (Wd j))) 6 (Wd j 5)) 7 (Wd j 6))))] ++ (si cI cV Y Ya V n d r ch pd yr Wd ++ R)))))) := hD
        refine lv_dup hx hb dX4_isSame_92 rfl ?_
        refine lv_bipush (v := 8) hx hb dX4_isSame_93 (by decide) ?_
        refine lv_aload_n hx hb dX4_isSame_95 rfl (lv_at hl 3 rfl) ?_
        refine lv_aload hx hb dX4_isSame_96 (lv_at hl 0 rfl) ?_
        refine rd_i (runV0S (As := [.ref (V j)]) (rest := [.int 8, .ref o, .ref o]) ⟨hx, hb, hml, hown, hts⟩ (met_X4_back l dC dI cI cW cV Y Ya V n d r ch pd yr Wd j hjn hokj hi) (cwV 1 hts gX4_isSame_X4_back rfl rfl rfl (by decide +kernel) ⟨Nat.le_of_ble_eq_true rfl, Nat.le_of_ble_eq_true rfl⟩) hKS (siP1 hP) 4 0 rfl rfl rfl hl.1 (Nat.le_of_ble_eq_true rfl) rfl dX4_isSame_98 ⟨by show j + 1 ≤ 20; omega, by show 9 * j + 9 ≤ 180; omega⟩) (fun r_3 hr_3 => ?_)
        subst hr_3
        refine va_iast hx hb hKK.1 hP hD hS (27 + 1) 0 (cw_at (k := 1) rfl) rfl (vp_in_nI (n := 8) (by omega) (by omega)) dX4_isSame_101 (fun H locs hP hD hS => ?_)
        rw [show (8 : Int32).toNatClampNeg = 8 from rfl, cw_aset] at hP hD
        have hP : va_P (dC, dI) vwCl (tab cI X d r ++ (bk cW X Bk n ch pd (sm (prcF Wd) n) yr Wd ++ (bk cW X Br 0 0 0 0 0 (fun _ _ => 0) ++ (obj X Bk Br :: ([(o, .inl (cI, 9, .inl (upd (upd (upd (upd (upd (upd (upd (upd (upd (fun _ => 0) 0 (Wd j 0)) 1 (Wd j 1)) 2 (Wd j 2)) 3 (Wd j 3)) 4 (Wd j 4)) 5 (keptS d (r 0) (Wd j))) 6 (Wd j 5)) 7 (Wd j 6)) 8 (backS d r (Wd j)))))] ++ (si cI cV Y Ya V n d r ch pd yr Wd ++ R)))))) H := hP
        have hD : va_D A (tab cI X d r ++ (bk cW X Bk n ch pd (sm (prcF Wd) n) yr Wd ++ (bk cW X Br 0 0 0 0 0 (fun _ _ => 0) ++ (obj X Bk Br :: ([(o, .inl (cI, 9, .inl (upd (upd (upd (upd (upd (upd (upd (upd (upd (fun _ => 0) 0 (Wd j 0)) 1 (Wd j 1)) 2 (Wd j 2)) 3 (Wd j 3)) 4 (Wd j 4)) 5 (keptS d (r 0) (Wd j))) 6 (Wd j 5)) 7 (Wd j 6)) 8 (backS d r (Wd j)))))] ++ (si cI cV Y Ya V n d r ch pd yr Wd ++ R)))))) := hD
        refine lv_astore (lv' := [(5, .ref o), (4, .ref (V j)), (3, .int (nI j)), (2, .int (sm (ageF Wd) j)), (0, .ref (Y 0)), (1, .ref (X 0))]) hx hb dX4_isSame_102 hl (by decide) rfl (fun ls hl => ?_)
        refine lv_iconst (v := 0) hx hb dX4_isSame_104 (by decide) ?_
        refine lv_istore (lv' := [(6, .int 0), (5, .ref o), (4, .ref (V j)), (3, .int (nI j)), (2, .int (sm (ageF Wd) j)), (0, .ref (Y 0)), (1, .ref (X 0))]) hx hb dX4_isSame_105 hl (by decide) rfl (fun ls hl => ?_)
        have hq : ∀ f : Nat, f < 9 → (upd (upd (upd (upd (upd (upd (upd (upd (upd (fun _ => 0) 0 (Wd j 0)) 1 (Wd j 1)) 2 (Wd j 2)) 3 (Wd j 3)) 4 (Wd j 4)) 5 (keptS d (r 0) (Wd j))) 6 (Wd j 5)) 7 (Wd j 6)) 8 (backS d r (Wd j))) f = tellS d r (Wd j) f := by
          intro f hf
          rcases (show f = 0 ∨ f = 1 ∨ f = 2 ∨ f = 3 ∨ f = 4 ∨ f = 5 ∨ f = 6 ∨ f = 7 ∨ f = 8 by omega) with rfl | rfl | rfl | rfl | rfl | rfl | rfl | rfl | rfl <;> rfl
        have key3 : ∀ (m8 f : Nat), f + m8 = 9 → ∀ ls : Array Slot, lv_has ls 7 [(6, .int (nI f)), (5, .ref o), (4, .ref (V j)), (3, .int (nI j)), (2, .int (sm (ageF Wd) j)), (0, .ref (Y 0)), (1, .ref (X 0))] → W p l e (headSpec wsX4_isSame ({ frames := 8, cells := 20, slots := 180, locals := 177 })).room s m (([.ref (Y 0), .ref (X 0)] : List Value).toArray) below meth c H locs (j + 1) (9 * j + 9) (MQ below (Qi1 dC dI (fun z => z = 1) (tab cI X d r ++ (bk cW X Bk n ch pd (sm (prcF Wd) n) yr Wd ++ (bk cW X Br 0 0 0 0 0 (fun _ _ => 0) ++ (obj X Bk Br :: (si cI cV Y Ya V n d r ch pd yr Wd ++ R))))) (tab cI X d r ++ (bk cW X Bk n ch pd (sm (prcF Wd) n) yr Wd ++ (bk cW X Br 0 0 0 0 0 (fun _ _ => 0) ++ (obj X Bk Br :: (si cI cV Y Ya V n d r ch pd yr Wd ++ R))))) s.heap.size) ([.ref (Y 0), .ref (X 0)] : List Value).toArray s 20 180 A) (F0 m 107 ls []) := by
          intro m8
          induction m8 with
          | zero =>
            intro f hf ls hl
            have hf9 : f = 9 := by omega
            subst hf9
            refine lv_iload hx hb dX4_isSame_107 (lv_at hl 0 rfl) ?_
            refine lv_bipush (v := 9) hx hb dX4_isSame_109 (by decide) ?_
            refine lv_icmp_ge (tgt := 137) hx hb dX4_isSame_111 (by decide) (fun c_1 => ?_) (fun c_1 => ?_)
            · have hP : va_P (dC, dI) vwCl (tab cI X d r ++ (bk cW X Bk n ch pd (sm (prcF Wd) n) yr Wd ++ (bk cW X Br 0 0 0 0 0 (fun _ _ => 0) ++ (obj X Bk Br :: (si cI cV Y Ya V n d r ch pd yr Wd ++ R))))) _ := dropP hP
              have hD : va_D A (tab cI X d r ++ (bk cW X Bk n ch pd (sm (prcF Wd) n) yr Wd ++ (bk cW X Br 0 0 0 0 0 (fun _ _ => 0) ++ (obj X Bk Br :: (si cI cV Y Ya V n d r ch pd yr Wd ++ R))))) := dropD hD
              refine lv_iload_n hx hb dX4_isSame_137 rfl (lv_at hl 4 rfl) ?_
              refine lv_aload hx hb dX4_isSame_138 (lv_at hl 2 rfl) ?_
              refine va_get (D := (dC, dI)) (ci := 5) (v := .int (Wd j 4)) (C := RX5) (T := TX5) (N := 7) hx hb hts (by decide +kernel) hown hKK.1 (siP0 hP) (j + 4) (si_at0 hjn) rfl 4 (by decide) (hts (.fieldLink RX4 46 "WidowPenniesLaw$Widow" "state" "I") (by decide +kernel)) (fun _ h9 => h9) rfl dX4_isSame_140 ?_
              refine lv_if_ne (tgt := 154) hx hb dX4_isSame_143 (by decide) (fun c_2 => ?_) (fun c_2 => ?_)
              · have hal : ¬ Wd j 4 = 0 := c_2
                refine lv_iconst (v := 0) hx hb dX4_isSame_154 (by decide) ?_
                refine lv_iadd hx hb dX4_isSame_155 ?_
                rw [show ((sm (ageF Wd) j) + 0 : Int32) = sm (ageF Wd) (j + 1) from by simp [sm, ageF, hal]]
                refine lv_istore_n (lv' := [(2, .int (sm (ageF Wd) (j + 1))), (6, .int (nI 9)), (5, .ref o), (4, .ref (V j)), (3, .int (nI j)), (0, .ref (Y 0)), (1, .ref (X 0))]) hx hb dX4_isSame_156 rfl hl (by decide) rfl (fun ls hl => ?_)
                refine lv_iinc (v := (nI (j + 1))) (lv' := [(3, .int (nI (j + 1))), (2, .int (sm (ageF Wd) (j + 1))), (6, .int (nI 9)), (5, .ref o), (4, .ref (V j)), (0, .ref (Y 0)), (1, .ref (X 0))]) hx hb dX4_isSame_157 hl (k := 4) rfl (nI_1 j) (by decide) rfl (fun ls hl => ?_)
                refine lv_goto (tgt := 4) hx hb dX4_isSame_160 (by decide) ?_
                exact ih (j + 1) (by omega) _ _ hP hD hS ls (lv_sub hl [0, 1, 5, 6] rfl)
              · have hal : Wd j 4 = 0 := c_2
                refine lv_aload hx hb dX4_isSame_146 (lv_at hl 2 rfl) ?_
                refine va_get (D := (dC, dI)) (ci := 5) (v := .int (Wd j 0)) (C := RX5) (T := TX5) (N := 7) hx hb hts (by decide +kernel) hown hKK.1 (siP0 hP) (j + 4) (si_at0 hjn) rfl 0 (by decide) (hts (.fieldLink RX4 52 "WidowPenniesLaw$Widow" "age" "I") (by decide +kernel)) (fun _ h9 => h9) rfl dX4_isSame_148 ?_
                refine lv_goto (tgt := 155) hx hb dX4_isSame_151 (by decide) ?_
                refine lv_iadd hx hb dX4_isSame_155 ?_
                rw [show ((sm (ageF Wd) j) + (Wd j 0) : Int32) = sm (ageF Wd) (j + 1) from by simp [sm, ageF, hal]]
                refine lv_istore_n (lv' := [(2, .int (sm (ageF Wd) (j + 1))), (6, .int (nI 9)), (5, .ref o), (4, .ref (V j)), (3, .int (nI j)), (0, .ref (Y 0)), (1, .ref (X 0))]) hx hb dX4_isSame_156 rfl hl (by decide) rfl (fun ls hl => ?_)
                refine lv_iinc (v := (nI (j + 1))) (lv' := [(3, .int (nI (j + 1))), (2, .int (sm (ageF Wd) (j + 1))), (6, .int (nI 9)), (5, .ref o), (4, .ref (V j)), (0, .ref (Y 0)), (1, .ref (X 0))]) hx hb dX4_isSame_157 hl (k := 4) rfl (nI_1 j) (by decide) rfl (fun ls hl => ?_)
                refine lv_goto (tgt := 4) hx hb dX4_isSame_160 (by decide) ?_
                exact ih (j + 1) (by omega) _ _ hP hD hS ls (lv_sub hl [0, 1, 5, 6] rfl)
            · exact absurd (by decide) c_1
          | succ m8 ih8 =>
            intro f hf ls hl
            have hf9 : f < 9 := by omega
            refine lv_iload hx hb dX4_isSame_107 (lv_at hl 0 rfl) ?_
            refine lv_bipush (v := 9) hx hb dX4_isSame_109 (by decide) ?_
            refine lv_icmp_ge (tgt := 137) hx hb dX4_isSame_111 (by decide) (fun c_1 => ?_) (fun c_1 => ?_)
            · exact absurd c_1 (fun q9 => absurd ((le_nI (a := 9) (by omega)).mp q9) (by omega))
            · refine lv_aload_n hx hb dX4_isSame_114 rfl (lv_at hl 6 rfl) ?_
              refine lv_iload_n hx hb dX4_isSame_115 rfl (lv_at hl 3 rfl) ?_
              refine lv_iload hx hb dX4_isSame_116 (lv_at hl 0 rfl) ?_
              refine rd_i (runV0 (As := [.int (nI j), .int (nI f)]) (rest := []) ⟨hx, hb, hml, hown, hts⟩ (met_X3_told l dC dI cI cW X Bk Br d r n ch pd (sm (prcF Wd) n) yr Wd 0 0 0 0 0 (fun _ _ => 0) ([(o, .inl (cI, 9, .inl (upd (upd (upd (upd (upd (upd (upd (upd (upd (fun _ => 0) 0 (Wd j 0)) 1 (Wd j 1)) 2 (Wd j 2)) 3 (Wd j 3)) 4 (Wd j 4)) 5 (keptS d (r 0) (Wd j))) 6 (Wd j 5)) 7 (Wd j 6)) 8 (backS d r (Wd j)))))] ++ (si cI cV Y Ya V n d r ch pd yr Wd ++ R)) hn hok j f hjn hf9 hi hi0) (cwV 2 hts gX4_isSame_X3_told rfl rfl rfl (by decide +kernel) ⟨Nat.le_of_ble_eq_true rfl, Nat.le_of_ble_eq_true rfl⟩) hKK hP 3 27 rfl cw_obj rfl hl.1 (Nat.le_of_ble_eq_true rfl) rfl dX4_isSame_118 ⟨by show j + 1 ≤ 20; omega, by show 9 * j + 9 ≤ 180; omega⟩) (fun r_2 hr_2 => ?_)
              subst hr_2
              refine lv_aload hx hb dX4_isSame_121 (lv_at hl 1 rfl) ?_
              refine lv_iload hx hb dX4_isSame_123 (lv_at hl 0 rfl) ?_
              refine va_iald hx hb hKK.1 hP (27 + 1) 0 (cw_at (k := 1) rfl) rfl (vp_in_nI hf9 (by omega)) dX4_isSame_125 ?_
              rw [show (upd (upd (upd (upd (upd (upd (upd (upd (upd (fun _ => 0) 0 (Wd j 0)) 1 (Wd j 1)) 2 (Wd j 2)) 3 (Wd j 3)) 4 (Wd j 4)) 5 (keptS d (r 0) (Wd j))) 6 (Wd j 5)) 7 (Wd j 6)) 8 (backS d r (Wd j))) (nI f).toNatClampNeg = (upd (upd (upd (upd (upd (upd (upd (upd (upd (fun _ => 0) 0 (Wd j 0)) 1 (Wd j 1)) 2 (Wd j 2)) 3 (Wd j 3)) 4 (Wd j 4)) 5 (keptS d (r 0) (Wd j))) 6 (Wd j 5)) 7 (Wd j 6)) 8 (backS d r (Wd j))) f from congrArg (upd (upd (upd (upd (upd (upd (upd (upd (upd (fun _ => 0) 0 (Wd j 0)) 1 (Wd j 1)) 2 (Wd j 2)) 3 (Wd j 3)) 4 (Wd j 4)) 5 (keptS d (r 0) (Wd j))) 6 (Wd j 5)) 7 (Wd j 6)) 8 (backS d r (Wd j))) (clamp_nI (by omega))]
              refine lv_icmp_eq (tgt := 131) hx hb dX4_isSame_126 (by decide) (fun c_3 => ?_) (fun c_3 => ?_)
              · refine lv_iinc (v := (nI (f + 1))) (lv' := [(6, .int (nI (f + 1))), (5, .ref o), (4, .ref (V j)), (3, .int (nI j)), (2, .int (sm (ageF Wd) j)), (0, .ref (Y 0)), (1, .ref (X 0))]) hx hb dX4_isSame_131 hl (k := 0) rfl (nI_1 f) (by decide) rfl (fun ls hl => ?_)
                refine lv_goto (tgt := 107) hx hb dX4_isSame_134 (by decide) ?_
                exact ih8 (f + 1) (by omega) ls (lv_sub hl [0, 1, 2, 3, 4, 5, 6] rfl)
              · exact absurd (hq f hf9).symm c_3
        exact key3 9 0 (by omega) ls (lv_sub hl [0, 1, 2, 3, 4, 5, 6] rfl)
  refine lv_iconst (v := 0) hx hb dX4_isSame_0 (by decide) ?_
  refine lv_istore_n (lv' := [(2, .int 0), (0, .ref (Y 0)), (1, .ref (X 0))]) hx hb dX4_isSame_1 rfl hl (by decide) rfl (fun ls hl => ?_)
  refine lv_iconst (v := 0) hx hb dX4_isSame_2 (by decide) ?_
  refine lv_istore_n (lv' := [(3, .int 0), (2, .int 0), (0, .ref (Y 0)), (1, .ref (X 0))]) hx hb dX4_isSame_3 rfl hl (by decide) rfl (fun ls hl => ?_)
  refine W.widen (k := 0) (n := 9 * 0) (by omega) (by omega) ?_
  exact key1 n 0 (by omega) _ _ hP hD hS ls (lv_sub hl [0, 1, 2, 3] rfl)
