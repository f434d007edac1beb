/-! the law's own book (Sim): what holds wherever we are, its world, and the calls of its methods -/
def KS (dC : Nat → ClassId) (dI : Nat → Nat → Nat) (cI cW cV : ClassId) (U : State) : Prop :=
  KK dC dI cI cW U ∧ va_K (dC, dI) vwCl [(cV, .object "WidowPenniesLaw$Widow")] U ∧ va_Nw (.methodLinkNest RL 86 yX5_init RL) U ∧ va_AO "WidowPenniesLaw$Widow" U
theorem KS.warm {dC : Nat → ClassId} {dI : Nat → Nat → Nat} {cI cW cV : ClassId} {s U : State} (hW : s.WarmedH U.vm) (h : KS dC dI cI cW cV s) : KS dC dI cI cW cV U :=
  ⟨h.1.warm hW, va_K.moved hW.alike h.2.1, va_Nw.warmM hW h.2.2.1, va_AO.moved hW.alike h.2.2.2⟩
theorem KS.calling {dC : Nat → ClassId} {dI : Nat → Nat → Nat} {cI cW cV : ClassId} {U : State} (g : JFrame) (mk : MethodId) (a : Array Value) (h : KS dC dI cI cW cV U) : KS dC dI cI cW cV (U.calling g mk a) :=
  ⟨h.1.calling g mk a, va_K.moved (u := U) (U := U.calling g mk a) (Vm.Alike.refl U.vm) h.2.1, va_Nw.same rfl rfl h.2.2.1, va_AO.moved (u := U) (U := U.calling g mk a) (Vm.Alike.refl U.vm) h.2.2.2⟩
def Pre0S (dC : Nat → ClassId) (dI : Nat → Nat → Nat) (cI cW cV : ClassId) (av : List Value) (ws : va_W) : Array Value → State → Prop :=
  va_Pc av (fun U => va_P (dC, dI) vwCl ws U.heap ∧ KS dC dI cI cW cV U)
theorem Pre0S_blind {dC : Nat → ClassId} {dI : Nat → Nat → Nat} {cI cW cV : ClassId} {av : List Value} {ws : va_W} : FrameBlind (Pre0S dC dI cI cW cV av ws) :=
  fun a U g mk h => ⟨h.1, h.2.1, h.2.2.calling g mk a⟩
def Pre1S (dC : Nat → ClassId) (dI : Nat → Nat → Nat) (cI cW cV : ClassId) (av : List Value) (ws : va_W) (sz : Nat) : Array Value → State → Prop :=
  va_Pc av (fun U => U.heap.size = sz ∧ va_P (dC, dI) vwCl ws U.heap ∧ va_D (fun _ => True) ws ∧ KS dC dI cI cW cV U)
theorem Pre1S_blind {dC : Nat → ClassId} {dI : Nat → Nat → Nat} {cI cW cV : ClassId} {av : List Value} {ws : va_W} {sz : Nat} : FrameBlind (Pre1S dC dI cI cW cV av ws sz) :=
  fun a U g mk h => ⟨h.1, h.2.1, h.2.2.1, h.2.2.2.1, h.2.2.2.2.calling g mk a⟩
/-- one that reads the script besides -/
def PreX0 (dC : Nat → ClassId) (dI : Nat → Nat → Nat) (cI cW cV : ClassId) (b L : Nat) (xs : Nat → Int32) (av : List Value) : Array Value → State → Prop :=
  va_Pc av (fun U => va_X b L xs U U.heap ∧ b < U.heap.size ∧ KS dC dI cI cW cV U)
theorem PreX0_blind {dC : Nat → ClassId} {dI : Nat → Nat → Nat} {cI cW cV : ClassId} {b L : Nat} {xs : Nat → Int32} {av : List Value} : FrameBlind (PreX0 dC dI cI cW cV b L xs av) :=
  fun a U g mk h => ⟨h.1, va_X.moved (u := U) (U := U.calling g mk a) (Vm.Alike.refl U.vm) h.2.1, h.2.2.1, h.2.2.2.calling g mk a⟩
def PreX1 (dC : Nat → ClassId) (dI : Nat → Nat → Nat) (cI cW cV : ClassId) (b L : Nat) (xs : Nat → Int32) (av : List Value) (ws : va_W) (sz : Nat) : Array Value → State → Prop :=
  va_Pc av (fun U => U.heap.size = sz ∧ va_P (dC, dI) vwCl ws U.heap ∧ va_D (fun q => q ≠ b) ws ∧ KS dC dI cI cW cV U ∧ va_X b L xs U U.heap ∧ b < U.heap.size)
theorem PreX1_blind {dC : Nat → ClassId} {dI : Nat → Nat → Nat} {cI cW cV : ClassId} {b L : Nat} {xs : Nat → Int32} {av : List Value} {ws : va_W} {sz : Nat} : FrameBlind (PreX1 dC dI cI cW cV b L xs av ws sz) :=
  fun a U g mk h => ⟨h.1, h.2.1, h.2.2.1, h.2.2.2.1, h.2.2.2.2.1.calling g mk a, va_X.moved (u := U) (U := U.calling g mk a) (Vm.Alike.refl U.vm) h.2.2.2.2.2.1, h.2.2.2.2.2.2⟩
section RDS
variable {p : Program} {l : Launch} {e : Env} {R : Room} {s : State} {m : MethodId} {args : Array Value} {below : List Frame} {meth : Method} {c : Code} {H : Heap} {locs : List Loc} {cells slots : Nat} {Q : State → Prop}
variable {cc bytes : ByteArray} {pc nL maxL n index : Nat} {ls : Array Slot} {rest st0 As : List Value} {a : Array Value}
variable {dC : Nat → ClassId} {dI : Nat → Nat → Nat} {cI cW cV : ClassId} {Ts ws : List Cond} {own C host : String} {y : MethodName} {ret : Option FieldType} {rm : Room} {b : Addr} {wc : va_W}
theorem runV0S {Qc : Array Value → State → Outcome → State → Prop} (S : CallFix p m c cc nL s args Ts own) (hM : Met l y ws rm (Pre0S dC dI cI cW cV (.ref b :: As) wc) Qc 0 0 (fun _ => False)) (cw : CallW R s args own C index y bytes maxL ret ws rm 0 0 n)
    (hKS : KS dC dI cI cW cV s) (hP : va_P (dC, dI) vwCl wc H) (ci q0 : Nat) {fs : List Value} {T : u_T} {N : Nat} (hc : vwCl[ci]? = some (C, T, N)) (he : wc[q0]? = some (b, .inr (ci, fs)))
    (hn : As.length = n) (hsize : ls.size = nL) (hcat : (rest.map fun v => v.category).sum ≤ 8) (hstack : st0 = As.reverse ++ .ref b :: rest) (hdg : decode cc pc = .ok (.invokevirtual index, 3)) (hrm : cells ≤ R.cells ∧ slots ≤ R.slots) :
    va_Run p l e R s m args below meth c H locs cells slots 0 0 (F0 m pc ls st0) rest (Qc (Value.ref b :: As).toArray) (fun _ => False) :=
  va_runV S hM cw ⟨Pre0S_blind, va_recv hKS.1.1 hP hc he, fun U hU hW => ⟨rfl, by rw [hU]; exact hP, hKS.warm hW⟩⟩ rfl hn hsize hstack (lv_room hcat) hdg hrm
theorem runV1S {Qc : Array Value → State → Outcome → State → Prop} {mc ms : Nat} {free : Addr → Prop} (S : CallFix p m c cc nL s args Ts own) (hM : Met l y ws rm (Pre1S dC dI cI cW cV (.ref b :: As) wc H.size) Qc mc ms free) (cw : CallW R s args own C index y bytes maxL ret ws rm mc ms n)
    (hKS : KS dC dI cI cW cV s) (hP : va_P (dC, dI) vwCl wc H) {A : Nat → Prop} (hD : va_D A wc) (ci q0 : Nat) {fs : List Value} {T : u_T} {N : Nat} (hc : vwCl[ci]? = some (C, T, N)) (he : wc[q0]? = some (b, .inr (ci, fs)))
    (hn : As.length = n) (hsize : ls.size = nL) (hcat : (rest.map fun v => v.category).sum ≤ 8) (hstack : st0 = As.reverse ++ .ref b :: rest) (hdg : decode cc pc = .ok (.invokevirtual index, 3)) (hrm : cells + mc ≤ R.cells ∧ slots + ms ≤ R.slots) :
    va_Run p l e R s m args below meth c H locs cells slots mc ms (F0 m pc ls st0) rest (Qc (Value.ref b :: As).toArray) free :=
  va_runV S hM cw ⟨Pre1S_blind, va_recv hKS.1.1 hP hc he, fun U hU hW => ⟨rfl, by rw [hU], by rw [hU]; exact hP, hD.weaken (fun _ _ _ _ => trivial), hKS.warm hW⟩⟩ rfl hn hsize hstack (lv_room hcat) hdg hrm
theorem runS1S {Qc : Array Value → State → Outcome → State → Prop} {mc ms : Nat} {free : Addr → Prop} (S : CallFix p m c cc nL s args Ts own) (hM : Met l y ws rm (Pre1S dC dI cI cW cV As wc H.size) Qc mc ms free) (cw : CallB R s args own index y bytes maxL ret ws rm mc ms n ∧ (Cond.static y).before args s = true)
    (hKS : KS dC dI cI cW cV s) (hP : va_P (dC, dI) vwCl wc H) {A : Nat → Prop} (hD : va_D A wc)
    (hn : As.length = n) (hsize : ls.size = nL) (hcat : (rest.map fun v => v.category).sum ≤ 8) (hstack : st0 = As.reverse ++ rest) (hdg : decode cc pc = .ok (.invokestatic index, 3)) (hrm : cells + mc ≤ R.cells ∧ slots + ms ≤ R.slots) :
    va_Run p l e R s m args below meth c H locs cells slots mc ms (F0 m pc ls st0) rest (Qc As.toArray) free :=
  va_runS S hM cw ⟨Pre1S_blind, fun U hU hW => ⟨rfl, by rw [hU], by rw [hU]; exact hP, hD.weaken (fun _ _ _ _ => trivial), hKS.warm hW⟩⟩ rfl hn hsize hstack (lv_room hcat) hdg hrm
theorem runI1S {Qc : Array Value → State → Outcome → State → Prop} {mc ms : Nat} {free : Addr → Prop} (S : CallFix p m c cc nL s args Ts own) (hM : Met l y ws rm (Pre1S dC dI cI cW cV (.ref b :: As) wc H.size) Qc mc ms free) (cw : CallB R s args own index y bytes maxL none ws rm mc ms n ∧ y.name = "<init>" ∧ (Cond.instanceMethod y).before args s = true)
    (hKS : KS dC dI cI cW cV s) (hP : va_P (dC, dI) vwCl wc H) {A : Nat → Prop} (hD : va_D A wc)
    (hn : As.length = n) (hsize : ls.size = nL) (hcat : (rest.map fun v => v.category).sum ≤ 8) (hstack : st0 = As.reverse ++ .ref b :: rest) (hdg : decode cc pc = .ok (.invokespecial index, 3)) (hrm : cells + mc ≤ R.cells ∧ slots + ms ≤ R.slots) :
    va_Run p l e R s m args below meth c H locs cells slots mc ms (F0 m pc ls st0) rest (Qc (Value.ref b :: As).toArray) free :=
  va_runI S hM cw ⟨Pre1S_blind, fun U hU hW => ⟨rfl, by rw [hU], by rw [hU]; exact hP, hD.weaken (fun _ _ _ _ => trivial), hKS.warm hW⟩⟩ rfl hn hsize hstack (lv_room hcat) hdg hrm
theorem runSX0 {L : Nat} {xs : Nat → Int32} {sb : Nat} {Qc : Array Value → State → Outcome → State → Prop} (S : CallFix p m c cc nL s args Ts own) (hM : Met l y ws rm (PreX0 dC dI cI cW cV sb L xs As) Qc 0 0 (fun _ => False)) (cw : CallB R s args own index y bytes maxL ret ws rm 0 0 n ∧ (Cond.static y).before args s = true)
    (hKS : KS dC dI cI cW cV s) (hX : va_X sb L xs s H) (hbl : sb < H.size)
    (hn : As.length = n) (hsize : ls.size = nL) (hcat : (rest.map fun v => v.category).sum ≤ 8) (hstack : st0 = As.reverse ++ rest) (hdg : decode cc pc = .ok (.invokestatic index, 3)) (hrm : cells ≤ R.cells ∧ slots ≤ R.slots) :
    va_Run p l e R s m args below meth c H locs cells slots 0 0 (F0 m pc ls st0) rest (Qc As.toArray) (fun _ => False) :=
  va_runS S hM cw ⟨PreX0_blind, fun U hU hW => ⟨rfl, by rw [hU]; exact va_X.moved hW.alike hX, by rw [hU]; exact hbl, hKS.warm hW⟩⟩ rfl hn hsize hstack (lv_room hcat) hdg hrm
theorem runSX1 {L : Nat} {xs : Nat → Int32} {sb : Nat} {Qc : Array Value → State → Outcome → State → Prop} {mc ms : Nat} {free : Addr → Prop} (S : CallFix p m c cc nL s args Ts own) (hM : Met l y ws rm (PreX1 dC dI cI cW cV sb L xs As wc H.size) Qc mc ms free) (cw : CallB R s args own index y bytes maxL ret ws rm mc ms n ∧ (Cond.static y).before args s = true)
    (hKS : KS dC dI cI cW cV s) (hP : va_P (dC, dI) vwCl wc H) {A : Nat → Prop} (hD : va_D A wc) (hbA : ¬ A sb) (hX : va_X sb L xs s H) (hbl : sb < H.size)
    (hn : As.length = n) (hsize : ls.size = nL) (hcat : (rest.map fun v => v.category).sum ≤ 8) (hstack : st0 = As.reverse ++ rest) (hdg : decode cc pc = .ok (.invokestatic index, 3)) (hrm : cells + mc ≤ R.cells ∧ slots + ms ≤ R.slots) :
    va_Run p l e R s m args below meth c H locs cells slots mc ms (F0 m pc ls st0) rest (Qc As.toArray) free :=
  va_runS S hM cw ⟨PreX1_blind, fun U hU hW => ⟨rfl, by rw [hU], by rw [hU]; exact hP, hD.weaken (fun _ _ _ h9 e => hbA (e ▸ h9)), hKS.warm hW, by rw [hU]; exact va_X.moved hW.alike hX, by rw [hU]; exact hbl⟩⟩ rfl hn hsize hstack (lv_room hcat) hdg hrm
theorem wr_iU {S : Type} {A : Nat → Prop} {H0 : Heap} {mc ms : Nat} {wc' : S → va_W} {post : Int32 → S → Prop} (hr : va_Run p l e R s m args below meth c H locs cells slots mc ms (F0 m pc ls st0) rest (va_Qi post (fun u t => va_P (dC, dI) vwCl (wc' u) t.heap ∧ va_D (va_A wc H.size) (wc' u)) (va_A wc H.size) a) (va_A wc H.size)) (hD : va_D A wc) (hS : va_S A H0 H locs) (hA : ∀ q, H0.size ≤ q → A q)
    (kk : ∀ (u : S) (r : Int32) (H1 : Heap) (locs1 : List Loc), post r u → va_P (dC, dI) vwCl (wc' u) H1 → va_D A (wc' u) → va_S A H0 H1 locs1 → W p l e R s m args below meth c H1 locs1 (cells + mc) (slots + ms) Q (F0 m (pc + 3) ls (.int r :: rest))) : W p l e R s m args below meth c H locs cells slots Q (F0 m pc ls st0) :=
  va_calli hr hS (fun q _ h => free_all hD hS hA q h) (free_all hD hS hA) (fun r u t H1 locs1 ht hvm hw hB hz hk hS1 => kk u r H1 locs1 hw (by rw [← ht]; exact hB.1) (hB.2.weaken (fun _ q _ h => free_all hD hS hA q.1 h)) hS1)
end RDS
def sw (n : Nat) (V : Nat → Nat) (Wd : Nat → Nat → Int32) : va_W := (List.range n).map (fun k => (V k, .inr (5, row (Wd k))))
abbrev si (cI cV : ClassId) (Y : Nat → Nat) (Ya : Nat) (V : Nat → Nat) (n : Nat) (d r : Nat → Int32) (ch pd yr : Int32) (Wd : Nat → Nat → Int32) : va_W :=
  (Y 0, .inr (4, [.int yr, .int ch, .int pd, .ref (Y 1), .ref (Y 2), .ref Ya])) :: (Y 1, .inl (cI, 3, .inl r)) :: (Y 2, .inl (cI, 50, .inl d)) :: (Ya, .inl (cV, n, .inr (.inr (.inr (.inr (fun k => some (V k))))))) :: sw n V Wd
theorem sw_len (n : Nat) (V : Nat → Nat) (Wd : Nat → Nat → Int32) : (sw n V Wd).length = n := by simp [sw]
theorem sw_at {n : Nat} {V : Nat → Nat} {Wd : Nat → Nat → Int32} {k : Nat} (h : k < n) : (sw n V Wd)[k]? = some (V k, .inr (5, row (Wd k))) := by
  simp [sw, List.getElem?_map, List.getElem?_range h]
theorem sw_set {n : Nat} {V : Nat → Nat} {Wd : Nat → Nat → Int32} {k : Nat} {g : Nat → Int32} : (sw n V Wd).set k (V k, .inr (5, row g)) = sw n V (upW Wd k g) := by
  apply List.ext_getElem?
  intro j
  by_cases hj : j < n
  · rw [sw_at hj, List.getElem?_set]
    by_cases e : k = j
    · subst e
      simp [sw_len, hj, upW]
    · rw [if_neg e, sw_at hj]
      simp [upW, show ¬ j = k from fun q => e q.symm]
  · have h1 : ((sw n V Wd).set k (V k, .inr (5, row g)))[j]? = none := List.getElem?_eq_none (by rw [List.length_set, sw_len]; omega)
    have h2 : (sw n V (upW Wd k g))[j]? = none := List.getElem?_eq_none (by rw [sw_len]; omega)
    rw [h1, h2]
theorem sw_snoc (n : Nat) (V : Nat → Nat) (Wd : Nat → Nat → Int32) (v : Nat) (f : Nat → Int32) : sw n V Wd ++ [(v, .inr (5, row f))] = sw (n + 1) (fun i => if i = n then v else V i) (upW Wd n f) := by
  unfold sw
  rw [List.range_succ, List.map_append]
  congr 1
  · apply List.map_congr_left
    intro j hj
    have := List.mem_range.mp hj
    simp [upW, show ¬ j = n by omega]
  · simp [upW]
section SI
variable {cI cV : ClassId} {Y : Nat → Nat} {Ya : Nat} {V : Nat → Nat} {n : Nat} {d r : Nat → Int32} {ch pd yr : Int32} {Wd : Nat → Nat → Int32} {R : va_W} {k : Nat} {g g1 : Nat → Int32}
theorem si_at0 (h : k < n) : (si cI cV Y Ya V n d r ch pd yr Wd)[k + 4]? = some (V k, .inr (5, row (Wd k))) := by
  show (sw n V Wd)[k]? = _
  exact sw_at h
theorem si_at (h : k < n) : (si cI cV Y Ya V n d r ch pd yr Wd ++ R)[k + 4]? = some (V k, .inr (5, row (Wd k))) := by
  show (sw n V Wd ++ R)[k]? = _
  rw [List.getElem?_append_left (by rw [sw_len]; exact h)]
  exact sw_at h
theorem si_set (h : k < n) : (si cI cV Y Ya V n d r ch pd yr Wd ++ R).set (k + 4) (V k, .inr (5, row g)) = si cI cV Y Ya V n d r ch pd yr (upW Wd k g) ++ R := by
  have e : (sw n V Wd ++ R).set k (V k, .inr (5, row g)) = sw n V (upW Wd k g) ++ R := by
    rw [List.set_append_left _ _ (by rw [sw_len]; exact h), sw_set]
  show _ :: _ :: _ :: _ :: (sw n V Wd ++ R).set k (V k, .inr (5, row g)) = _
  rw [e]
  rfl
theorem si_atU (h : k < n) : (si cI cV Y Ya V n d r ch pd yr (upW Wd k g) ++ R)[k + 4]? = some (V k, .inr (5, row g)) := by
  rw [si_at h, upW_at]
theorem si_setU (h : k < n) : (si cI cV Y Ya V n d r ch pd yr (upW Wd k g) ++ R).set (k + 4) (V k, .inr (5, row g1)) = si cI cV Y Ya V n d r ch pd yr (upW Wd k g1) ++ R := by
  rw [si_set h, upW_upW]
end SI
/-- the number that below(v, n) answers -/
def belS (v n : Int32) : Int32 := (v &&& 2147483647) - (v &&& 2147483647) / n * n
theorem bel_nI (v : Int32) {n : Nat} (h0 : 0 < n) (h : n < 2147483648) : ∃ k : Nat, k < n ∧ belS v (nI n) = nI k := by
  obtain ⟨j, hj, e⟩ := pk_andE v (m := 2147483647) 31 (by decide)
  refine ⟨j % n, Nat.mod_lt _ h0, ?_⟩
  unfold belS
  rw [e]
  exact pk_rem (by omega) h0 (by omega)
theorem lcmp_gt {ch : Int32} {x : Int64} (h : ¬ lg_cmp (ch.toInt64 + x) 99999999 ≤ 0) : (99999999 : Int32) = comeS ch x := by
  unfold comeS
  have h1 : (99999999 : Int64) < ch.toInt64 + x := by
    refine Decidable.byContradiction (fun q => h ?_)
    unfold lg_cmp
    rw [if_neg q]
    split <;> decide
  rw [if_neg (fun z => absurd (Int64.lt_trans h1 z) Int64.lt_irrefl)]
  rfl
theorem lcmp_le {ch : Int32} {x : Int64} (h : lg_cmp (ch.toInt64 + x) 99999999 ≤ 0) : (ch.toInt64 + x).toInt32 = comeS ch x := by
  unfold comeS
  have h1 : ¬ (99999999 : Int64) < ch.toInt64 + x := by
    intro q
    unfold lg_cmp at h
    rw [if_pos q] at h
    exact absurd h (by decide)
  by_cases z : ch.toInt64 + x < 99999999
  · rw [if_pos z]
  · rw [if_neg z, Int64.le_antisymm (Int64.not_lt.mp h1) (Int64.not_lt.mp z)]
