/-! base: what every contract here starts from and ends in; the rows of a call that only reads, and of one that writes its own world -/
abbrev TY (cI cW : ClassId) : List (ClassId × FieldType) := [(cI, .int), (cW, .object "WidowPennies$Widow")]
/-- what the tables say, wherever we are -/
def KK (dC : Nat → ClassId) (dI : Nat → Nat → Nat) (cI cW : ClassId) (U : State) : Prop :=
  va_K (dC, dI) vwCl (TY cI cW) U ∧ va_Nw (.methodLinkNest RX1 18 yX3_isAge RX3) U ∧ va_Nw (.methodLinkNest RX0 21 yX2_init RX3) U
theorem KK.warm {dC : Nat → ClassId} {dI : Nat → Nat → Nat} {cI cW : ClassId} {s U : State} (hW : s.WarmedH U.vm) (h : KK dC dI cI cW s) : KK dC dI cI cW U :=
  ⟨va_K.moved hW.alike h.1, va_Nw.warmM hW h.2.1, va_Nw.warmM hW h.2.2⟩
theorem KK.calling {dC : Nat → ClassId} {dI : Nat → Nat → Nat} {cI cW : ClassId} {U : State} (g : JFrame) (mk : MethodId) (a : Array Value) (h : KK dC dI cI cW U) : KK dC dI cI cW (U.calling g mk a) :=
  ⟨va_K.moved (u := U) (U := U.calling g mk a) (Vm.Alike.refl U.vm) h.1, va_Nw.same rfl rfl h.2.1, va_Nw.same rfl rfl h.2.2⟩
def Pre0 (dC : Nat → ClassId) (dI : Nat → Nat → Nat) (cI cW : ClassId) (av : List Value) (ws : va_W) : Array Value → State → Prop :=
  va_Pc av (fun U => va_P (dC, dI) vwCl ws U.heap ∧ KK dC dI cI cW U)
theorem Pre0_blind {dC : Nat → ClassId} {dI : Nat → Nat → Nat} {cI cW : ClassId} {av : List Value} {ws : va_W} : FrameBlind (Pre0 dC dI cI cW av ws) :=
  fun a U g mk h => ⟨h.1, h.2.1, h.2.2.calling g mk a⟩
def Pre1 (dC : Nat → ClassId) (dI : Nat → Nat → Nat) (cI cW : ClassId) (av : List Value) (ws : va_W) (sz : Nat) : Array Value → State → Prop :=
  va_Pc av (fun U => U.heap.size = sz ∧ va_P (dC, dI) vwCl ws U.heap ∧ va_D (fun _ => True) ws ∧ KK dC dI cI cW U)
theorem Pre1_blind {dC : Nat → ClassId} {dI : Nat → Nat → Nat} {cI cW : ClassId} {av : List Value} {ws : va_W} {sz : Nat} : FrameBlind (Pre1 dC dI cI cW av ws sz) :=
  fun a U g mk h => ⟨h.1, h.2.1, h.2.2.1, h.2.2.2.1, h.2.2.2.2.calling g mk a⟩
/-- the end of a method that writes its own world -/
abbrev Qv1 (dC : Nat → ClassId) (dI : Nat → Nat → Nat) (ws ws' : va_W) (sz : Nat) : Array Value → State → Outcome → State → Prop :=
  va_Qv (fun _ : Unit => True) (fun _ t => va_P (dC, dI) vwCl ws' t.heap ∧ va_D (va_A ws sz) ws') (va_A ws sz)
abbrev Qi1 (dC : Nat → ClassId) (dI : Nat → Nat → Nat) (post : Int32 → Prop) (ws ws' : va_W) (sz : Nat) : Array Value → State → Outcome → State → Prop :=
  va_Qi (fun (r : Int32) (_ : Unit) => post r) (fun _ t => va_P (dC, dI) vwCl ws' t.heap ∧ va_D (va_A ws sz) ws') (va_A ws sz)
theorem free_all {A0 : Nat → Prop} {ws : va_W} {H0 H : Heap} {locs : List Loc} (hD : va_D A0 ws) (hS : va_S A0 H0 H locs) (hA : ∀ q, H0.size ≤ q → A0 q) : ∀ q, va_A ws H.size q → A0 q := by
  intro q h
  rcases h with ⟨k, e, h⟩ | h
  · exact hD.2 k (q, e) h
  · exact hA q (Nat.le_trans hS.1 h)
theorem set_at {ws : va_W} {q0 : Nat} {e0 e : Nat × va_E} (h : ws[q0]? = some e0) : (ws.set q0 e)[q0]? = some e := by
  have hl : q0 < ws.length := (List.getElem?_eq_some_iff.mp h).1
  simp [hl]
theorem ws_left {D : va_G} {cl : List vw_C} {a b : va_W} {H : Heap} (h : va_P D cl (a ++ b) H) : va_P D cl a H := fun k q hk => h k q (by
  have hl : k < a.length := (List.getElem?_eq_some_iff.mp hk).1
  rw [List.getElem?_append_left hl]; exact hk)
theorem ws_right {D : va_G} {cl : List vw_C} {a b : va_W} {H : Heap} (h : va_P D cl (a ++ b) H) : va_P D cl b H := fun k q hk => h (a.length + k) q (by
  rw [List.getElem?_append_right (by omega), show a.length + k - a.length = k by omega]; exact hk)
theorem ws_one {D : va_G} {cl : List vw_C} {ws : va_W} {H : Heap} {i : Nat} {x : Nat × va_E} (h : va_P D cl ws H) (hi : ws[i]? = some x) : va_P D cl [x] H := fun k q hk => by
  have hz : k < 1 := (List.getElem?_eq_some_iff.mp hk).1
  rw [show k = 0 by omega] at hk
  cases hk
  exact h i _ hi
section RD
variable {p : Program} {l : Launch} {e : Env} {R : Room} {s : State} {m : MethodId} {args : Array Value} {below : List Frame} {meth : Method} {c : Code} {H : Heap} {locs : List Loc} {cells slots : Nat} {Q : State → Prop}
variable {cc bytes : ByteArray} {pc nL maxL n index : Nat} {ls : Array Slot} {rest st0 As : List Value} {a : Array Value}
variable {dC : Nat → ClassId} {dI : Nat → Nat → Nat} {cI cW : ClassId} {Ts ws : List Cond} {own C host : String} {y : MethodName} {ret : Option FieldType} {rm : Room} {b : Addr} {wc : va_W}
theorem rd_i {post : Int32 → Prop} (hr : va_Run p l e R s m args below meth c H locs cells slots 0 0 (F0 m pc ls st0) rest (vp_Si post a) (fun _ => False))
    (kk : ∀ r : Int32, post r → W p l e R s m args below meth c H locs cells slots Q (F0 m (pc + 3) ls (.int r :: rest))) : W p l e R s m args below meth c H locs cells slots Q (F0 m pc ls st0) := by
  intro T hT X
  obtain ⟨v, st₀, t, T', L, h0, X', hL, e1, -, ⟨r, hv, hp, hh⟩, st⟩ := hr T hT X
  cases hv
  obtain ⟨t2, a1, b1⟩ := kk r hp T' (by rw [e1, hh, h0]) (Stand.forget X' (fun q h => (hL q h).elim))
  exact ⟨t2, st t2 a1, b1⟩
theorem rd_l {post : Int64 → Prop} (hr : va_Run p l e R s m args below meth c H locs cells slots 0 0 (F0 m pc ls st0) rest (vp_Sl post a) (fun _ => False))
    (kk : ∀ r : Int64, post r → W p l e R s m args below meth c H locs cells slots Q (F0 m (pc + 3) ls (.long r :: rest))) : W p l e R s m args below meth c H locs cells slots Q (F0 m pc ls st0) := by
  intro T hT X
  obtain ⟨v, st₀, t, T', L, h0, X', hL, e1, -, ⟨r, hv, hp, hh⟩, st⟩ := hr T hT X
  cases hv
  obtain ⟨t2, a1, b1⟩ := kk r hp T' (by rw [e1, hh, h0]) (Stand.forget X' (fun q h => (hL q h).elim))
  exact ⟨t2, st t2 a1, b1⟩
/-- a method that reads only and hands back a cell that is there -/
def Sr0 (post : Nat → Prop) : Array Value → State → Outcome → State → Prop := fun _ st o t => ∃ r : Nat, o = .returned (some (.ref r)) ∧ post r ∧ t.heap = st.heap
theorem rd_r {post : Nat → Prop} (hr : va_Run p l e R s m args below meth c H locs cells slots 0 0 (F0 m pc ls st0) rest (Sr0 post a) (fun _ => False))
    (kk : ∀ r : Nat, post r → W p l e R s m args below meth c H locs cells slots Q (F0 m (pc + 3) ls (.ref r :: rest))) : W p l e R s m args below meth c H locs cells slots Q (F0 m pc ls st0) := by
  intro T hT X
  obtain ⟨v, st₀, t, T', L, h0, X', hL, e1, -, ⟨r, hv, hp, hh⟩, st⟩ := hr T hT X
  cases hv
  obtain ⟨t2, a1, b1⟩ := kk r hp T' (by rw [e1, hh, h0]) (Stand.forget X' (fun q h => (hL q h).elim))
  exact ⟨t2, st t2 a1, b1⟩
/-- the call of an instance method that reads only -/
theorem runV0 {Qc : Array Value → State → Outcome → State → Prop} (S : CallFix p m c cc nL s args Ts own) (hM : Met l y ws rm (Pre0 dC dI cI cW (.ref b :: As) wc) Qc 0 0 (fun _ => False)) (cw : CallW R s args own C index y bytes maxL ret ws rm 0 0 n)
    (hKK : KK dC dI cI cW s) (hP : va_P (dC, dI) vwCl wc H) (ci q0 : Nat) {fs : List Value} {T : u_T} {N : Nat} (hc : vwCl[ci]? = some (C, T, N)) (he : wc[q0]? = some (b, .inr (ci, fs)))
    (hn : As.length = n) (hsize : ls.size = nL) (hcat : (rest.map fun v => v.category).sum ≤ 8) (hstack : st0 = As.reverse ++ .ref b :: rest) (hdg : decode cc pc = .ok (.invokevirtual index, 3)) (hrm : cells ≤ R.cells ∧ slots ≤ R.slots) :
    va_Run p l e R s m args below meth c H locs cells slots 0 0 (F0 m pc ls st0) rest (Qc (Value.ref b :: As).toArray) (fun _ => False) :=
  va_runV S hM cw ⟨Pre0_blind, va_recv hKK.1 hP hc he, fun U hU hW => ⟨rfl, by rw [hU]; exact hP, hKK.warm hW⟩⟩ rfl hn hsize hstack (lv_room hcat) hdg hrm
theorem runS0 {Qc : Array Value → State → Outcome → State → Prop} (S : CallFix p m c cc nL s args Ts own) (hM : Met l y ws rm (Pre0 dC dI cI cW As wc) Qc 0 0 (fun _ => False)) (cw : CallB R s args own index y bytes maxL ret ws rm 0 0 n ∧ (Cond.static y).before args s = true)
    (hKK : KK dC dI cI cW s) (hP : va_P (dC, dI) vwCl wc H)
    (hn : As.length = n) (hsize : ls.size = nL) (hcat : (rest.map fun v => v.category).sum ≤ 8) (hstack : st0 = As.reverse ++ rest) (hdg : decode cc pc = .ok (.invokestatic index, 3)) (hrm : cells ≤ R.cells ∧ slots ≤ R.slots) :
    va_Run p l e R s m args below meth c H locs cells slots 0 0 (F0 m pc ls st0) rest (Qc As.toArray) (fun _ => False) :=
  va_runS S hM cw ⟨Pre0_blind, fun U hU hW => ⟨rfl, by rw [hU]; exact hP, hKK.warm hW⟩⟩ rfl hn hsize hstack (lv_room hcat) hdg hrm
theorem runSN0 {Qc : Array Value → State → Outcome → State → Prop} (S : CallFix p m c cc nL s args Ts own) (hM : Met l y ws rm (Pre0 dC dI cI cW As wc) Qc 0 0 (fun _ => False)) (cw : va_CN R s args own index y host bytes maxL ret ws rm 0 0 n ∧ (Cond.static y).before args s = true ∧ True)
    (hKK : KK dC dI cI cW s) (hP : va_P (dC, dI) vwCl wc H)
    (hn : As.length = n) (hsize : ls.size = nL) (hcat : (rest.map fun v => v.category).sum ≤ 8) (hstack : st0 = As.reverse ++ rest) (hdg : decode cc pc = .ok (.invokestatic index, 3)) (hrm : cells ≤ R.cells ∧ slots ≤ R.slots) :
    va_Run p l e R s m args below meth c H locs cells slots 0 0 (F0 m pc ls st0) rest (Qc As.toArray) (fun _ => False) :=
  va_runSN S hM cw ⟨Pre0_blind, fun U hU hW => ⟨rfl, by rw [hU]; exact hP, hKK.warm hW⟩⟩ rfl hn hsize hstack (lv_room hcat) hdg hrm
/-- the call of an instance method that writes its own world -/
theorem runV1 {Qc : Array Value → State → Outcome → State → Prop} {mc ms : Nat} {free : Addr → Prop} (S : CallFix p m c cc nL s args Ts own) (hM : Met l y ws rm (Pre1 dC dI cI cW (.ref b :: As) wc H.size) Qc mc ms free) (cw : CallW R s args own C index y bytes maxL ret ws rm mc ms n)
    (hKK : KK dC dI cI cW s) (hP : va_P (dC, dI) vwCl wc H) {A : Nat → Prop} (hD : va_D A wc) (ci q0 : Nat) {fs : List Value} {T : u_T} {N : Nat} (hc : vwCl[ci]? = some (C, T, N)) (he : wc[q0]? = some (b, .inr (ci, fs)))
    (hn : As.length = n) (hsize : ls.size = nL) (hcat : (rest.map fun v => v.category).sum ≤ 8) (hstack : st0 = As.reverse ++ .ref b :: rest) (hdg : decode cc pc = .ok (.invokevirtual index, 3)) (hrm : cells + mc ≤ R.cells ∧ slots + ms ≤ R.slots) :
    va_Run p l e R s m args below meth c H locs cells slots mc ms (F0 m pc ls st0) rest (Qc (Value.ref b :: As).toArray) free :=
  va_runV S hM cw ⟨Pre1_blind, va_recv hKK.1 hP hc he, fun U hU hW => ⟨rfl, by rw [hU], by rw [hU]; exact hP, hD.weaken (fun _ _ _ _ => trivial), hKK.warm hW⟩⟩ rfl hn hsize hstack (lv_room hcat) hdg hrm
theorem wr_v {A : Nat → Prop} {H0 : Heap} {mc ms : Nat} {wc' : va_W} (hr : va_Run p l e R s m args below meth c H locs cells slots mc ms (F0 m pc ls st0) rest (Qv1 dC dI wc wc' H.size a) (va_A wc H.size)) (hD : va_D A wc) (hS : va_S A H0 H locs) (hA : ∀ q, H0.size ≤ q → A q)
    (kk : ∀ (H1 : Heap) (locs1 : List Loc), va_P (dC, dI) vwCl wc' H1 → va_D A wc' → va_S A H0 H1 locs1 → W p l e R s m args below meth c H1 locs1 (cells + mc) (slots + ms) Q (F0 m (pc + 3) ls rest)) : W p l e R s m args below meth c H locs cells slots Q (F0 m pc ls st0) :=
  va_callv hr hS (fun q _ h => free_all hD hS hA q h) (free_all hD hS hA) (fun u t H1 locs1 ht hvm hw hB hz hk hS1 => kk H1 locs1 (by rw [← ht]; exact hB.1) (hB.2.weaken (fun _ q _ h => free_all hD hS hA q.1 h)) hS1)
theorem wr_i {A : Nat → Prop} {H0 : Heap} {mc ms : Nat} {wc' : va_W} {post : Int32 → Prop} (hr : va_Run p l e R s m args below meth c H locs cells slots mc ms (F0 m pc ls st0) rest (Qi1 dC dI post wc wc' H.size a) (va_A wc H.size)) (hD : va_D A wc) (hS : va_S A H0 H locs) (hA : ∀ q, H0.size ≤ q → A q)
    (kk : ∀ (r : Int32) (H1 : Heap) (locs1 : List Loc), post r → va_P (dC, dI) vwCl wc' H1 → va_D A wc' → va_S A H0 H1 locs1 → W p l e R s m args below meth c H1 locs1 (cells + mc) (slots + ms) Q (F0 m (pc + 3) ls (.int r :: rest))) : W p l e R s m args below meth c H locs cells slots Q (F0 m pc ls st0) :=
  va_calli hr hS (fun q _ h => free_all hD hS hA q h) (free_all hD hS hA) (fun r u t H1 locs1 ht hvm hw hB hz hk hS1 => kk r H1 locs1 hw (by rw [← ht]; exact hB.1) (hB.2.weaken (fun _ q _ h => free_all hD hS hA q.1 h)) hS1)
end RD
