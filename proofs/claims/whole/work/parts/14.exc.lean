/-! what is thrown -/
abbrev xIO : String := "java/lang/IndexOutOfBoundsException"
abbrev xIA : String := "java/lang/IllegalArgumentException"
abbrev xIS : String := "java/lang/IllegalStateException"
abbrev xNm : List String := ["java/lang/RuntimeException", "java/lang/Exception"]
abbrev xD1 : Cond := .declares (Bundle.initS "java/lang/RuntimeException")
abbrev xD2 : Cond := .declares (Bundle.initS "java/lang/Exception")
abbrev xD3 : Cond := .declares (Bundle.initS Bundle.tN)
def xTX : List (Nat × String) := [(34, "age is not 50 to 99"), (52, "what is not 0 to 2"), (140, "what is not 0 to 8"), (196, "putOff is not 0 to 30"), (198, "years is not 1 to 50"), (132, "sum is not -99999 to 99999"), (194, "sum is not 1 to 999"), (149, "years is not 0 to 60"), (163, "what is not 2 to 7"), (200, "there is no such widow"), (175, "money is not 1 to 99999"), (106, "she is not alive"), (119, "she is not alive, or bought less than 2 years ago"), (78, "10 were written"), (41, "deaths is not 0 to 1000"), (54, "to is none that it can be"), (85, "the worth is 0")]
/-- what a throw needs: of the tables, and of the heap H -/
def KX (U : State) (H : Heap) : Prop :=
  ((va_Nw (.castable xIO xIO) U ∧ va_Nw (.castable xIA xIA) U ∧ va_Nw (.castable xIS xIS) U) ∧ va_Nw xD1 U ∧ va_Nw xD2 U ∧ va_Nw xD3 U) ∧ (va_Nc xIA xIO U ∧ va_Nc xIS xIA U ∧ va_Nc xIS xIO U ∧ va_Nc xIO xIA U) ∧ (∀ p ∈ xTX, ∃ a, vk_R RX3 p.1 p.2 a U) ∧
  vx_Zq Bundle.tN "UNASSIGNED_STACK" Bundle.steD (fun q => H.size ≤ q) U H ∧ vx_Zq Bundle.tN "SUPPRESSED_SENTINEL" Bundle.listD (fun q => H.size ≤ q) U H
theorem KX.warm {s U : State} {H : Heap} (hW : s.WarmedH U.vm) (h : KX s H) : KX U H :=
  ⟨⟨⟨va_Nw.warmC hW h.1.1.1, va_Nw.warmC hW h.1.1.2.1, va_Nw.warmC hW h.1.1.2.2⟩, va_Nw.warmD hW h.1.2.1, va_Nw.warmD hW h.1.2.2.1, va_Nw.warmD hW h.1.2.2.2⟩, ⟨va_Nc.moved hW.alike h.2.1.1, va_Nc.moved hW.alike h.2.1.2.1, va_Nc.moved hW.alike h.2.1.2.2.1, va_Nc.moved hW.alike h.2.1.2.2.2⟩,
   fun p hp => (h.2.2.1 p hp).imp (fun _ ha => vk_R.warm hW ha), vx_Zq.moved hW.alike h.2.2.2.1, vx_Zq.moved hW.alike h.2.2.2.2⟩
theorem KX.calling {U : State} {H : Heap} (g : JFrame) (mk : MethodId) (a : Array Value) (h : KX U H) : KX (U.calling g mk a) H :=
  ⟨⟨⟨va_Nw.same rfl rfl h.1.1.1, va_Nw.same rfl rfl h.1.1.2.1, va_Nw.same rfl rfl h.1.1.2.2⟩, va_Nw.same rfl rfl h.1.2.1, va_Nw.same rfl rfl h.1.2.2.1, va_Nw.same rfl rfl h.1.2.2.2⟩, ⟨va_Nc.moved (Vm.Alike.refl U.vm) h.2.1.1, va_Nc.moved (Vm.Alike.refl U.vm) h.2.1.2.1, va_Nc.moved (Vm.Alike.refl U.vm) h.2.1.2.2.1, va_Nc.moved (Vm.Alike.refl U.vm) h.2.1.2.2.2⟩,
   fun p hp => (h.2.2.1 p hp).imp (fun _ ha => vk_R.same rfl ha), vx_Zq.moved (Vm.Alike.refl U.vm) h.2.2.2.1, vx_Zq.moved (Vm.Alike.refl U.vm) h.2.2.2.2⟩
theorem KX.keep {s : State} {H H1 : Heap} (hz : H.size ≤ H1.size) (hq : ∀ q : Nat, q < H.size → H1[q]? = H[q]?) (h : KX s H) : KX s H1 :=
  ⟨h.1, h.2.1, h.2.2.1, (h.2.2.2.1.kept (fun a ha _ => hq a ha)).narrow (fun _ hq9 => Nat.le_trans hz hq9), (h.2.2.2.2.kept (fun a ha _ => hq a ha)).narrow (fun _ hq9 => Nat.le_trans hz hq9)⟩
theorem KX.at {s : State} {H : Heap} {locs : List Loc} (hS : va_S (fun q : Nat => s.heap.size ≤ q) s.heap H locs) (h : KX s s.heap) : KX s H := h.keep hS.1 (fun q hq => hS.2.1 q hq (Nat.not_le.mpr hq))
def PreX (dC : Nat → ClassId) (dI : Nat → Nat → Nat) (cI cW : ClassId) (av : List Value) (ws : va_W) (sz : Nat) : Array Value → State → Prop :=
  va_Pc av (fun U => U.heap.size = sz ∧ va_P (dC, dI) vwCl ws U.heap ∧ KK dC dI cI cW U ∧ KX U U.heap)
theorem PreX_blind {dC : Nat → ClassId} {dI : Nat → Nat → Nat} {cI cW : ClassId} {av : List Value} {ws : va_W} {sz : Nat} : FrameBlind (PreX dC dI cI cW av ws sz) :=
  fun a U g mk h => ⟨h.1, h.2.1, h.2.2.1, h.2.2.2.1.calling g mk a, h.2.2.2.2.calling g mk a⟩
abbrev NEW (sz : Nat) : Nat → Prop := fun q => sz ≤ q
abbrev XCr (E : String) (sz : Nat) : String → State → State → Prop := vx_X (fun _ : Unit => True) (fun E9 _ _ => E9 = E) (NEW sz)
abbrev NoV (sz : Nat) : Array Value → State → Outcome → State → Prop := va_Qv (fun _ : Unit => False) (fun _ _ => True) (NEW sz)
abbrev NoI (sz : Nat) : Array Value → State → Outcome → State → Prop := va_Qi (fun (_ : Int32) (_ : Unit) => False) (fun _ _ => True) (NEW sz)
theorem exN_IO : ∀ w ∈ (vx_atS RX3 36 xIO xNm).filter (fun w => !goodWord w), w ∈ [Cond.castable xIO xIO, xD1, xD2, xD3] := by decide +kernel
theorem exN_IA : ∀ w ∈ (vx_atS RX3 43 xIA xNm).filter (fun w => !goodWord w), w ∈ [Cond.castable xIA xIA, xD1, xD2, xD3] := by decide +kernel
theorem exN_IS : ∀ w ∈ (vx_atS RX3 80 xIS xNm).filter (fun w => !goodWord w), w ∈ [Cond.castable xIS xIS, xD1, xD2, xD3] := by decide +kernel
theorem exG_IO : ∀ w ∈ Cond.classLink RX3 32 xIO :: Cond.initialized xIO :: vx_atS RX3 36 xIO xNm, vx_ot w = true := by decide +kernel
theorem exG_IA : ∀ w ∈ Cond.classLink RX3 39 xIA :: Cond.initialized xIA :: vx_atS RX3 43 xIA xNm, vx_ot w = true := by decide +kernel
theorem exG_IS : ∀ w ∈ Cond.classLink RX3 76 xIS :: Cond.initialized xIS :: vx_atS RX3 80 xIS xNm, vx_ot w = true := by decide +kernel
section TH
variable {p : Program} {l : Launch} {e : Env} {R : Room} {s : State} {m : MethodId} {args : Array Value} {below : List Frame} {meth : Method} {c : Code} {H : Heap} {locs : List Loc} {cells slots : Nat} {Q : State → Prop}
variable {cc bytes : ByteArray} {pc nL maxL n index : Nat} {ls : Array Slot} {rest st0 As : List Value} {a : Array Value}
variable {dC : Nat → ClassId} {dI : Nat → Nat → Nat} {cI cW : ClassId} {Ts ws : List Cond} {own C host : String} {y : MethodName} {ret : Option FieldType} {rm : Room} {b : Addr} {wc : va_W}
/-- throw new E(text), ahead of every write -/
theorem throwS0 {E text : String} {ik is ic sz : Nat} {Qc : Array Value → State → Outcome → State → Prop} (hx : p.tables.exec = Jvm.exec) (hb : c.code = cc) (hl0 : l.stackTraces = false) (hown : s.vm.findClass RX3 = some m.cls) (ht : ∀ x ∈ c.exceptionTable.toList, False) (hlocks : meth.locks = false) (hKX : KX s s.heap)
    (hfit : Bundle.fit E = true) (hcast : va_Nw (.castable E E) s) (htx : (is, text) ∈ xTX) (hk : (Cond.classLink RX3 ik E).before args s = true) (hini : (Cond.initialized E).before args s = true)
    (h1 : ∀ w ∈ (vx_atS RX3 ic E xNm).filter goodWord, w.before args s = true) (h2 : ∀ w ∈ (vx_atS RX3 ic E xNm).filter (fun w => !goodWord w), w ∈ [Cond.castable E E, xD1, xD2, xD3]) (hg : ∀ w ∈ Cond.classLink RX3 ik E :: Cond.initialized E :: vx_atS RX3 ic E xNm, vx_ot w = true)
    (hsize : ls.size = c.maxLocals) (d0 : decode cc pc = .ok (.new ik, 3)) (d3 : decode cc (pc + 3) = .ok (.dup, 1)) (d4 : decode cc (pc + 4) = .ok (.ldc is, 2)) (d6 : decode cc (pc + 6) = .ok (.invokespecial ic, 3)) (d9 : decode cc (pc + 9) = .ok (.athrow, 1))
    (hfr : 5 < R.frames) (hlo : (rest.map fun v => v.category).sum + 82 ≤ R.locals) (hce : 1 ≤ R.cells) (hsl : 6 ≤ R.slots) (hsz : s.heap.size = sz) :
    W p l e R s m args below meth c s.heap [] 0 0 (vx_MQ below Qc (XCr E sz) args s 1 6 (NEW sz)) (F0 m pc ls rest) := by
  subst hsz
  obtain ⟨sa, hsa⟩ := hKX.2.2.1 _ htx
  exact vx_throwS (names := xNm) (A := fun q => s.heap.size ≤ q) hx hb hl0 hown hfit (by decide +kernel) hk hini hsa (vx_hat h1 h2 (vx_c (va_Nw.use rfl hcast) (vx_c (va_Nw.use rfl hKX.1.2.1) (vx_c (va_Nw.use rfl hKX.1.2.2.1) (vx_c (va_Nw.use rfl hKX.1.2.2.2) vx_n))))) hg hKX.2.2.2.1 hKX.2.2.2.2 va_S.rf hsize d0 d3 d4 d6 d9
    (fun x hx9 => (ht x hx9).elim) hfr hlo (by omega) (by omega) hlocks (fun t _ hz hq => ⟨(), trivial, rfl, hz, fun q h9 _ => hq q h9⟩) (fun z hz => nomatch hz) (by omega) (by omega)
/-- a callee threw, and it goes on to the caller -/
theorem outS0 {E E9 : String} {ce : Cell} {q9 : Addr} {sz : Nat} {H1 : Heap} {locs1 : List Loc} {Qc : Array Value → State → Outcome → State → Prop} (ht : ∀ x ∈ c.exceptionTable.toList, False) (hlocks : meth.locks = false) (hE : E9 = E) (hz : s.heap.size ≤ H1.size) (hq : ∀ q : Nat, q < s.heap.size → ¬ NEW s.heap.size q → H1[q]? = s.heap[q]?) (hS1 : va_S (NEW s.heap.size) s.heap H1 locs1)
    (hce : H1[q9]? = some ce) (hcv : ce.vm = .none) (hcl : s.vm.findClass E9 = some ce.cls) (hsz : s.heap.size = sz) :
    vx_W p l e R s m args below meth c H1 locs1 (0 + 1) (0 + 6) (vx_MQ below Qc (XCr E sz) args s 1 6 (NEW sz)) (F0 m pc ls rest) q9 := by
  subst hsz
  subst hE
  exact vx_out (fun x hx9 => by exact (ht x hx9).elim) hlocks hce hcv hcl (fun t ht9 _ => ⟨(), trivial, rfl, by rw [ht9]; exact hz, fun q h1 h2 => by rw [ht9]; exact hq q h1 h2⟩) (fun z h9 => hS1.2.2 z h9) (Nat.le_refl _) (Nat.le_refl _)
theorem rd_v (hr : va_Run p l e R s m args below meth c H locs cells slots 0 0 (F0 m pc ls st0) rest (va_Sv (fun _ => True) a) (fun _ => False))
    (kk : W p l e R s m args below meth c H locs cells slots Q (F0 m (pc + 3) ls rest)) : W p l e R s m args below meth c H locs cells slots Q (F0 m pc ls st0) := by
  intro T hT X
  obtain ⟨v, st₀, t, T', L, h0, X', hL, e1, -, ⟨hv, hp, hh⟩, st⟩ := hr T hT X
  cases hv
  obtain ⟨t2, a1, b1⟩ := kk T' (by rw [e1, hh, h0]) (Stand.forget X' (fun q h => (hL q h).elim))
  exact ⟨t2, st t2 a1, b1⟩
/-- the call of a static method that always throws, out of a method that has written nothing -/
theorem badS {E : String} {sz : Nat} {Qc : Array Value → State → Outcome → State → Prop} (S : CallFix p m c cc nL s args Ts own) (hM : vx_Met l y ws rm (PreX dC dI cI cW As wc s.heap.size) (NoV s.heap.size) (XCr E s.heap.size) 1 6 (NEW s.heap.size)) (cw : CallB R s args own index y bytes maxL ret ws rm 1 6 n ∧ (Cond.static y).before args s = true)
    (hKK : KK dC dI cI cW s) (hKX : KX s s.heap) (hP : va_P (dC, dI) vwCl wc s.heap) (hn : As.length = n) (hsize : ls.size = nL) (hcat : (rest.map fun v => v.category).sum ≤ 8) (hstack : st0 = As.reverse ++ rest) (hdg : decode cc pc = .ok (.invokestatic index, 3)) (hrm : 1 ≤ R.cells ∧ 6 ≤ R.slots)
    (ht : ∀ x ∈ c.exceptionTable.toList, False) (hlocks : meth.locks = false) (hsz : s.heap.size = sz) :
    W p l e R s m args below meth c s.heap [] 0 0 (vx_MQ below Qc (XCr E sz) args s 1 6 (NEW sz)) (F0 m pc ls st0) :=
  vx_callv (vx_runS S hM cw ⟨PreX_blind, fun U hU hW => ⟨rfl, by rw [hU], by rw [hU]; exact hP, hKK.warm hW, by rw [hU]; exact hKX.warm hW⟩⟩ rfl hn hsize hstack (lv_room hcat) hdg ⟨by omega, by omega⟩) (va_S.rf (A := NEW s.heap.size)) (fun _ _ h => h) (fun _ h => h) (fun _ _ h => h)
    (fun E9 ce q9 u t H1 locs1 ht1 hvm hpx hBX hz hk hS1 hce hcv hcl => outS0 ht hlocks hBX hz hk hS1 hce hcv hcl hsz) (fun u t H1 locs1 _ _ hw => hw.elim)
theorem badV {E : String} {sz : Nat} {Qc : Array Value → State → Outcome → State → Prop} (S : CallFix p m c cc nL s args Ts own) (hM : vx_Met l y ws rm (PreX dC dI cI cW (.ref b :: As) wc s.heap.size) (NoV s.heap.size) (XCr E s.heap.size) 1 6 (NEW s.heap.size)) (cw : CallW R s args own C index y bytes maxL ret ws rm 1 6 n)
    (hKK : KK dC dI cI cW s) (hKX : KX s s.heap) (hP : va_P (dC, dI) vwCl wc s.heap) (ci q0 : Nat) {fs : List Value} {T : u_T} {N : Nat} (hc : vwCl[ci]? = some (C, T, N)) (he : wc[q0]? = some (b, .inr (ci, fs))) (hn : As.length = n) (hsize : ls.size = nL) (hcat : (rest.map fun v => v.category).sum ≤ 8) (hstack : st0 = As.reverse ++ .ref b :: rest) (hdg : decode cc pc = .ok (.invokevirtual index, 3)) (hrm : 1 ≤ R.cells ∧ 6 ≤ R.slots)
    (ht : ∀ x ∈ c.exceptionTable.toList, False) (hlocks : meth.locks = false) (hsz : s.heap.size = sz) :
    W p l e R s m args below meth c s.heap [] 0 0 (vx_MQ below Qc (XCr E sz) args s 1 6 (NEW sz)) (F0 m pc ls st0) :=
  vx_callv (vx_runV S hM cw ⟨PreX_blind, va_recv hKK.1 hP hc he, fun U hU hW => ⟨rfl, by rw [hU], by rw [hU]; exact hP, hKK.warm hW, by rw [hU]; exact hKX.warm hW⟩⟩ rfl hn hsize hstack (lv_room hcat) hdg ⟨by omega, by omega⟩) (va_S.rf (A := NEW s.heap.size)) (fun _ _ h => h) (fun _ h => h) (fun _ _ h => h)
    (fun E9 ce q9 u t H1 locs1 ht1 hvm hpx hBX hz hk hS1 hce hcv hcl => outS0 ht hlocks hBX hz hk hS1 hce hcv hcl hsz) (fun u t H1 locs1 _ _ hw => hw.elim)
end TH
