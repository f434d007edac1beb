/-! the law's own methods: each calls one method of the class, and tells by a number what was thrown -/
theorem met_ofWH {l : Launch} {y : MethodName} {ws ws' : List Cond} {rm : Room} {Pc : Array Value → State → Prop} {Qc : Array Value → State → Outcome → State → Prop} {mc ms : Nat} {free : Addr → Prop} {cc : ByteArray} {maxL : Nat} {ret : Option FieldType} {hh : List (Nat × Nat × Nat × Nat)}
    (hy : plainName y.cls = true) (hw : ws = Cond.codeWith y cc maxL ret hh :: ws')
    (body : ∀ p e s m args below meth c s₁, BodyLoose p l y (headSpec ws rm) cc maxL ret e s m args below meth c s₁ → c.maxLocals = maxL → Pc args s →
      W p l e (headSpec ws rm).room s m args below meth c s.heap [] 0 0 (MQ below Qc args s mc ms free) (entryFrame m args maxL)) : Met l y ws rm Pc Qc mc ms free := by
  refine MetFree.of_bodyS (code := cc) (maxLocals := maxL) (ret := ret) hy ?_ ?_
  · intro args s m h hn
    obtain ⟨m9, meth, c, hn9, h1, h2, h3, h4, -, h5, h6, -⟩ := Cond.codeWith_spec (atoms_spec (ws := ws) h _ (by rw [hw]; exact List.mem_cons_self))
    cases hn.symm.trans hn9
    exact ⟨meth, c, h1, h2, h3, h4, h5, h6⟩
  · intro p e s m args below meth c s₁ B hml hP _
    have hh0 : s₁.heap = s.heap := by rw [B.state]; rfl
    obtain ⟨t, a1, o, b1, b2, b3, b4⟩ := body p e s m args below meth c s₁ B hml hP s₁ hh0 (Stand.of_body B)
    exact ⟨t, o, a1, b1, b2, b3, b4⟩
def PreL (dC : Nat → ClassId) (dI : Nat → Nat → Nat) (cI cW cJ : ClassId) (av : List Value) (ws : va_W) (sz : Nat) : Array Value → State → Prop :=
  va_Pc av (fun U => U.heap.size = sz ∧ va_P (dC, dI) vwCl ws U.heap ∧ va_D (fun _ => True) ws ∧ KK dC dI cI cW U ∧ va_K (dC, dI) vwCl [(cJ, .long)] U ∧ KX U U.heap)
theorem PreL_blind {dC : Nat → ClassId} {dI : Nat → Nat → Nat} {cI cW cJ : ClassId} {av : List Value} {ws : va_W} {sz : Nat} : FrameBlind (PreL dC dI cI cW cJ av ws sz) :=
  fun a U g mk h => ⟨h.1, h.2.1, h.2.2.1, h.2.2.2.1, h.2.2.2.2.1.calling g mk a, va_K.moved (u := U) (U := U.calling g mk a) (Vm.Alike.refl U.vm) h.2.2.2.2.2.1, h.2.2.2.2.2.2.calling g mk a⟩
theorem cw_at {cI cW : ClassId} {X Bk Br : Nat → Nat} {d r : Nat → Int32} {n n2 : Nat} {ch pd pr yr ch2 pd2 pr2 yr2 : Int32} {Wd W2 : Nat → Nat → Int32} {L : va_W} {k : Nat} {x : Nat × va_E} (h : L[k]? = some x) :
    (tab cI X d r ++ (bk cW X Bk n ch pd pr yr Wd ++ (bk cW X Br n2 ch2 pd2 pr2 yr2 W2 ++ L)))[27 + k]? = some x := by
  have h2 : (bk cW X Bk n ch pd pr yr Wd ++ (bk cW X Br n2 ch2 pd2 pr2 yr2 W2 ++ L))[12 + (12 + k)]? = some x := bk_over (bk_over h)
  have e : (27 + k : Nat) = (12 + (12 + k)) + 3 := by omega
  rw [e]
  exact h2
theorem cw_aset {cI cW : ClassId} {X Bk Br : Nat → Nat} {d r : Nat → Int32} {n n2 : Nat} {ch pd pr yr ch2 pd2 pr2 yr2 : Int32} {Wd W2 : Nat → Nat → Int32} {L : va_W} {k : Nat} {x : Nat × va_E} :
    List.set (tab cI X d r ++ (bk cW X Bk n ch pd pr yr Wd ++ (bk cW X Br n2 ch2 pd2 pr2 yr2 W2 ++ L))) (27 + k) x = tab cI X d r ++ (bk cW X Bk n ch pd pr yr Wd ++ (bk cW X Br n2 ch2 pd2 pr2 yr2 W2 ++ L.set k x)) := by
  have e : (27 + k : Nat) = (12 + (12 + k)) + 3 := by omega
  rw [e]
  show tab cI X d r ++ List.set (bk cW X Bk n ch pd pr yr Wd ++ (bk cW X Br n2 ch2 pd2 pr2 yr2 W2 ++ L)) (12 + (12 + k)) x = _
  rw [bk_oset, bk_oset]
