section
-- ===== PART A: goes FIRST, ahead of the names: the tables' words, and 'selects' of the private methods out of them =====
/-- a private method of a class that the tables say can be made, by its rows of tables_1 -/
def lw_okq (q : MethodName × Nat) : Prop := (q.1.cls ≠ "java/lang/invoke/MethodHandle" ∧ q.1.cls ≠ "java/lang/invoke/VarHandle") ∧ Cond.instantiable q.1.cls q.2 ∈ tables_1 ∧ Cond.privateMethod q.1 ∈ tables_1 ∧ Cond.instanceMethod q.1 ∈ tables_1
theorem lw_p0 : lw_okq (⟨"java/lang/Throwable", "fillInStackTrace", "(I)Ljava/lang/Throwable;"⟩, 6) := ⟨⟨by decide +kernel, by decide +kernel⟩, List.mem_of_getElem? (i := 167) (by decide +kernel), List.mem_of_getElem? (i := 165) (by decide +kernel), List.mem_of_getElem? (i := 166) (by decide +kernel)⟩
theorem lw_p1 : lw_okq (⟨"WidowPennies", "checkWidow", "(I)V"⟩, 3) := ⟨⟨by decide +kernel, by decide +kernel⟩, List.mem_of_getElem? (i := 15) (by decide +kernel), List.mem_of_getElem? (i := 268) (by decide +kernel), List.mem_of_getElem? (i := 269) (by decide +kernel)⟩
def lw_privs_1 : List (MethodName × Nat) := [(⟨"java/lang/Throwable", "fillInStackTrace", "(I)Ljava/lang/Throwable;"⟩, 6), (⟨"WidowPennies", "checkWidow", "(I)V"⟩, 3)]
theorem lw_r1 : ∀ q ∈ lw_privs_1, lw_okq q := List.forall_mem_cons.mpr ⟨lw_p0, List.forall_mem_cons.mpr ⟨lw_p1, fun _ h => absurd h List.not_mem_nil⟩⟩
def lw_privs : List (MethodName × Nat) := lw_privs_1
def lw_tbl : List Cond := k2_sels lw_privs ++ tables_1
theorem lw_privs_ok : ∀ q ∈ lw_privs, lw_okq q := lw_r1
/-- the streams that the claim lets the run draw from -/
abbrev lw_cs : List Choice := [Jvm.Choice.named "NaN.bits"]
theorem lw_bits : nanBits ∈ lw_cs := by first | decide | exact List.mem_cons_self | simp [lw_cs, nanBits]
-- ===== end of PART A; then your names; then what follows =====
end
section
/-! ===== BEGIN words of one list among another's, by their places ===== -/
theorem goodIn_r {big : List Cond} (ws : List Cond) (ps : List Nat) (hp : ws = ps.filterMap (fun i => big[i]?)) (h : ws.all goodWord = true) : GoodIn big ws := by
  intro w hw
  have h1 := List.all_eq_true.mp h w hw
  rw [hp] at hw
  obtain ⟨i, -, hi⟩ := List.mem_filterMap.mp hw
  have hm : w ∈ big := by first | exact List.mem_of_getElem? hi | exact List.getElem?_mem hi
  exact ⟨hm, good_of_word h1⟩
theorem goodIn_app {big a b : List Cond} (ha : GoodIn big a) (hb : GoodIn big b) : GoodIn big (a ++ b) := fun w h => (List.mem_append.mp h).elim (ha w) (hb w)
theorem goodIn_ca {big a b : List Cond} {c : Cond} (ha : GoodIn big (c :: a)) (hb : GoodIn big b) : GoodIn big (c :: (a ++ b)) := fun w h => (List.mem_cons.mp h).elim (fun e => ha w (List.mem_cons.mpr (Or.inl e))) (fun h => (List.mem_append.mp h).elim (fun h => ha w (List.mem_cons.mpr (Or.inr h))) (hb w))
theorem goodIn_sub {big ws : List Cond} (hm : ∀ w ∈ ws, w ∈ big) (h : ws.all goodWord = true) : GoodIn big ws := fun w hw => ⟨hm w hw, good_of_word (List.all_eq_true.mp h w hw)⟩
/-! ===== END ===== -/

/-! ===== BEGIN exceptions that leave a method, and their catching by the caller (launches without stack traces) ===== -/
section VXA
/-! The laws vx_back, vx_callV, vx_callS, vx_callSW, vx_throw0, vx_throwS follow proofs of the library, with one case more: JvmDerived/Free/Laws.lean (Back.of_free), Shelf42/LK1.lean (callV, callS), Shelf/KitTraced.lean (throwNew0V, throwNewS). -/
/-- where a method has thrown q: the class by its name, the cell, what was written, the world -/
def vx_T (XC : String → State → State → Prop) (st : State) (q : Addr) (t : State) (mc ms : Nat) (free : Addr → Prop) : Prop :=
  ∃ (E : String) (ce : Cell) (L : List Loc), XC E st t ∧ t.heap[q]? = some ce ∧ ce.vm = .none ∧ st.vm.findClass E = some ce.cls ∧ st.WarmedH t.vm ∧ st.sameButNew ({ t with vm := st.vm } : State) L mc ms ∧ ∀ z ∈ L, free z.base
def vx_Q (Qc : Array Value → State → Outcome → State → Prop) (XC : String → State → State → Prop) (mc ms : Nat) (free : Addr → Prop) : Array Value → State → Outcome → State → Prop := fun a st o t =>
  (Qc a st o t ∧ ∃ L, FrameEnd st o t L mc ms ∧ ∀ q ∈ L, free q.base) ∨ ∃ q, o = .threw q ∧ vx_T XC st q t mc ms free
/-- a callee that returns or throws -/
def vx_Met (l : Launch) (y : MethodName) (ws : List Cond) (rm : Room) (Pc : Array Value → State → Prop) (Qc : Array Value → State → Outcome → State → Prop) (XC : String → State → State → Prop) (mc ms : Nat) (free : Addr → Prop) : Prop :=
  MetFree l y (headSpec ws rm) Pc (fun _ _ _ _ _ => True) (vx_Q Qc XC mc ms free)
def vx_Post (XC : String → State → State → Prop) (mc ms : Nat) (free : Addr → Prop) : Pt → Array Value → Addr → Pt → Prop := fun A a q B =>
  ∃ (g : JFrame) (mk : MethodId) (t : State) (L : List Loc) (E : String) (ce : Cell), B.U.heap = t.heap ∧ B.U.vm = t.vm ∧ XC E (A.U.calling g mk a) t ∧ t.heap[q]? = some ce ∧ ce.vm = .none ∧ A.U.vm.findClass E = some ce.cls ∧ B.locs = A.locs ++ L ∧ (∀ z ∈ L, free z.base) ∧ B.cells = A.cells + mc ∧ B.slots = A.slots + ms
def vx_Back (l : Launch) (R : Room) (p : Program) (e : Env) (below : List Frame) (s : State) (sargs : Array Value) (y : MethodName) (len W9 : Nat)
    (Pre : Pt → Array Value → Prop) (Post : Pt → Array Value → Option Value → Pt → Prop) (PostX : Pt → Array Value → Addr → Pt → Prop) : Prop :=
  ∀ (m : MethodId) (meth : Method) (c : Code) (A : Pt) (g : JFrame) (ig : Instr) (mk : MethodId) (a : Array Value),
    Stand p l e R s m sargs below meth c A.U A.locs A.cells A.slots → g.method = m → g.locals.size = c.maxLocals → decode c.code g.pc = .ok (ig, len) →
    2 * g.monitorRoom + (g.stack.map fun v => v.category).sum ≤ W9 → A.U.methodNamed? y = some mk → Pre A a →
    (∃ (v : Option Value) (B : Pt), Stand p l e R s m sargs below meth c B.U B.locs B.cells B.slots ∧ Post A a v B ∧
      Steps p.tables e below (doInvoke e (A.U.setTop g) [] mk a).1 (B.U.setTop { g with pc := g.pc + len, stack := v.toList ++ g.stack })) ∨
    (∃ (q : Addr) (B : Pt), Stand p l e R s m sargs below meth c B.U B.locs B.cells B.slots ∧ PostX A a q B ∧
      Steps p.tables e below (doInvoke e (A.U.setTop g) [] mk a).1 ((B.U.setTop g).pushFrame (.throwing q)))
section Payer
variable {l : Launch} {R : Room} {p : Program} {e : Env} {below : List Frame} {s : State} {sargs : Array Value} {y : MethodName} {len W9 : Nat}
theorem vx_back {ws : List Cond} {rm : Room} {Pc : Array Value → State → Prop} {Qc : Array Value → State → Outcome → State → Prop} {XC : String → State → State → Prop} {mc ms : Nat} {free : Addr → Prop} {bytes : ByteArray} {maxL : Nat} {ret : Option FieldType}
    (hM : vx_Met l y ws rm Pc Qc XC mc ms free) (hblind : FrameBlind Pc) (hrc : rm.cells = mc) (hrs : rm.slots = ms)
    (hframes : rm.frames + 1 ≤ R.frames) (hlocals : W9 + (maxL + 11) + rm.locals ≤ R.locals)
    (hws : ∀ w ∈ ws, ∀ a' U, s.WarmedH U.vm → w.before a' U = true) (hcode : Cond.code y bytes maxL ret ∈ ws) (hinit : ∀ a' U, s.WarmedH U.vm → (Cond.initialized y.cls).before a' U = true) :
    vx_Back l R p e below s sargs y len W9 (PreOf R mc ms Pc) (PostOf Qc mc ms free) (vx_Post XC mc ms free) := by
  intro m meth c A g ig mk a X hg hsize hdg hW hn hp
  have h1 : (headSpec ws rm).pre.before a A.U = true := atoms_intro fun w hw => hws w hw _ _ X.warmed
  have h2 : (Cond.code y bytes maxL ret).before a A.U = true := hws _ hcode _ _ X.warmed
  have h3 : (Cond.initialized y.cls).before a A.U = true := hinit _ _ X.warmed
  have h4 : A.cells + (headSpec ws rm).room.cells ≤ R.cells := by rw [show (headSpec ws rm).room.cells = mc from hrc]; exact hp.1
  have h5 : A.slots + (headSpec ws rm).room.slots ≤ R.slots := by rw [show (headSpec ws rm).room.slots = ms from hrs]; exact hp.2.1
  have hPc : Pc a (A.U.calling g mk a) := hblind _ _ _ _ hp.2.2
  obtain ⟨U, Ls, c0, s0⟩ := A
  dsimp only [Pt.U, Pt.locs, Pt.cells, Pt.slots] at h1 h2 h3 h4 h5 X hn hPc ⊢
  obtain ⟨methY, cY, hmY, hcY, -, hlY, -, -, -, -⟩ := Cond.code_spec hn h2
  obtain ⟨kY, hkY, -⟩ := className_of_methodNamed hn
  have hinitY : kY.init = .initialized := Cond.initialized_spec (findClass_of_methodNamed hn) hkY h3
  have h : At U g.method c below := by rw [hg]; exact X.here
  have hlocals9 : W9 + (maxL + 11) + (headSpec ws rm).room.locals ≤ R.locals := hlocals
  have happ : (headSpec ws rm).appliesLoose y e.platform (U.calling g mk a) = true :=
    Spec.appliesLoose_calling (g := g) h hdg hn hkY hinitY
      (X.room_calling (g := g) (R' := (headSpec ws rm).room) hsize hmY hcY hframes (by rw [hlY]; omega) h4 h5) h1
  obtain ⟨mid, hmid⟩ := h.above
  have hfr : (U.setTop g).frames = (.java g :: mid) ++ below := by rw [State.frames_setTop' g h.top, hmid]; rfl
  obtain ⟨o, s₂, hsteps, -, hend, hq⟩ := Steps.callFree hM p X.admits X.cas X.clock (acts := []) hfr happ hPc trivial
  have hq' : vx_Q Qc XC mc ms free a (U.calling g mk a) o s₂ := hq
  rw [State.frames_setTop' g h.top] at hend
  obtain ⟨g₀, hg0⟩ := Option.isSome_iff_exists.mp h.top
  obtain ⟨r, hr⟩ := State.topJava?_eq_some.mp hg0
  have hr' : (({ U with heap := s₂.heap, slotsUsed := s₂.slotsUsed } : State).setVm s₂.vm).frames = .java g₀ :: r := hr
  rcases hq' with ⟨hqc, L, hfe, hL⟩ | ⟨q, rfl, E, ce, L, hx, hce, hcv, hcl, hW₂, hsm, hL⟩
  · obtain ⟨⟨v, rfl⟩, hW₂, e2, q2, q3, q4, q5, q6⟩ := id hfe
    have e3 : s₂ = ({ (U.calling g mk a).setFrames s₂.frames with heap := s₂.heap, slotsUsed := s₂.slotsUsed } : State).setVm s₂.vm := by
      have : s₂ = ({ s₂ with vm := (U.calling g mk a).vm } : State).setVm s₂.vm := rfl
      rw [e2] at this
      exact this
    obtain ⟨c₂, i₂, len₂, hc₂, hd₂, hf₂⟩ := hend
    have hW' : U.WarmedH s₂.vm := hW₂
    have hcc : c₂ = c := by
      have h1 : s₂.code? g.method = U.code? g.method := by
        rw [State.code?_eq, State.code?_eq, hW'.alike.method?]
      exact Option.some.inj (hc₂.symm.trans (h1.trans h.code))
    subst hcc
    have hlen : len₂ = len := by rw [hdg] at hd₂; cases hd₂; rfl
    subst hlen
    have hs₂ : s₂ = (({ U with heap := s₂.heap, slotsUsed := s₂.slotsUsed } : State).setVm s₂.vm).setTop { g with pc := g.pc + len₂, stack := v.toList ++ g.stack } := by
      refine e3.trans ?_
      rw [hf₂, State.calling_eq h.top, State.setFrames_setFrames, State.setTop_of_frames _ hr', hr]
      rfl
    have hsame : U.sameButNew ({ U with heap := s₂.heap, slotsUsed := s₂.slotsUsed } : State) L mc ms := by
      refine ⟨?_, q2, q3, q4, q5, q6⟩
      obtain ⟨t, ht, -⟩ := State.frames_cons hr
      show ({ U with heap := s₂.heap, slotsUsed := s₂.slotsUsed } : State) = { U.setFrames U.frames with heap := s₂.heap, slotsUsed := s₂.slotsUsed }
      rw [State.setFrames_self ht]
    subst hg
    refine Or.inl ⟨v, ⟨(({ U with heap := s₂.heap, slotsUsed := s₂.slotsUsed } : State).setVm s₂.vm), Ls ++ L, c0 + mc, s0 + ms⟩,
      ⟨X.admits, X.cas, X.clock, X.frames, X.room, X.hears, X.method, X.code, (X.here.setHeapUsed s₂.heap s₂.slotsUsed).setVm hW'.alike, X.tail, State.WarmedH.trans X.warmed hW', X.limits, X.bytes, X.same.trans (hsame.setVm s.vm)⟩,
      ⟨g, mk, s₂, L, rfl, rfl, hqc, rfl, hL, rfl, rfl⟩, ?_⟩
    show Steps p.tables e below _ ((({ U with heap := s₂.heap, slotsUsed := s₂.slotsUsed } : State).setVm s₂.vm).setTop { g with pc := g.pc + len₂, stack := v.toList ++ g.stack })
    rw [← hs₂]
    exact hsteps
  · obtain ⟨e2, q2, q3, q4, q5, q6⟩ := id hsm
    have e3 : s₂ = ({ (U.calling g mk a).setFrames s₂.frames with heap := s₂.heap, slotsUsed := s₂.slotsUsed } : State).setVm s₂.vm := by
      have : s₂ = ({ s₂ with vm := (U.calling g mk a).vm } : State).setVm s₂.vm := rfl
      rw [e2] at this
      exact this
    have hf₂ : s₂.frames = .throwing q :: .java g :: U.frames.tail := hend
    have hW' : U.WarmedH s₂.vm := hW₂
    have hs₂ : s₂ = ((({ U with heap := s₂.heap, slotsUsed := s₂.slotsUsed } : State).setVm s₂.vm).setTop g).pushFrame (.throwing q) := by
      refine e3.trans ?_
      rw [hf₂, State.calling_eq h.top, State.setFrames_setFrames, State.pushFrame, State.frames_setTop _ hr', State.setTop_of_frames _ hr', State.setFrames_setFrames, hr]
      rfl
    have hsame : U.sameButNew ({ U with heap := s₂.heap, slotsUsed := s₂.slotsUsed } : State) L mc ms := by
      refine ⟨?_, q2, q3, q4, q5, q6⟩
      obtain ⟨t, ht, -⟩ := State.frames_cons hr
      show ({ U with heap := s₂.heap, slotsUsed := s₂.slotsUsed } : State) = { U.setFrames U.frames with heap := s₂.heap, slotsUsed := s₂.slotsUsed }
      rw [State.setFrames_self ht]
    subst hg
    refine Or.inr ⟨q, ⟨(({ U with heap := s₂.heap, slotsUsed := s₂.slotsUsed } : State).setVm s₂.vm), Ls ++ L, c0 + mc, s0 + ms⟩,
      ⟨X.admits, X.cas, X.clock, X.frames, X.room, X.hears, X.method, X.code, (X.here.setHeapUsed s₂.heap s₂.slotsUsed).setVm hW'.alike, X.tail, State.WarmedH.trans X.warmed hW', X.limits, X.bytes, X.same.trans (hsame.setVm s.vm)⟩,
      ⟨g, mk, s₂, L, E, ce, rfl, rfl, hx, hce, hcv, hcl, rfl, hL, rfl, rfl⟩, ?_⟩
    show Steps p.tables e below _ (((({ U with heap := s₂.heap, slotsUsed := s₂.slotsUsed } : State).setVm s₂.vm).setTop g).pushFrame (.throwing q))
    rw [← hs₂]
    exact hsteps
end Payer
section Calls
variable {p : Program} {l : Launch} {e : Env} {R : Room} {s : State} {m : MethodId} {args : Array Value} {below : List Frame} {meth : Method} {c : Code} {T : State} {locs : List Loc} {cells slots : Nat}
theorem vx_callV (X : Stand p l e R s m args below meth c T locs cells slots) (hexec : p.tables.exec = Jvm.exec) {own C : String} {index : Nat} {y : MethodName} {bytes : ByteArray} {maxL : Nat} {ret : Option FieldType}
    (hown : s.vm.findClass own = some m.cls) (hlink : (Cond.methodLink own index y).before args s = true) (hinst : (Cond.instanceMethod y).before args s = true) (hsel : (Cond.selects C y y).before args s = true)
    (hcode : (Cond.code y bytes maxL ret).before args s = true) (hy : y.cls ≠ "java/lang/invoke/MethodHandle" ∧ y.cls ≠ "java/lang/invoke/VarHandle")
    {W9 : Nat} {Pre : Pt → Array Value → Prop} {Post : Pt → Array Value → Option Value → Pt → Prop} {PostX : Pt → Array Value → Addr → Pt → Prop} (hK : vx_Back l R p e below s args y 3 W9 Pre Post PostX)
    {b : Addr} {cellB : Cell} (hcell : T.heap[b]? = some cellB) (hobj : cellB.vm.isStatics = false) (hcls : s.vm.findClass C = some cellB.cls)
    {g : JFrame} (hg : g.method = m) (hsize : g.locals.size = c.maxLocals) {argsL rest : List Value} (hlen : ∀ sig, parseMethodDescriptor y.desc = some sig → argsL.length = sig.parameters.length)
    (hstack : g.stack = argsL.reverse ++ .ref b :: rest) (hW : 2 * g.monitorRoom + (rest.map fun v => v.category).sum ≤ W9) (hdg : decode c.code g.pc = .ok (.invokevirtual index, 3))
    (hpre : ∀ vm₁, s.WarmedH vm₁ → Pre ⟨T.setVm vm₁, locs, cells, slots⟩ (Value.ref b :: argsL).toArray) :
    (∃ (v : Option Value) (vm₁ : Vm) (B : Pt), s.WarmedH vm₁ ∧ Stand p l e R s m args below meth c B.U B.locs B.cells B.slots ∧ Post ⟨T.setVm vm₁, locs, cells, slots⟩ (Value.ref b :: argsL).toArray v B ∧
      ∀ target, Steps p.tables e below (B.U.setTop { g with pc := g.pc + 3, stack := v.toList ++ rest }) target → Steps p.tables e below (T.setTop g) target) ∨
    (∃ (q : Addr) (vm₁ : Vm) (B : Pt), s.WarmedH vm₁ ∧ Stand p l e R s m args below meth c B.U B.locs B.cells B.slots ∧ PostX ⟨T.setVm vm₁, locs, cells, slots⟩ (Value.ref b :: argsL).toArray q B ∧
      Steps p.tables e below (T.setTop g) ((B.U.setTop { g with stack := rest }).pushFrame (.throwing q))) := by
  obtain ⟨mk, methM, hnamed, hmethM, hstM, habM⟩ := Cond.instanceMethod_spec hinst
  obtain ⟨methM', cM, hmethM', -, -, -, -, -, -, hsigM⟩ := Cond.code_spec hnamed hcode
  cases hmethM.symm.trans hmethM'
  obtain ⟨c2, r2, m2, q1, q2, q3, q4, kP, hkP, hkPi⟩ := Cond.selects_spec hsel
  cases hcls.symm.trans q1
  cases (State.methodFound?_of_named hnamed hy).symm.trans q2
  cases hnamed.symm.trans q3
  have hselP : selectMethod e.platform s.vm cellB.cls mk = .method mk := by rw [Launch.admits_selectMethod X.admits]; exact q4
  obtain ⟨vm₁, X₁, hstep₁⟩ := X.invokevirtual hexec hown hlink hnamed hmethM hstM hkP hkPi hy (a := b) (cell := cellB) hcell
    (fun z h => by rw [h] at hobj; cases hobj) hselP hmethM habM hkP hkPi (g := g) hg (argsL := argsL) (rest := rest) (hlen _ hsigM) hstack hdg
  rcases hK m meth c ⟨T.setVm vm₁, locs, cells, slots⟩ { g with stack := rest } (.invokevirtual index) mk (Value.ref b :: argsL).toArray X₁ hg hsize hdg hW (X₁.named hnamed) (hpre vm₁ X₁.warmed) with ⟨v, B, X', hpost, hsteps⟩ | ⟨q, B, X', hpost, hsteps⟩
  · exact Or.inl ⟨v, vm₁, B, X₁.warmed, X', hpost, fun target h => hstep₁ _ fun acts => by rw [doInvoke_state]; exact hsteps.trans h⟩
  · exact Or.inr ⟨q, vm₁, B, X₁.warmed, X', hpost, hstep₁ _ fun acts => by rw [doInvoke_state]; exact hsteps⟩
theorem vx_callS (X : Stand p l e R s m args below meth c T locs cells slots) (hexec : p.tables.exec = Jvm.exec) {own : String} {index : Nat} {y : MethodName} {bytes : ByteArray} {maxL : Nat} {ret : Option FieldType}
    (hown : s.vm.findClass own = some m.cls) (hlink : (Cond.methodLink own index y).before args s = true) (hstat : (Cond.static y).before args s = true) (hinit : (Cond.initialized y.cls).before args s = true)
    (hcode : (Cond.code y bytes maxL ret).before args s = true) (hy : y.cls ≠ "java/lang/invoke/MethodHandle" ∧ y.cls ≠ "java/lang/invoke/VarHandle")
    {W9 : Nat} {Pre : Pt → Array Value → Prop} {Post : Pt → Array Value → Option Value → Pt → Prop} {PostX : Pt → Array Value → Addr → Pt → Prop} (hK : vx_Back l R p e below s args y 3 W9 Pre Post PostX)
    {g : JFrame} (hg : g.method = m) (hsize : g.locals.size = c.maxLocals) {argsL rest : List Value} (hlen : ∀ sig, parseMethodDescriptor y.desc = some sig → argsL.length = sig.parameters.length)
    (hstack : g.stack = argsL.reverse ++ rest) (hW : 2 * g.monitorRoom + (rest.map fun v => v.category).sum ≤ W9) (hdg : decode c.code g.pc = .ok (.invokestatic index, 3))
    (hpre : ∀ vm₁, s.WarmedH vm₁ → Pre ⟨T.setVm vm₁, locs, cells, slots⟩ argsL.toArray) :
    (∃ (v : Option Value) (vm₁ : Vm) (B : Pt), s.WarmedH vm₁ ∧ Stand p l e R s m args below meth c B.U B.locs B.cells B.slots ∧ Post ⟨T.setVm vm₁, locs, cells, slots⟩ argsL.toArray v B ∧
      ∀ target, Steps p.tables e below (B.U.setTop { g with pc := g.pc + 3, stack := v.toList ++ rest }) target → Steps p.tables e below (T.setTop g) target) ∨
    (∃ (q : Addr) (vm₁ : Vm) (B : Pt), s.WarmedH vm₁ ∧ Stand p l e R s m args below meth c B.U B.locs B.cells B.slots ∧ PostX ⟨T.setVm vm₁, locs, cells, slots⟩ argsL.toArray q B ∧
      Steps p.tables e below (T.setTop g) ((B.U.setTop { g with stack := rest }).pushFrame (.throwing q))) := by
  obtain ⟨mk, hnamed⟩ := Cond.code_named hcode
  obtain ⟨methM, cM, hmethM, -, -, -, -, -, -, hsigM⟩ := Cond.code_spec hnamed hcode
  have hstatic : methM.isStatic = true := Cond.static_spec hnamed hmethM hstat
  obtain ⟨kP, hkP, -⟩ := className_of_methodNamed hnamed
  have hinitP : kP.init = .initialized := Cond.initialized_spec (findClass_of_methodNamed hnamed) hkP hinit
  obtain ⟨vm₁, X₁, hstep₁⟩ := X.invokestatic hexec hown hlink hnamed hmethM hstatic hkP hinitP hy (g := g) hg (argsL := argsL) (rest := rest) (hlen _ hsigM) hstack hdg
  rcases hK m meth c ⟨T.setVm vm₁, locs, cells, slots⟩ { g with stack := rest } (.invokestatic index) mk argsL.toArray X₁ hg hsize hdg hW (X₁.named hnamed) (hpre vm₁ X₁.warmed) with ⟨v, B, X', hpost, hsteps⟩ | ⟨q, B, X', hpost, hsteps⟩
  · exact Or.inl ⟨v, vm₁, B, X₁.warmed, X', hpost, fun target h => hstep₁ _ fun acts => by rw [doInvoke_state]; exact hsteps.trans h⟩
  · exact Or.inr ⟨q, vm₁, B, X₁.warmed, X', hpost, hstep₁ _ fun acts => by rw [doInvoke_state]; exact hsteps⟩
end Calls
theorem vx_cls {s : State} {T : State} {vm₁ : Vm} {E : String} {k : ClassId} (hW : s.WarmedH vm₁) (h : (T.setVm vm₁).vm.findClass E = some k) : s.vm.findClass E = some k := by
  have h1 : vm₁.findClass E = some k := h
  rw [hW.alike.findClass] at h1
  exact h1
/-- the method's frame g, with q thrown over it -/
def vx_W (p : Program) (l : Launch) (e : Env) (R : Room) (s : State) (m : MethodId) (args : Array Value) (below : List Frame) (meth : Method) (c : Code) (H : Heap) (locs : List Loc) (cells slots : Nat) (Q : State → Prop) (g : JFrame) (q : Addr) : Prop :=
  ∀ T : State, T.heap = H → Stand p l e R s m args below meth c T locs cells slots → ∃ t, Steps p.tables e below ((T.setTop g).pushFrame (.throwing q)) t ∧ Q t
def vx_Run (p : Program) (l : Launch) (e : Env) (R : Room) (s : State) (m : MethodId) (args : Array Value) (below : List Frame) (meth : Method) (c : Code) (H : Heap) (locs : List Loc) (cells slots mc ms : Nat) (g : JFrame) (rest : List Value) (Qa : State → Outcome → State → Prop) (XC : String → State → State → Prop) (free : Addr → Prop) : Prop :=
  ∀ T : State, T.heap = H → Stand p l e R s m args below meth c T locs cells slots →
    (∃ (v : Option Value) (st₀ t T' : State) (L : List Loc), st₀.heap = H ∧ Stand p l e R s m args below meth c T' (locs ++ L) (cells + mc) (slots + ms) ∧ (∀ q ∈ L, free q.base) ∧ T'.heap = t.heap ∧ T'.vm = t.vm ∧ Qa st₀ (.returned v) t ∧
      Goes p e below T g T' { g with pc := g.pc + 3, stack := v.toList ++ rest }) ∨
    (∃ (q : Addr) (st₀ t T' : State) (L : List Loc) (E : String) (ce : Cell), st₀.heap = H ∧ Stand p l e R s m args below meth c T' (locs ++ L) (cells + mc) (slots + ms) ∧ (∀ z ∈ L, free z.base) ∧ T'.heap = t.heap ∧ T'.vm = t.vm ∧ XC E st₀ t ∧ t.heap[q]? = some ce ∧ ce.vm = .none ∧ s.vm.findClass E = some ce.cls ∧
      Steps p.tables e below (T.setTop g) ((T'.setTop { g with stack := rest }).pushFrame (.throwing q)))
def vx_X {S : Type} (px : S → Prop) (B : String → S → State → Prop) (A : Nat → Prop) : String → State → State → Prop := fun E st t => ∃ u : S, px u ∧ B E u t ∧ va_F A st t
section Runs
variable {p : Program} {l : Launch} {e : Env} {R : Room} {s : State} {m : MethodId} {args : Array Value} {below : List Frame} {meth : Method} {c : Code} {H : Heap} {locs : List Loc} {cells slots : Nat}
variable {y : MethodName} {bytes cc : ByteArray} {maxL nL mc ms n index : Nat} {ret : Option FieldType} {ws : List Cond} {rm : Room} {Pc : Array Value → State → Prop} {Qc : Array Value → State → Outcome → State → Prop} {XC : String → State → State → Prop} {free : Addr → Prop} {Ts : List Cond} {own C : String} {b : Addr} {As rest : List Value} {g : JFrame}
theorem vx_callBack (cb : CallB R s args own index y bytes maxL ret ws rm mc ms n) (hM : vx_Met l y ws rm Pc Qc XC mc ms free) (hbl : FrameBlind Pc) : vx_Back l R p e below s args y 3 8 (PreOf R mc ms Pc) (PostOf Qc mc ms free) (vx_Post XC mc ms free) := by
  obtain ⟨hrc, hrs, hfr, hlo, hws, hcw, -, hini, -⟩ := cb
  exact vx_back (bytes := bytes) (maxL := maxL) (ret := ret) hM hbl hrc hrs hfr hlo hws hcw (fun a' U hW => word_at hW (Or.inl (by first | rfl | simp [Cond.onTables, Cond.keeps, Cond.steady])) hini)
theorem vx_runV (S : CallFix p m c cc nL s args Ts own) (hM : vx_Met l y ws rm Pc Qc XC mc ms free) (cw : CallW R s args own C index y bytes maxL ret ws rm mc ms n) (hp : PreV s H C b Pc As)
    (hg : g.method = m) (hn : As.length = n) (hsize : g.locals.size = nL) (hstack : g.stack = As.reverse ++ .ref b :: rest) (hW : 2 * g.monitorRoom + (rest.map fun v => v.category).sum ≤ 8) (hdg : decode cc g.pc = .ok (.invokevirtual index, 3)) (hf : cells + mc ≤ R.cells ∧ slots + ms ≤ R.slots) :
    vx_Run p l e R s m args below meth c H locs cells slots mc ms g rest (Qc (Value.ref b :: As).toArray) XC free := by
  have hK : vx_Back l R p e below s args y 3 8 (PreOf R mc ms Pc) (PostOf Qc mc ms free) (vx_Post XC mc ms free) := vx_callBack cw.1 hM hp.1
  obtain ⟨⟨-, -, -, -, -, -, hcode, -, hy, hlen, hl⟩, hin, hse⟩ := cw
  obtain ⟨hx, hb, hml, ho, -⟩ := S
  obtain ⟨-, ⟨cellB, hcB, hoB, hclB⟩, hPc⟩ := hp
  intro T hT X
  rcases vx_callV X hx (C := C) (bytes := bytes) (maxL := maxL) (ret := ret) ho hl hin hse hcode hy hK (by rw [hT]; exact hcB) hoB hclB hg (hsize.trans hml.symm) (argsL := As) (rest := rest) (fun sig h => hn.trans (hlen sig h)) hstack hW (by rw [hb]; exact hdg)
    (fun vm₁ hW₁ => ⟨hf.1, hf.2, hPc (T.setVm vm₁) hT hW₁⟩) with ⟨v, vm₁, ⟨U', l2, c2, s2⟩, hW₁, X', ⟨g', mk, t, L, e1, e2, hq, h1, hL, h2, h3⟩, st⟩ | ⟨q, vm₁, ⟨U', l2, c2, s2⟩, hW₁, X', ⟨g', mk, t, L, E, ce, e1, e2, hq, hce, hcv, hcl, h1, hL, h2, h3⟩, st⟩
  · dsimp only [Pt.U, Pt.locs, Pt.cells, Pt.slots] at X' e1 e2 h1 h2 h3 st
    subst h1; subst h2; subst h3
    exact Or.inl ⟨v, (T.setVm vm₁).calling g' mk (Value.ref b :: As).toArray, t, U', L, hT, X', hL, e1, e2, hq, st⟩
  · dsimp only [Pt.U, Pt.locs, Pt.cells, Pt.slots] at X' e1 e2 h1 h2 h3 st hcl
    subst h1; subst h2; subst h3
    exact Or.inr ⟨q, (T.setVm vm₁).calling g' mk (Value.ref b :: As).toArray, t, U', L, E, ce, hT, X', hL, e1, e2, hq, hce, hcv, vx_cls hW₁ hcl, st⟩
theorem vx_runS (S : CallFix p m c cc nL s args Ts own) (hM : vx_Met l y ws rm Pc Qc XC mc ms free) (cw : CallB R s args own index y bytes maxL ret ws rm mc ms n ∧ (Cond.static y).before args s = true) (hp : PreS s H Pc As)
    (hg : g.method = m) (hn : As.length = n) (hsize : g.locals.size = nL) (hstack : g.stack = As.reverse ++ rest) (hW : 2 * g.monitorRoom + (rest.map fun v => v.category).sum ≤ 8) (hdg : decode cc g.pc = .ok (.invokestatic index, 3)) (hf : cells + mc ≤ R.cells ∧ slots + ms ≤ R.slots) :
    vx_Run p l e R s m args below meth c H locs cells slots mc ms g rest (Qc As.toArray) XC free := by
  have hK : vx_Back l R p e below s args y 3 8 (PreOf R mc ms Pc) (PostOf Qc mc ms free) (vx_Post XC mc ms free) := vx_callBack cw.1 hM hp.1
  obtain ⟨⟨-, -, -, -, -, -, hcode, hini, hy, hlen, hl⟩, hstt⟩ := cw
  obtain ⟨hx, hb, hml, ho, -⟩ := S
  intro T hT X
  rcases vx_callS X hx (bytes := bytes) (maxL := maxL) (ret := ret) ho hl hstt hini hcode hy hK hg (hsize.trans hml.symm) (argsL := As) (rest := rest) (fun sig h => hn.trans (hlen sig h)) hstack hW (by rw [hb]; exact hdg)
    (fun vm₁ hW₁ => ⟨hf.1, hf.2, hp.2 (T.setVm vm₁) hT hW₁⟩) with ⟨v, vm₁, ⟨U', l2, c2, s2⟩, hW₁, X', ⟨g', mk, t, L, e1, e2, hq, h1, hL, h2, h3⟩, st⟩ | ⟨q, vm₁, ⟨U', l2, c2, s2⟩, hW₁, X', ⟨g', mk, t, L, E, ce, e1, e2, hq, hce, hcv, hcl, h1, hL, h2, h3⟩, st⟩
  · dsimp only [Pt.U, Pt.locs, Pt.cells, Pt.slots] at X' e1 e2 h1 h2 h3 st
    subst h1; subst h2; subst h3
    exact Or.inl ⟨v, (T.setVm vm₁).calling g' mk As.toArray, t, U', L, hT, X', hL, e1, e2, hq, st⟩
  · dsimp only [Pt.U, Pt.locs, Pt.cells, Pt.slots] at X' e1 e2 h1 h2 h3 st hcl
    subst h1; subst h2; subst h3
    exact Or.inr ⟨q, (T.setVm vm₁).calling g' mk As.toArray, t, U', L, E, ce, hT, X', hL, e1, e2, hq, hce, hcv, vx_cls hW₁ hcl, st⟩
end Runs
section Rows
variable {p : Program} {l : Launch} {e : Env} {R : Room} {s : State} {m : MethodId} {args : Array Value} {below : List Frame} {meth : Method} {c : Code} {H : Heap} {locs : List Loc} {cells slots : Nat} {Q : State → Prop}
variable {mc ms : Nat} {free : Addr → Prop} {A0 A1 : Nat → Prop} {H0 : Heap} {a : Array Value} {pc : Nat} {ls : Array Slot} {st0 rest : List Value}
theorem vx_keep {st₀ t T' : State} {L : List Loc} (h0 : st₀.heap = H) (e1 : T'.heap = t.heap) (hS : va_S A0 H0 H locs) (hA : ∀ q, q < H.size → A1 q → A0 q) (hf : ∀ q, free q → A0 q) (hL : ∀ q ∈ L, free q.base) (hF : va_F A1 st₀ t) :
    H.size ≤ T'.heap.size ∧ (∀ q : Nat, q < H.size → ¬ A1 q → T'.heap[q]? = H[q]?) ∧ va_S A0 H0 T'.heap (locs ++ L) := by
  obtain ⟨hz, hk⟩ := hF
  rw [h0] at hz hk
  exact ⟨by rw [e1]; exact hz, fun q h1 h2 => by rw [e1]; exact hk q h1 h2,
    ⟨Nat.le_trans hS.1 (by rw [e1]; exact hz), fun q h1 h2 => by rw [e1, hk q (Nat.lt_of_lt_of_le h1 hS.1) (fun z => h2 (hA q (Nat.lt_of_lt_of_le h1 hS.1) z))]; exact hS.2.1 q h1 h2, fun q hq => by
      rcases List.mem_append.mp hq with h | h
      · exact hS.2.2 q h
      · exact hf _ (hL q h)⟩⟩
theorem vx_calli {S SX : Type} {post : Int32 → S → Prop} {px : SX → Prop} {B : S → State → Prop} {BX : String → SX → State → Prop} {AX : Nat → Prop} (hr : vx_Run p l e R s m args below meth c H locs cells slots mc ms (F0 m pc ls st0) rest (va_Qi post B A1 a) (vx_X px BX AX) free) (hS : va_S A0 H0 H locs) (hA : ∀ q, q < H.size → A1 q → A0 q) (hf : ∀ q, free q → A0 q) (hAX : ∀ q, q < H.size → AX q → A0 q)
    (kx : ∀ (E : String) (ce : Cell) (q9 : Addr) (u : SX) (t : State) (H1 : Heap) (locs1 : List Loc), t.heap = H1 → s.vm.Alike t.vm → px u → BX E u t → H.size ≤ H1.size → (∀ q : Nat, q < H.size → ¬ AX q → H1[q]? = H[q]?) → va_S A0 H0 H1 locs1 → H1[q9]? = some ce → ce.vm = .none → s.vm.findClass E = some ce.cls → vx_W p l e R s m args below meth c H1 locs1 (cells + mc) (slots + ms) Q (F0 m pc ls rest) q9)
    (kk : ∀ (r : Int32) (u : S) (t : State) (H1 : Heap) (locs1 : List Loc), t.heap = H1 → s.vm.Alike t.vm → post r u → B u t → H.size ≤ H1.size → (∀ q : Nat, q < H.size → ¬ A1 q → H1[q]? = H[q]?) → va_S A0 H0 H1 locs1 → W p l e R s m args below meth c H1 locs1 (cells + mc) (slots + ms) Q (F0 m (pc + 3) ls (.int r :: rest))) : W p l e R s m args below meth c H locs cells slots Q (F0 m pc ls st0) := by
  intro T hT X
  rcases hr T hT X with ⟨v, st₀, t, T', L, h0, X', hL, e1, e2, ⟨⟨r, u, hv, hp, hb⟩, hF⟩, st⟩ | ⟨q, st₀, t, T', L, E, ce, h0, X', hL, e1, e2, ⟨u, hp, hb, hF⟩, hce, hcv, hcl, st⟩
  · cases hv
    obtain ⟨k1, k2, k3⟩ := vx_keep h0 e1 hS hA hf hL hF
    obtain ⟨t2, a1, b1⟩ := kk r u t T'.heap (locs ++ L) e1.symm (by rw [← e2]; exact X'.warmed.alike) hp hb k1 k2 k3 T' rfl X'
    exact ⟨t2, st t2 a1, b1⟩
  · obtain ⟨k1, k2, k3⟩ := vx_keep h0 e1 hS hAX hf hL hF
    obtain ⟨t2, a1, b1⟩ := kx E ce q u t T'.heap (locs ++ L) e1.symm (by rw [← e2]; exact X'.warmed.alike) hp hb k1 k2 k3 (by rw [e1]; exact hce) hcv hcl T' rfl X'
    exact ⟨t2, st.trans a1, b1⟩
theorem vx_calll {S SX : Type} {post : Int64 → S → Prop} {px : SX → Prop} {B : S → State → Prop} {BX : String → SX → State → Prop} {AX : Nat → Prop} (hr : vx_Run p l e R s m args below meth c H locs cells slots mc ms (F0 m pc ls st0) rest (va_Ql post B A1 a) (vx_X px BX AX) free) (hS : va_S A0 H0 H locs) (hA : ∀ q, q < H.size → A1 q → A0 q) (hf : ∀ q, free q → A0 q) (hAX : ∀ q, q < H.size → AX q → A0 q)
    (kx : ∀ (E : String) (ce : Cell) (q9 : Addr) (u : SX) (t : State) (H1 : Heap) (locs1 : List Loc), t.heap = H1 → s.vm.Alike t.vm → px u → BX E u t → H.size ≤ H1.size → (∀ q : Nat, q < H.size → ¬ AX q → H1[q]? = H[q]?) → va_S A0 H0 H1 locs1 → H1[q9]? = some ce → ce.vm = .none → s.vm.findClass E = some ce.cls → vx_W p l e R s m args below meth c H1 locs1 (cells + mc) (slots + ms) Q (F0 m pc ls rest) q9)
    (kk : ∀ (r : Int64) (u : S) (t : State) (H1 : Heap) (locs1 : List Loc), t.heap = H1 → s.vm.Alike t.vm → post r u → B u t → H.size ≤ H1.size → (∀ q : Nat, q < H.size → ¬ A1 q → H1[q]? = H[q]?) → va_S A0 H0 H1 locs1 → W p l e R s m args below meth c H1 locs1 (cells + mc) (slots + ms) Q (F0 m (pc + 3) ls (.long r :: rest))) : W p l e R s m args below meth c H locs cells slots Q (F0 m pc ls st0) := by
  intro T hT X
  rcases hr T hT X with ⟨v, st₀, t, T', L, h0, X', hL, e1, e2, ⟨⟨r, u, hv, hp, hb⟩, hF⟩, st⟩ | ⟨q, st₀, t, T', L, E, ce, h0, X', hL, e1, e2, ⟨u, hp, hb, hF⟩, hce, hcv, hcl, st⟩
  · cases hv
    obtain ⟨k1, k2, k3⟩ := vx_keep h0 e1 hS hA hf hL hF
    obtain ⟨t2, a1, b1⟩ := kk r u t T'.heap (locs ++ L) e1.symm (by rw [← e2]; exact X'.warmed.alike) hp hb k1 k2 k3 T' rfl X'
    exact ⟨t2, st t2 a1, b1⟩
  · obtain ⟨k1, k2, k3⟩ := vx_keep h0 e1 hS hAX hf hL hF
    obtain ⟨t2, a1, b1⟩ := kx E ce q u t T'.heap (locs ++ L) e1.symm (by rw [← e2]; exact X'.warmed.alike) hp hb k1 k2 k3 (by rw [e1]; exact hce) hcv hcl T' rfl X'
    exact ⟨t2, st.trans a1, b1⟩
theorem vx_callf {S SX : Type} {post : UInt32 → S → Prop} {px : SX → Prop} {B : S → State → Prop} {BX : String → SX → State → Prop} {AX : Nat → Prop} (hr : vx_Run p l e R s m args below meth c H locs cells slots mc ms (F0 m pc ls st0) rest (va_Qf post B A1 a) (vx_X px BX AX) free) (hS : va_S A0 H0 H locs) (hA : ∀ q, q < H.size → A1 q → A0 q) (hf : ∀ q, free q → A0 q) (hAX : ∀ q, q < H.size → AX q → A0 q)
    (kx : ∀ (E : String) (ce : Cell) (q9 : Addr) (u : SX) (t : State) (H1 : Heap) (locs1 : List Loc), t.heap = H1 → s.vm.Alike t.vm → px u → BX E u t → H.size ≤ H1.size → (∀ q : Nat, q < H.size → ¬ AX q → H1[q]? = H[q]?) → va_S A0 H0 H1 locs1 → H1[q9]? = some ce → ce.vm = .none → s.vm.findClass E = some ce.cls → vx_W p l e R s m args below meth c H1 locs1 (cells + mc) (slots + ms) Q (F0 m pc ls rest) q9)
    (kk : ∀ (r : UInt32) (u : S) (t : State) (H1 : Heap) (locs1 : List Loc), t.heap = H1 → s.vm.Alike t.vm → post r u → B u t → H.size ≤ H1.size → (∀ q : Nat, q < H.size → ¬ A1 q → H1[q]? = H[q]?) → va_S A0 H0 H1 locs1 → W p l e R s m args below meth c H1 locs1 (cells + mc) (slots + ms) Q (F0 m (pc + 3) ls (.float r :: rest))) : W p l e R s m args below meth c H locs cells slots Q (F0 m pc ls st0) := by
  intro T hT X
  rcases hr T hT X with ⟨v, st₀, t, T', L, h0, X', hL, e1, e2, ⟨⟨r, u, hv, hp, hb⟩, hF⟩, st⟩ | ⟨q, st₀, t, T', L, E, ce, h0, X', hL, e1, e2, ⟨u, hp, hb, hF⟩, hce, hcv, hcl, st⟩
  · cases hv
    obtain ⟨k1, k2, k3⟩ := vx_keep h0 e1 hS hA hf hL hF
    obtain ⟨t2, a1, b1⟩ := kk r u t T'.heap (locs ++ L) e1.symm (by rw [← e2]; exact X'.warmed.alike) hp hb k1 k2 k3 T' rfl X'
    exact ⟨t2, st t2 a1, b1⟩
  · obtain ⟨k1, k2, k3⟩ := vx_keep h0 e1 hS hAX hf hL hF
    obtain ⟨t2, a1, b1⟩ := kx E ce q u t T'.heap (locs ++ L) e1.symm (by rw [← e2]; exact X'.warmed.alike) hp hb k1 k2 k3 (by rw [e1]; exact hce) hcv hcl T' rfl X'
    exact ⟨t2, st.trans a1, b1⟩
theorem vx_calld {S SX : Type} {post : UInt64 → S → Prop} {px : SX → Prop} {B : S → State → Prop} {BX : String → SX → State → Prop} {AX : Nat → Prop} (hr : vx_Run p l e R s m args below meth c H locs cells slots mc ms (F0 m pc ls st0) rest (va_Qd post B A1 a) (vx_X px BX AX) free) (hS : va_S A0 H0 H locs) (hA : ∀ q, q < H.size → A1 q → A0 q) (hf : ∀ q, free q → A0 q) (hAX : ∀ q, q < H.size → AX q → A0 q)
    (kx : ∀ (E : String) (ce : Cell) (q9 : Addr) (u : SX) (t : State) (H1 : Heap) (locs1 : List Loc), t.heap = H1 → s.vm.Alike t.vm → px u → BX E u t → H.size ≤ H1.size → (∀ q : Nat, q < H.size → ¬ AX q → H1[q]? = H[q]?) → va_S A0 H0 H1 locs1 → H1[q9]? = some ce → ce.vm = .none → s.vm.findClass E = some ce.cls → vx_W p l e R s m args below meth c H1 locs1 (cells + mc) (slots + ms) Q (F0 m pc ls rest) q9)
    (kk : ∀ (r : UInt64) (u : S) (t : State) (H1 : Heap) (locs1 : List Loc), t.heap = H1 → s.vm.Alike t.vm → post r u → B u t → H.size ≤ H1.size → (∀ q : Nat, q < H.size → ¬ A1 q → H1[q]? = H[q]?) → va_S A0 H0 H1 locs1 → W p l e R s m args below meth c H1 locs1 (cells + mc) (slots + ms) Q (F0 m (pc + 3) ls (.double r :: rest))) : W p l e R s m args below meth c H locs cells slots Q (F0 m pc ls st0) := by
  intro T hT X
  rcases hr T hT X with ⟨v, st₀, t, T', L, h0, X', hL, e1, e2, ⟨⟨r, u, hv, hp, hb⟩, hF⟩, st⟩ | ⟨q, st₀, t, T', L, E, ce, h0, X', hL, e1, e2, ⟨u, hp, hb, hF⟩, hce, hcv, hcl, st⟩
  · cases hv
    obtain ⟨k1, k2, k3⟩ := vx_keep h0 e1 hS hA hf hL hF
    obtain ⟨t2, a1, b1⟩ := kk r u t T'.heap (locs ++ L) e1.symm (by rw [← e2]; exact X'.warmed.alike) hp hb k1 k2 k3 T' rfl X'
    exact ⟨t2, st t2 a1, b1⟩
  · obtain ⟨k1, k2, k3⟩ := vx_keep h0 e1 hS hAX hf hL hF
    obtain ⟨t2, a1, b1⟩ := kx E ce q u t T'.heap (locs ++ L) e1.symm (by rw [← e2]; exact X'.warmed.alike) hp hb k1 k2 k3 (by rw [e1]; exact hce) hcv hcl T' rfl X'
    exact ⟨t2, st.trans a1, b1⟩
theorem vx_callv {S SX : Type} {post : S → Prop} {px : SX → Prop} {B : S → State → Prop} {BX : String → SX → State → Prop} {AX : Nat → Prop} (hr : vx_Run p l e R s m args below meth c H locs cells slots mc ms (F0 m pc ls st0) rest (va_Qv post B A1 a) (vx_X px BX AX) free) (hS : va_S A0 H0 H locs) (hA : ∀ q, q < H.size → A1 q → A0 q) (hf : ∀ q, free q → A0 q) (hAX : ∀ q, q < H.size → AX q → A0 q)
    (kx : ∀ (E : String) (ce : Cell) (q9 : Addr) (u : SX) (t : State) (H1 : Heap) (locs1 : List Loc), t.heap = H1 → s.vm.Alike t.vm → px u → BX E u t → H.size ≤ H1.size → (∀ q : Nat, q < H.size → ¬ AX q → H1[q]? = H[q]?) → va_S A0 H0 H1 locs1 → H1[q9]? = some ce → ce.vm = .none → s.vm.findClass E = some ce.cls → vx_W p l e R s m args below meth c H1 locs1 (cells + mc) (slots + ms) Q (F0 m pc ls rest) q9)
    (kk : ∀ (u : S) (t : State) (H1 : Heap) (locs1 : List Loc), t.heap = H1 → s.vm.Alike t.vm → post u → B u t → H.size ≤ H1.size → (∀ q : Nat, q < H.size → ¬ A1 q → H1[q]? = H[q]?) → va_S A0 H0 H1 locs1 → W p l e R s m args below meth c H1 locs1 (cells + mc) (slots + ms) Q (F0 m (pc + 3) ls (rest))) : W p l e R s m args below meth c H locs cells slots Q (F0 m pc ls st0) := by
  intro T hT X
  rcases hr T hT X with ⟨v, st₀, t, T', L, h0, X', hL, e1, e2, ⟨⟨u, hv, hp, hb⟩, hF⟩, st⟩ | ⟨q, st₀, t, T', L, E, ce, h0, X', hL, e1, e2, ⟨u, hp, hb, hF⟩, hce, hcv, hcl, st⟩
  · cases hv
    obtain ⟨k1, k2, k3⟩ := vx_keep h0 e1 hS hA hf hL hF
    obtain ⟨t2, a1, b1⟩ := kk u t T'.heap (locs ++ L) e1.symm (by rw [← e2]; exact X'.warmed.alike) hp hb k1 k2 k3 T' rfl X'
    exact ⟨t2, st t2 a1, b1⟩
  · obtain ⟨k1, k2, k3⟩ := vx_keep h0 e1 hS hAX hf hL hF
    obtain ⟨t2, a1, b1⟩ := kx E ce q u t T'.heap (locs ++ L) e1.symm (by rw [← e2]; exact X'.warmed.alike) hp hb k1 k2 k3 (by rw [e1]; exact hce) hcv hcl T' rfl X'
    exact ⟨t2, st.trans a1, b1⟩
/-- caught by the row x of this method's table; the rows ahead don't take it -/
theorem vx_catch {own name : String} {E : String} {ce : Cell} {q : Addr} (hown : s.vm.findClass own = some m.cls) (pre : List ExceptionTableEntry) (x : ExceptionTableEntry) (suf : List ExceptionTableEntry) (hsplit : c.exceptionTable.toList = pre ++ x :: suf)
    (hpass : ∀ z ∈ pre, covers z pc = false ∨ (z.catchType ≠ 0 ∧ ∃ nm : String, (Cond.classLink own z.catchType nm).before args s = true ∧ va_Nc E nm s)) (hx : covers x pc = true) (h0 : x.catchType ≠ 0)
    (hlink : (Cond.classLink own x.catchType name).before args s = true) (hcast : (Cond.castable E name).before args s = true) (hcell : H[q]? = some ce) (hv : ce.vm = .none) (hcl : s.vm.findClass E = some ce.cls)
    (kk : W p l e R s m args below meth c H locs cells slots Q (F0 m x.handlerPc ls [.ref q])) : vx_W p l e R s m args below meth c H locs cells slots Q (F0 m pc ls rest) q := by
  intro T hT X
  have hpl : e.platform.magicAccessors = ({} : Platform).magicAccessors := by rw [X.admits.platform]
  obtain ⟨c3, c4, hc3, hc4, hasg⟩ := Cond.castable_spec hcast
  cases Option.some.inj (hc3.symm.trans hcl)
  obtain ⟨c5, hc5, hcl5⟩ := Cond.classLink_spec hown hlink e.platform hpl
  cases Option.some.inj (hc4.symm.trans hc5)
  obtain ⟨vm', X', st⟩ := X.thenCaughtThrough q (g := F0 m pc ls rest) rfl (Steps.refl _) (by rw [hT]; exact hcell) (by rw [hv]; rfl) (by obtain ⟨k9, h9, -⟩ := Vm.findClass_spec hcl; exact ⟨k9, h9⟩) pre x suf hsplit
    (fun z hz => by
      rcases hpass z hz with h | ⟨hz0, nm, hl1, hn1⟩
      · exact Or.inl h
      · obtain ⟨c6, hc6, hcl6⟩ := Cond.classLink_spec hown hl1 e.platform hpl
        obtain ⟨a8, b8, h1, h2, h3⟩ := hn1
        cases Option.some.inj (h1.symm.trans hcl)
        cases Option.some.inj (h2.symm.trans hc6)
        exact Or.inr ⟨hz0, _, hcl6, h3⟩) hx (Or.inr ⟨h0, c4, hcl5, hasg⟩)
  obtain ⟨t, a1, b1⟩ := kk (T.setVm vm') hT X'
  exact ⟨t, st.trans a1, b1⟩
end Rows
section Ends
variable {p : Program} {l : Launch} {e : Env} {R : Room} {s : State} {m : MethodId} {args : Array Value} {below : List Frame} {meth : Method} {c : Code} {H : Heap} {locs : List Loc} {cells slots : Nat} {Q : State → Prop}
variable {mc ms : Nat} {free : Addr → Prop} {A0 A1 : Nat → Prop} {H0 : Heap} {a : Array Value} {ls : Array Slot} {st0 rest : List Value}
variable {Qc : Array Value → State → Outcome → State → Prop} {XC : String → State → State → Prop}
/-- what a body that may throw owes at its end -/
def vx_MQ (below : List Frame) (Qc : Array Value → State → Outcome → State → Prop) (XC : String → State → State → Prop) (a : Array Value) (s : State) (mc ms : Nat) (free : Addr → Prop) : State → Prop := fun t =>
  ∃ o, t.status = .running ∧ Ended t below o ∧ vx_Q Qc XC mc ms free a s o t
theorem vx_ret {g : JFrame} {mc ms : Nat} (k : W p l e R s m args below meth c H locs cells slots (MQ below Qc args s mc ms free) g) : W p l e R s m args below meth c H locs cells slots (vx_MQ below Qc XC args s mc ms free) g := by
  intro T hT X
  obtain ⟨t, a1, o, b1, b2, b3, b4⟩ := k T hT X
  exact ⟨t, a1, o, b1, b2, Or.inl ⟨b3, b4⟩⟩
/-- not caught here: it goes on to the caller -/
theorem vx_widen {g : JFrame} {q : Addr} {k n : Nat} (h1 : cells ≤ k) (h2 : slots ≤ n) (kk : vx_W p l e R s m args below meth c H locs k n Q g q) : vx_W p l e R s m args below meth c H locs cells slots Q g q := fun T hT X => kk T hT (stand_widen X h1 h2)
theorem vx_out {pc : Nat} {E : String} {ce : Cell} {q : Addr} {mc ms : Nat} (hout : ∀ x ∈ c.exceptionTable.toList, covers x pc = false) (hlocks : meth.locks = false) (hcell : H[q]? = some ce) (hv : ce.vm = .none) (hcl : s.vm.findClass E = some ce.cls)
    (hx : ∀ t : State, t.heap = H → s.vm.Alike t.vm → XC E s t) (hf : ∀ z ∈ locs, free z.base) (hc : cells ≤ mc) (hs : slots ≤ ms) :
    vx_W p l e R s m args below meth c H locs cells slots (vx_MQ below Qc XC args s mc ms free) (F0 m pc ls rest) q := by
  intro T hT X
  obtain ⟨st1, hrun, hend, hW, hsm⟩ := X.leaveThrown q (g := F0 m pc ls rest) rfl rfl rfl hout hlocks
  have hcell9 : (T.setFrames (.throwing q :: below)).heap[q]? = some ce := by
    show T.heap[q]? = some ce
    rw [hT]; exact hcell
  exact ⟨_, st1, .threw q, hrun, hend, Or.inr ⟨q, rfl, E, ce, locs, hx _ hT hW.alike, hcell9, hv, hcl, hW, hsm.mono hc hs, hf⟩⟩
theorem vx_frame {U : State} {k n : Nat} (h : s.sameButNew ({ U with vm := s.vm } : State) locs k n) : s.heap.size ≤ U.heap.size ∧ ∀ q : Nat, q < s.heap.size → (∀ z ∈ locs, z.base ≠ q) → U.heap[q]? = s.heap[q]? := by
  obtain ⟨-, h2, -, -, -, h6⟩ := h
  refine ⟨h2, fun q hq hz => ?_⟩
  obtain ⟨c9, e1, e2, e3, e4⟩ := h6 q _ (Array.getElem?_eq_getElem hq)
  have hs : c9.slots = (s.heap[q]).slots := Array.ext_getElem? fun i => e4 i fun hm => hz _ hm rfl
  have h9 : c9 = s.heap[q] := by
    rw [hs] at e2
    exact e2
  have e5 : U.heap[q]? = some c9 := e1
  rw [e5, h9, Array.getElem?_eq_getElem hq]
/-- the words of a throw but the four that speak of the heap -/
def vx_no (w : Cond) : Bool := decide (w ≠ .isRef (.static Bundle.tN "UNASSIGNED_STACK" Bundle.steD)) && decide (w ≠ .isRef (.static Bundle.tN "SUPPRESSED_SENTINEL" Bundle.listD)) && decide (w ≠ .laysStatic Bundle.tN "UNASSIGNED_STACK" Bundle.steD) && decide (w ≠ .laysStatic Bundle.tN "SUPPRESSED_SENTINEL" Bundle.listD)
def vx_at0 (own : String) (ic : Nat) (X : String) (names : List String) : List Cond := (Bundle.ownAtoms0 own ic X names).filter vx_no
def vx_atS (own : String) (ic : Nat) (X : String) (names : List String) : List Cond := (Bundle.ownAtoms own ic X names).filter vx_no
/-- a word that the tables alone decide, or a good one -/
def vx_ot (w : Cond) : Bool := w.onTables || goodWord w
theorem vx_ot_at {args a' : Array Value} {s U : State} {w : Cond} (hW : s.WarmedH U.vm) (hvm : s.vm = U.vm) (hg : vx_ot w = true) (h : w.before args s = true) : w.before a' U = true := by
  simp only [vx_ot, Bool.or_eq_true] at hg
  rcases hg with hg | hg
  · exact va_tabs hg hvm h
  · exact word_at hW (good_of_word hg) h
/-- a list's words: the good ones out of the method's own list, the others by premises of their own -/
theorem vx_hat {args : Array Value} {s : State} {L B : List Cond} (h1 : ∀ w ∈ L.filter goodWord, w.before args s = true) (h2 : ∀ w ∈ L.filter (fun w => !goodWord w), w ∈ B) (h3 : ∀ w ∈ B, w.before args s = true) : ∀ w ∈ L, w.before args s = true := by
  intro w hw
  by_cases g : goodWord w = true
  · exact h1 w (List.mem_filter.mpr ⟨hw, g⟩)
  · refine h3 w (h2 w (List.mem_filter.mpr ⟨hw, ?_⟩))
    show (!goodWord w) = true
    cases hgw : goodWord w
    · rfl
    · exact absurd hgw g
theorem vx_c {args : Array Value} {s : State} {w : Cond} {B : List Cond} (h : w.before args s = true) (t : ∀ w ∈ B, w.before args s = true) : ∀ w' ∈ w :: B, w'.before args s = true := fun w' h' => (List.mem_cons.mp h').elim (fun e => by rw [e]; exact h) (t w')
theorem vx_n {args : Array Value} {s : State} : ∀ w ∈ ([] : List Cond), w.before args s = true := fun _ h => nomatch h
theorem vx_own {args : Array Value} {s : State} {L : List Cond} (h1 : ∀ w ∈ L.filter vx_no, w.before args s = true)
    (hU : (Cond.isRef (.static Bundle.tN "UNASSIGNED_STACK" Bundle.steD)).before args s = true) (hN : (Cond.isRef (.static Bundle.tN "SUPPRESSED_SENTINEL" Bundle.listD)).before args s = true)
    (lU : (Cond.laysStatic Bundle.tN "UNASSIGNED_STACK" Bundle.steD).before args s = true) (lN : (Cond.laysStatic Bundle.tN "SUPPRESSED_SENTINEL" Bundle.listD).before args s = true) : ∀ w ∈ L, w.before args s = true := by
  intro w hw
  by_cases e1 : w = .isRef (.static Bundle.tN "UNASSIGNED_STACK" Bundle.steD)
  · rw [e1]; exact hU
  · by_cases e2 : w = .isRef (.static Bundle.tN "SUPPRESSED_SENTINEL" Bundle.listD)
    · rw [e2]; exact hN
    · by_cases e3 : w = .laysStatic Bundle.tN "UNASSIGNED_STACK" Bundle.steD
      · rw [e3]; exact lU
      · by_cases e4 : w = .laysStatic Bundle.tN "SUPPRESSED_SENTINEL" Bundle.listD
        · rw [e4]; exact lN
        · exact h1 w (List.mem_filter.mpr ⟨hw, by unfold vx_no; rw [decide_eq_true e1, decide_eq_true e2, decide_eq_true e3, decide_eq_true e4]; rfl⟩)
/-- where a static field lies, its class's statics cell in H -/
def vx_L (C n d : String) (A : Nat → Prop) (U : State) (H : Heap) : Prop := ∃ (c : ClassId) (k : Class) (i : Nat) (f : Field) (a : Nat) (cell : Cell), U.vm.findClass C = some c ∧ U.fieldFound? C n d = some (c, k, i, f) ∧ f.isStatic = true ∧ k.statics = some a ∧ H[a]? = some cell ∧ cell.vm.isStatics = true ∧ cell.cls = c ∧ f.slot < cell.slots.size ∧ k.staticTypes[f.slot]? = some f.type ∧ ¬ A a
theorem vx_L.moved {C n d : String} {A : Nat → Prop} {u U : State} {H : Heap} (hvm : u.vm.Alike U.vm) (h : vx_L C n d A u H) : vx_L C n d A U H := by
  obtain ⟨c, k, i, f, a, cell, h1, h2, h3, h4, h5, h6, h7, h8, h9, h10⟩ := h
  obtain ⟨k', hi', he⟩ := State.fieldFound?_setVm hvm h2
  exact ⟨c, k', i, f, a, cell, by rw [hvm.findClass]; exact h1, hi', h3, by rw [he]; exact h4, h5, h6, h7, h8, by rw [he]; exact h9, h10⟩
theorem vx_L.kept {C n d : String} {A : Nat → Prop} {U : State} {H H1 : Heap} (h : vx_L C n d A U H) (hq : ∀ a : Nat, a < H.size → ¬ A a → H1[a]? = H[a]?) : vx_L C n d A U H1 := by
  obtain ⟨c, k, i, f, a, cell, h1, h2, h3, h4, h5, h6, h7, h8, h9, h10⟩ := h
  exact ⟨c, k, i, f, a, cell, h1, h2, h3, h4, by rw [hq a (Array.getElem?_eq_some_iff.mp h5).1 h10]; exact h5, h6, h7, h8, h9, h10⟩
theorem vx_L.narrow {C n d : String} {A B : Nat → Prop} {U : State} {H : Heap} (h : vx_L C n d A U H) (hAB : ∀ q, B q → A q) : vx_L C n d B U H := by
  obtain ⟨c, k, i, f, a, cell, h1, h2, h3, h4, h5, h6, h7, h8, h9, h10⟩ := h
  exact ⟨c, k, i, f, a, cell, h1, h2, h3, h4, h5, h6, h7, h8, h9, fun z => h10 (hAB _ z)⟩
theorem vx_L.word {C n d : String} {A : Nat → Prop} {s : State} {args : Array Value} (h : vx_L C n d A s s.heap) : (Cond.laysStatic C n d).before args s = true := by
  obtain ⟨c, k, i, f, a, cell, h1, h2, h3, h4, h5, h6, h7, h8, h9, -⟩ := h
  show (Cond.laysStatic C n d).holds args s none s [] = true
  exact Cond.laysStatic_of h1 h2 h3 h4 h5 h6 h7 h8 h9
/-- .. and what it holds: null or some reference -/
def vx_Zq (C n d : String) (A : Nat → Prop) (U : State) (H : Heap) : Prop := va_Zq C n d A U H ∧ vx_L C n d A U H
theorem vx_Zq.moved {C n d : String} {A : Nat → Prop} {u U : State} {H : Heap} (hvm : u.vm.Alike U.vm) (h : vx_Zq C n d A u H) : vx_Zq C n d A U H := ⟨va_Zq.moved hvm h.1, vx_L.moved hvm h.2⟩
theorem vx_Zq.kept {C n d : String} {A : Nat → Prop} {U : State} {H H1 : Heap} (h : vx_Zq C n d A U H) (hq : ∀ a : Nat, a < H.size → ¬ A a → H1[a]? = H[a]?) : vx_Zq C n d A U H1 := ⟨va_Zq.kept h.1 hq, vx_L.kept h.2 hq⟩
theorem vx_Zq.narrow {C n d : String} {A B : Nat → Prop} {U : State} {H : Heap} (h : vx_Zq C n d A U H) (hAB : ∀ q, B q → A q) : vx_Zq C n d B U H := ⟨va_Zq.narrow h.1 hAB, vx_L.narrow h.2 hAB⟩
theorem vx_Zqof {args : Array Value} {s : State} {C n d : String} {A : Nat → Prop} (hl : (Cond.laysStatic C n d).before args s = true) (hini : (Cond.initialized C).before args s = true) (h : (Cond.isRef (.static C n d)).before args s = true) (hA : ∀ a : Nat, a < s.heap.size → ¬ A a) : vx_Zq C n d A s s.heap := by
  refine ⟨va_Zqof hl hini h hA, ?_⟩
  obtain ⟨c, k, i, f, a, cell, h1, h2, h3, h4, h5, h6, h7, h8, h9⟩ := Cond.laysStatic_spec hl
  exact ⟨c, k, i, f, a, cell, h1, h2, h3, h4, h5, h6, h7, h8, h9, hA a (Array.getElem?_eq_some_iff.mp h5).1⟩
theorem vx_isRef {C n d : String} {v : Value} {A : Nat → Prop} {s : State} {args : Array Value} (h : va_Z C n d v A s s.heap) (hv : v.isRef = true) : (Cond.isRef (.static C n d)).before args s = true := by
  obtain ⟨cf, kf, fi, f, a, cell, h1, h2, h3, h4, h5, h6, h7, -⟩ := h
  have he : (Term.static C n d).eval args s none [] s = some v := by
    simp [Term.eval, State.fieldNamed?, h1, h2, h4, h5, h6, h7]
  simp only [Cond.before, Cond.holds, Cond.value, he]
  cases v <;> simp_all [Value.isRef]
theorem vx_isRefq {C n d : String} {A : Nat → Prop} {s : State} {args : Array Value} (h : va_Zq C n d A s s.heap) : (Cond.isRef (.static C n d)).before args s = true := by
  rcases h with h | ⟨t, h⟩
  · exact vx_isRef h rfl
  · exact vx_isRef h rfl
/-- the same frame, seen from here: as if the method were called anew in this heap -/
theorem vx_rebase {T : State} (X : Stand p l e R s m args below meth c T locs cells slots) {R' : Room} (hf : R'.frames ≤ R.frames) (hl : R'.locals ≤ R.locals) (hc : cells + R'.cells ≤ R.cells) (hs : slots + R'.slots ≤ R.slots) :
    Stand p l e R' ((T.setVm s.vm).setFrames (.invoking m args :: below)) m args below meth c T [] 0 0 := by
  have htop : (T.setVm s.vm).topJava?.isSome := X.here.top
  have hF : ((T.setVm s.vm).setFrames (.invoking m args :: below)).frames = .invoking m args :: below := State.frames_setFrames _ (State.cur_lt_of_top htop)
  obtain ⟨g₀, hg0⟩ := Option.isSome_iff_exists.mp htop
  obtain ⟨r, hr⟩ := State.topJava?_eq_some.mp hg0
  have hl9 : e.platform.stackLimits (T.setVm s.vm).me = e.platform.stackLimits s.me := X.limits
  have hb9 : (T.setVm s.vm).me.stackBytes = s.me.stackBytes := X.bytes
  refine ⟨X.admits, X.cas, X.clock, hF, ?_, X.hears, X.method, X.code, X.here, X.tail, X.warmed, ?_, ?_, ?_⟩
  · have h := X.room
    have hU : ((T.setVm s.vm).setFrames (.invoking m args :: below)).localsInUse = s.localsInUse := by
      rw [State.localsInUse_invoking hF (meth := meth) (c := c) X.method X.code, State.localsInUse_invoking X.frames X.method X.code]
    simp only [State.hasRoom, Bool.and_eq_true, decide_eq_true_eq] at h ⊢
    obtain ⟨⟨⟨⟨h1, h2, h3, h4, h5, h6⟩, h7⟩, h8⟩, h9⟩ := h
    rw [X.frames, List.length_cons] at h2 h3
    have q1 := X.heapSize
    have q2 := X.used
    simp only [hF, hU, List.length_cons, State.stackLimits_setFrames, State.stackBytes_setFrames, hl9, hb9]
    refine ⟨⟨⟨⟨by omega, by omega, by omega, by omega, by omega, h6⟩, ?_⟩, ?_⟩, X.book⟩
    · show T.heap.size + R'.cells ≤ e.platform.maxCells
      omega
    · show T.slotsUsed + R'.slots ≤ e.platform.maxSlots
      omega
  · rw [State.stackLimits_setFrames]; rfl
  · rw [State.stackBytes_setFrames]; rfl
  · refine ⟨?_, Nat.le_refl _, Nat.le_refl _, ?_, ?_, fun a c9 h9 => ⟨c9, h9, rfl, rfl, fun _ _ => rfl⟩⟩
    · obtain ⟨t, ht, -⟩ := State.frames_cons hr
      show T.setVm s.vm = { ((T.setVm s.vm).setFrames (.invoking m args :: below)).setFrames (T.setVm s.vm).frames with heap := T.heap, slotsUsed := T.slotsUsed }
      rw [State.setFrames_setFrames, State.setFrames_self ht]
      rfl
    · show T.slotsUsed = T.slotsUsed + ((T.heap.toList.drop T.heap.size).map (·.slots.size)).sum
      rw [List.drop_eq_nil_of_le (Nat.le_of_eq Array.length_toList)]
      rfl
    · show ((T.heap.toList.drop T.heap.size).map (·.slots.size)).sum ≤ 0
      rw [List.drop_eq_nil_of_le (Nat.le_of_eq Array.length_toList)]
      exact Nat.le_refl _
/-- 'throw new E()': new; dup; invokespecial; athrow -/
theorem vx_throw0 {cc : ByteArray} {pc : Nat} (hexec : p.tables.exec = Jvm.exec) (hb : c.code = cc) (hl : l.stackTraces = false) {own cls : String} {names : List String} {ik ic mc ms : Nat} {A : Nat → Prop}
    (hown : s.vm.findClass own = some m.cls) (hcls : Bundle.fit cls = true) (hnames : ∀ n ∈ names, Bundle.fit n = true)
    (hk : (Cond.classLink own ik cls).before args s = true) (hini : (Cond.initialized cls).before args s = true) (hat : ∀ w ∈ vx_at0 own ic cls names, w.before args s = true)
    (hgood : ∀ w ∈ Cond.classLink own ik cls :: Cond.initialized cls :: vx_at0 own ic cls names, vx_ot w = true)
    (hU : vx_Zq Bundle.tN "UNASSIGNED_STACK" Bundle.steD A s s.heap) (hN : vx_Zq Bundle.tN "SUPPRESSED_SENTINEL" Bundle.listD A s s.heap) (hS : va_S A s.heap H locs) (hsize : ls.size = c.maxLocals)
    (d0 : decode cc pc = .ok (.new ik, 3)) (d3 : decode cc (pc + 3) = .ok (.dup, 1)) (d4 : decode cc (pc + 4) = .ok (.invokespecial ic, 3)) (d7 : decode cc (pc + 7) = .ok (.athrow, 1))
    (hout : ∀ x ∈ c.exceptionTable.toList, covers x (pc + 7) = false)
    (hRframes : names.length + 3 < R.frames) (hRlocals : (rest.map fun v => v.category).sum + (13 * (names.length + 1) + 42) ≤ R.locals) (hRcells : cells + 1 ≤ R.cells) (hRslots : slots + 6 ≤ R.slots) (hlocks : meth.locks = false)
    (hx : ∀ t : State, s.vm.Alike t.vm → H.size ≤ t.heap.size → (∀ q : Nat, q < H.size → t.heap[q]? = H[q]?) → XC cls s t)
    (hf : ∀ z ∈ locs, free z.base) (hc : cells + 1 ≤ mc) (hs : slots + 6 ≤ ms) :
    W p l e R s m args below meth c H locs cells slots (vx_MQ below Qc XC args s mc ms free) (F0 m pc ls rest) := by
  intro T hT X
  have htr : e.platform.stackTraces = false := (show e.platform.stackTraces = l.stackTraces by rw [X.admits.platform]).trans hl
  have Y := vx_rebase X (R' := { frames := R.frames, locals := R.locals, cells := 1, slots := 6 }) (Nat.le_refl _) (Nat.le_refl _) hRcells hRslots
  obtain ⟨s', hA⟩ : ∃ z, z = (T.setVm s.vm).setFrames (.invoking m args :: below) := ⟨_, rfl⟩
  rw [← hA] at Y
  have hvm : s'.vm = s.vm := by rw [hA]; rfl
  have hhp : s'.heap = H := by rw [hA]; exact hT
  have hW0 : s.WarmedH s'.vm := by rw [hvm]; exact State.WarmedH.refl s
  have hat' : ∀ w ∈ vx_at0 own ic cls names, w.before args s' = true := fun w hw => vx_ot_at hW0 hvm.symm (hgood w (List.mem_cons_of_mem _ (List.mem_cons_of_mem _ hw))) (hat w hw)
  have hk' : (Cond.classLink own ik cls).before args s' = true := vx_ot_at hW0 hvm.symm (hgood _ List.mem_cons_self) hk
  have hini' : (Cond.initialized cls).before args s' = true := vx_ot_at hW0 hvm.symm (hgood _ (List.mem_cons_of_mem _ List.mem_cons_self)) hini
  have hU' : vx_Zq Bundle.tN "UNASSIGNED_STACK" Bundle.steD A s' s'.heap := by rw [hhp]; exact vx_Zq.moved hW0.alike (hU.kept hS.2.1)
  have hN' : vx_Zq Bundle.tN "SUPPRESSED_SENTINEL" Bundle.listD A s' s'.heap := by rw [hhp]; exact vx_Zq.moved hW0.alike (hN.kept hS.2.1)
  have h : ∀ w ∈ Bundle.ownAtoms0 own ic cls names, w.before args s' = true := vx_own hat' (vx_isRefq hU'.1) (vx_isRefq hN'.1) hU'.2.word hN'.2.word
  have hown' : s'.vm.findClass own = some m.cls := by rw [hvm]; exact hown
  have hins : (Cond.instantiable cls 6).before args s' = true := h _ (by simp [Bundle.ownAtoms0])
  obtain ⟨vm₁, cX, kX, hfX, hkX, -, -, X₁, st1⟩ := Y.newCold hexec (own := own) (C := cls) (index := ik) (n := 6) hown' hk' hins hini'
    (g := F0 m pc ls rest) rfl (by rw [hb]; exact d0) (Nat.le_refl _) (Nat.le_refl _)
  generalize hT1 : (T.setVm vm₁).pushCell { cls := cX, slots := kX.instanceTypes.map defaultValue, vm := .none } = T1 at X₁ st1
  have hcat : (Value.ref T.heap.size).category = 1 := rfl
  have hcellA : T1.heap[T.heap.size]? = some (freshCell cX kX) := by rw [← hT1]; exact State.heap_pushCell_size _ _
  have d3' : decode c.code (pc + 3) = .ok (.dup, 1) := by rw [hb]; exact d3
  obtain ⟨U, hsteps, hrun, hend, hW, hsame, ce, hce, hO⟩ := X₁.ctorThrow0 hexec htr (own := own) (cls := cls) (names := names) (ic := ic) hown' hcls hnames h (fun x hx => nomatch hx) hfX hkX hcellA (by rw [hhp, hT]; exact Nat.le_refl _)
    (g := { method := m, pc := pc + 4, locals := ls, stack := .ref T.heap.size :: .ref T.heap.size :: rest, locked := none }) rfl hsize rfl rfl (rest := rest) rfl
    (by rw [hb]; exact d4) (by rw [hb]; exact d7) hout hRframes (by simp only [List.map_cons, List.sum_cons, hcat]; omega) hlocks
  obtain ⟨f1, f2⟩ := vx_frame hsame
  rw [hhp] at f1 f2
  have hWs : s.WarmedH U.vm := State.WarmedH.trans hW0 hW
  have hcl : s.vm.findClass cls = some ce.cls := by
    have h9 := hO.cls
    rw [hvm] at h9
    exact h9
  have hall : s.sameButNew ({ U with vm := s.vm } : State) locs mc ms := by
    subst hA
    obtain ⟨e1, e2⟩ := hsame
    rw [State.setFrames_setFrames] at e1
    have h2 : (T.setVm s.vm).sameButNew ({ U with vm := s.vm } : State) [] (0 + 1) (0 + 6) := ⟨e1, e2⟩
    have h3 := X.same.trans h2
    rw [List.append_nil] at h3
    exact h3.mono hc hs
  refine ⟨U, ?_, .threw T.heap.size, hrun, hend, Or.inr ⟨T.heap.size, rfl, cls, ce, locs, hx U hWs.alike f1 (fun q hq => f2 q hq (fun z hz => nomatch hz)), hce, hO.vm, hcl, hWs, hall, hf⟩⟩
  refine st1 _ ?_
  show Steps p.tables e below (T1.setTop { method := m, pc := pc + 3, locals := ls, stack := .ref T.heap.size :: rest, locked := none }) _
  jvm_step X₁.here [X₁.here.top, hexec, d3', Value.category]
  exact hsteps
/-- 'throw new E("text")': new; dup; ldc; invokespecial; athrow -/
theorem vx_throwS {cc : ByteArray} {pc : Nat} (hexec : p.tables.exec = Jvm.exec) (hb : c.code = cc) (hl : l.stackTraces = false) {own cls text : String} {names : List String} {ik is ic mc ms sa : Nat} {A : Nat → Prop}
    (hown : s.vm.findClass own = some m.cls) (hcls : Bundle.fit cls = true) (hnames : ∀ n ∈ names, Bundle.fit n = true)
    (hk : (Cond.classLink own ik cls).before args s = true) (hini : (Cond.initialized cls).before args s = true) (hstr : vk_R own is text sa s) (hat : ∀ w ∈ vx_atS own ic cls names, w.before args s = true)
    (hgood : ∀ w ∈ Cond.classLink own ik cls :: Cond.initialized cls :: vx_atS own ic cls names, vx_ot w = true)
    (hU : vx_Zq Bundle.tN "UNASSIGNED_STACK" Bundle.steD A s s.heap) (hN : vx_Zq Bundle.tN "SUPPRESSED_SENTINEL" Bundle.listD A s s.heap) (hS : va_S A s.heap H locs) (hsize : ls.size = c.maxLocals)
    (d0 : decode cc pc = .ok (.new ik, 3)) (d3 : decode cc (pc + 3) = .ok (.dup, 1)) (d4 : decode cc (pc + 4) = .ok (.ldc is, 2)) (d6 : decode cc (pc + 6) = .ok (.invokespecial ic, 3)) (d9 : decode cc (pc + 9) = .ok (.athrow, 1))
    (hout : ∀ x ∈ c.exceptionTable.toList, covers x (pc + 9) = false)
    (hRframes : names.length + 3 < R.frames) (hRlocals : (rest.map fun v => v.category).sum + (13 * (names.length + 1) + 43) ≤ R.locals) (hRcells : cells + 1 ≤ R.cells) (hRslots : slots + 6 ≤ R.slots) (hlocks : meth.locks = false)
    (hx : ∀ t : State, s.vm.Alike t.vm → H.size ≤ t.heap.size → (∀ q : Nat, q < H.size → t.heap[q]? = H[q]?) → XC cls s t)
    (hf : ∀ z ∈ locs, free z.base) (hc : cells + 1 ≤ mc) (hs : slots + 6 ≤ ms) :
    W p l e R s m args below meth c H locs cells slots (vx_MQ below Qc XC args s mc ms free) (F0 m pc ls rest) := by
  intro T hT X
  have htr : e.platform.stackTraces = false := (show e.platform.stackTraces = l.stackTraces by rw [X.admits.platform]).trans hl
  have Y := vx_rebase X (R' := { frames := R.frames, locals := R.locals, cells := 1, slots := 6 }) (Nat.le_refl _) (Nat.le_refl _) hRcells hRslots
  obtain ⟨s', hA⟩ : ∃ z, z = (T.setVm s.vm).setFrames (.invoking m args :: below) := ⟨_, rfl⟩
  rw [← hA] at Y
  have hvm : s'.vm = s.vm := by rw [hA]; rfl
  have hhp : s'.heap = H := by rw [hA]; exact hT
  have hW0 : s.WarmedH s'.vm := by rw [hvm]; exact State.WarmedH.refl s
  have hat' : ∀ w ∈ vx_atS own ic cls names, w.before args s' = true := fun w hw => vx_ot_at hW0 hvm.symm (hgood w (List.mem_cons_of_mem _ (List.mem_cons_of_mem _ hw))) (hat w hw)
  have hk' : (Cond.classLink own ik cls).before args s' = true := vx_ot_at hW0 hvm.symm (hgood _ List.mem_cons_self) hk
  have hini' : (Cond.initialized cls).before args s' = true := vx_ot_at hW0 hvm.symm (hgood _ (List.mem_cons_of_mem _ List.mem_cons_self)) hini
  have hU' : vx_Zq Bundle.tN "UNASSIGNED_STACK" Bundle.steD A s' s'.heap := by rw [hhp]; exact vx_Zq.moved hW0.alike (hU.kept hS.2.1)
  have hN' : vx_Zq Bundle.tN "SUPPRESSED_SENTINEL" Bundle.listD A s' s'.heap := by rw [hhp]; exact vx_Zq.moved hW0.alike (hN.kept hS.2.1)
  have h : ∀ w ∈ Bundle.ownAtoms own ic cls names, w.before args s' = true := vx_own hat' (vx_isRefq hU'.1) (vx_isRefq hN'.1) hU'.2.word hN'.2.word
  have hown' : s'.vm.findClass own = some m.cls := by rw [hvm]; exact hown
  have hins : (Cond.instantiable cls 6).before args s' = true := h _ (by simp [Bundle.ownAtoms])
  obtain ⟨vm₁, cX, kX, hfX, hkX, -, -, X₁, st1⟩ := Y.newCold hexec (own := own) (C := cls) (index := ik) (n := 6) hown' hk' hins hini'
    (g := F0 m pc ls rest) rfl (by rw [hb]; exact d0) (Nat.le_refl _) (Nat.le_refl _)
  generalize hT1 : (T.setVm vm₁).pushCell { cls := cX, slots := kX.instanceTypes.map defaultValue, vm := .none } = T1 at X₁ st1
  have hcat : (Value.ref T.heap.size).category = 1 := rfl
  have hcellA : T1.heap[T.heap.size]? = some (freshCell cX kX) := by rw [← hT1]; exact State.heap_pushCell_size _ _
  have d3' : decode c.code (pc + 3) = .ok (.dup, 1) := by rw [hb]; exact d3
  have d4' : decode c.code (pc + 4) = .ok (.ldc is, 2) := by rw [hb]; exact d4
  have hstr' : vk_R own is text sa s' := vk_R.warm hW0 hstr
  obtain ⟨U, hsteps, hrun, hend, hW, hsame, ce, hce, hO⟩ := X₁.ctorThrowS hexec htr (own := own) (cls := cls) (names := names) (ic := ic) hown' hcls hnames h (fun x hx => nomatch hx) hfX hkX hcellA (by rw [hhp, hT]; exact Nat.le_refl _) (msg := .ref sa) rfl
    (g := { method := m, pc := pc + 6, locals := ls, stack := .ref sa :: .ref T.heap.size :: .ref T.heap.size :: rest, locked := none }) rfl hsize rfl rfl (rest := rest) rfl
    (by rw [hb]; exact d6) (by rw [hb]; exact d9) hout hRframes (by simp only [List.map_cons, List.sum_cons, hcat]; omega) hlocks
  obtain ⟨f1, f2⟩ := vx_frame hsame
  rw [hhp] at f1 f2
  have hWs : s.WarmedH U.vm := State.WarmedH.trans hW0 hW
  have hcl : s.vm.findClass cls = some ce.cls := by
    have h9 := hO.cls
    rw [hvm] at h9
    exact h9
  have hall : s.sameButNew ({ U with vm := s.vm } : State) locs mc ms := by
    subst hA
    obtain ⟨e1, e2⟩ := hsame
    rw [State.setFrames_setFrames] at e1
    have h2 : (T.setVm s.vm).sameButNew ({ U with vm := s.vm } : State) [] (0 + 1) (0 + 6) := ⟨e1, e2⟩
    have h3 := X.same.trans h2
    rw [List.append_nil] at h3
    exact h3.mono hc hs
  refine ⟨U, ?_, .threw T.heap.size, hrun, hend, Or.inr ⟨T.heap.size, rfl, cls, ce, locs, hx U hWs.alike f1 (fun q hq => f2 q hq (fun z hz => nomatch hz)), hce, hO.vm, hcl, hWs, hall, hf⟩⟩
  refine st1 _ ?_
  show Steps p.tables e below (T1.setTop { method := m, pc := pc + 3, locals := ls, stack := .ref T.heap.size :: rest, locked := none }) _
  jvm_step X₁.here [X₁.here.top, hexec, d3', Value.category]
  exact X₁.ldcString hexec (own := own) (text := text) (index := is) (a := sa) hown' hstr'.1 hstr'.2
    (g := { method := m, pc := pc + 4, locals := ls, stack := .ref T.heap.size :: .ref T.heap.size :: rest, locked := none }) rfl d4' _ hsteps
/-- 'throw new E("text")', the text by a wide index -/
theorem vx_throwSW {cc : ByteArray} {pc : Nat} (hexec : p.tables.exec = Jvm.exec) (hb : c.code = cc) (hl : l.stackTraces = false) {own cls text : String} {names : List String} {ik is ic mc ms sa : Nat} {A : Nat → Prop}
    (hown : s.vm.findClass own = some m.cls) (hcls : Bundle.fit cls = true) (hnames : ∀ n ∈ names, Bundle.fit n = true)
    (hk : (Cond.classLink own ik cls).before args s = true) (hini : (Cond.initialized cls).before args s = true) (hstr : vk_R own is text sa s) (hat : ∀ w ∈ vx_atS own ic cls names, w.before args s = true)
    (hgood : ∀ w ∈ Cond.classLink own ik cls :: Cond.initialized cls :: vx_atS own ic cls names, vx_ot w = true)
    (hU : vx_Zq Bundle.tN "UNASSIGNED_STACK" Bundle.steD A s s.heap) (hN : vx_Zq Bundle.tN "SUPPRESSED_SENTINEL" Bundle.listD A s s.heap) (hS : va_S A s.heap H locs) (hsize : ls.size = c.maxLocals)
    (d0 : decode cc pc = .ok (.new ik, 3)) (d3 : decode cc (pc + 3) = .ok (.dup, 1)) (d4 : decode cc (pc + 4) = .ok (.ldc_w is, 3)) (d7 : decode cc (pc + 7) = .ok (.invokespecial ic, 3)) (d10 : decode cc (pc + 10) = .ok (.athrow, 1))
    (hout : ∀ x ∈ c.exceptionTable.toList, covers x (pc + 10) = false)
    (hRframes : names.length + 3 < R.frames) (hRlocals : (rest.map fun v => v.category).sum + (13 * (names.length + 1) + 43) ≤ R.locals) (hRcells : cells + 1 ≤ R.cells) (hRslots : slots + 6 ≤ R.slots) (hlocks : meth.locks = false)
    (hx : ∀ t : State, s.vm.Alike t.vm → H.size ≤ t.heap.size → (∀ q : Nat, q < H.size → t.heap[q]? = H[q]?) → XC cls s t)
    (hf : ∀ z ∈ locs, free z.base) (hc : cells + 1 ≤ mc) (hs : slots + 6 ≤ ms) :
    W p l e R s m args below meth c H locs cells slots (vx_MQ below Qc XC args s mc ms free) (F0 m pc ls rest) := by
  intro T hT X
  have htr : e.platform.stackTraces = false := (show e.platform.stackTraces = l.stackTraces by rw [X.admits.platform]).trans hl
  have Y := vx_rebase X (R' := { frames := R.frames, locals := R.locals, cells := 1, slots := 6 }) (Nat.le_refl _) (Nat.le_refl _) hRcells hRslots
  obtain ⟨s', hA⟩ : ∃ z, z = (T.setVm s.vm).setFrames (.invoking m args :: below) := ⟨_, rfl⟩
  rw [← hA] at Y
  have hvm : s'.vm = s.vm := by rw [hA]; rfl
  have hhp : s'.heap = H := by rw [hA]; exact hT
  have hW0 : s.WarmedH s'.vm := by rw [hvm]; exact State.WarmedH.refl s
  have hat' : ∀ w ∈ vx_atS own ic cls names, w.before args s' = true := fun w hw => vx_ot_at hW0 hvm.symm (hgood w (List.mem_cons_of_mem _ (List.mem_cons_of_mem _ hw))) (hat w hw)
  have hk' : (Cond.classLink own ik cls).before args s' = true := vx_ot_at hW0 hvm.symm (hgood _ List.mem_cons_self) hk
  have hini' : (Cond.initialized cls).before args s' = true := vx_ot_at hW0 hvm.symm (hgood _ (List.mem_cons_of_mem _ List.mem_cons_self)) hini
  have hU' : vx_Zq Bundle.tN "UNASSIGNED_STACK" Bundle.steD A s' s'.heap := by rw [hhp]; exact vx_Zq.moved hW0.alike (hU.kept hS.2.1)
  have hN' : vx_Zq Bundle.tN "SUPPRESSED_SENTINEL" Bundle.listD A s' s'.heap := by rw [hhp]; exact vx_Zq.moved hW0.alike (hN.kept hS.2.1)
  have h : ∀ w ∈ Bundle.ownAtoms own ic cls names, w.before args s' = true := vx_own hat' (vx_isRefq hU'.1) (vx_isRefq hN'.1) hU'.2.word hN'.2.word
  have hown' : s'.vm.findClass own = some m.cls := by rw [hvm]; exact hown
  have hins : (Cond.instantiable cls 6).before args s' = true := h _ (by simp [Bundle.ownAtoms])
  obtain ⟨vm₁, cX, kX, hfX, hkX, -, -, X₁, st1⟩ := Y.newCold hexec (own := own) (C := cls) (index := ik) (n := 6) hown' hk' hins hini'
    (g := F0 m pc ls rest) rfl (by rw [hb]; exact d0) (Nat.le_refl _) (Nat.le_refl _)
  generalize hT1 : (T.setVm vm₁).pushCell { cls := cX, slots := kX.instanceTypes.map defaultValue, vm := .none } = T1 at X₁ st1
  have hcat : (Value.ref T.heap.size).category = 1 := rfl
  have hcellA : T1.heap[T.heap.size]? = some (freshCell cX kX) := by rw [← hT1]; exact State.heap_pushCell_size _ _
  have d3' : decode c.code (pc + 3) = .ok (.dup, 1) := by rw [hb]; exact d3
  have d4' : decode c.code (pc + 4) = .ok (.ldc_w is, 3) := by rw [hb]; exact d4
  have hstr' : vk_R own is text sa s' := vk_R.warm hW0 hstr
  obtain ⟨U, hsteps, hrun, hend, hW, hsame, ce, hce, hO⟩ := X₁.ctorThrowS hexec htr (own := own) (cls := cls) (names := names) (ic := ic) hown' hcls hnames h (fun x hx => nomatch hx) hfX hkX hcellA (by rw [hhp, hT]; exact Nat.le_refl _) (msg := .ref sa) rfl
    (g := { method := m, pc := pc + 7, locals := ls, stack := .ref sa :: .ref T.heap.size :: .ref T.heap.size :: rest, locked := none }) rfl hsize rfl rfl (rest := rest) rfl
    (by rw [hb]; exact d7) (by rw [hb]; exact d10) hout hRframes (by simp only [List.map_cons, List.sum_cons, hcat]; omega) hlocks
  obtain ⟨f1, f2⟩ := vx_frame hsame
  rw [hhp] at f1 f2
  have hWs : s.WarmedH U.vm := State.WarmedH.trans hW0 hW
  have hcl : s.vm.findClass cls = some ce.cls := by
    have h9 := hO.cls
    rw [hvm] at h9
    exact h9
  have hall : s.sameButNew ({ U with vm := s.vm } : State) locs mc ms := by
    subst hA
    obtain ⟨e1, e2⟩ := hsame
    rw [State.setFrames_setFrames] at e1
    have h2 : (T.setVm s.vm).sameButNew ({ U with vm := s.vm } : State) [] (0 + 1) (0 + 6) := ⟨e1, e2⟩
    have h3 := X.same.trans h2
    rw [List.append_nil] at h3
    exact h3.mono hc hs
  refine ⟨U, ?_, .threw T.heap.size, hrun, hend, Or.inr ⟨T.heap.size, rfl, cls, ce, locs, hx U hWs.alike f1 (fun q hq => f2 q hq (fun z hz => nomatch hz)), hce, hO.vm, hcl, hWs, hall, hf⟩⟩
  refine st1 _ ?_
  show Steps p.tables e below (T1.setTop { method := m, pc := pc + 3, locals := ls, stack := .ref T.heap.size :: rest, locked := none }) _
  jvm_step X₁.here [X₁.here.top, hexec, d3', Value.category]
  exact X₁.ldcStringW hexec (own := own) (text := text) (index := is) (a := sa) hown' hstr'.1 hstr'.2
    (g := { method := m, pc := pc + 4, locals := ls, stack := .ref T.heap.size :: .ref T.heap.size :: rest, locked := none }) rfl d4' _ hsteps
end Ends
section Bodies
variable {l : Launch}
theorem vx_ofW {y : MethodName} {ws ws' : List Cond} {rm : Room} {Pc : Array Value → State → Prop} {Qc : Array Value → State → Outcome → State → Prop} {XC : String → State → State → Prop} {mc ms : Nat} {free : Addr → Prop} {cc : ByteArray} {maxL : Nat} {ret : Option FieldType}
    (hy : plainName y.cls = true) (hw : ws = Cond.code y cc maxL ret :: ws')
    (body : ∀ p e s m args below meth c s₁, BodyLoose p l y (headSpec ws rm) cc maxL ret e s m args below meth c s₁ → c.maxLocals = maxL → (∀ x ∈ c.exceptionTable.toList, False) → Pc args s →
      W p l e (headSpec ws rm).room s m args below meth c s.heap [] 0 0 (vx_MQ below Qc XC args s mc ms free) (entryFrame m args maxL)) : vx_Met l y ws rm Pc Qc XC mc ms free := by
  refine MetFree.of_bodyS (code := cc) (maxLocals := maxL) (ret := ret) hy ?_ ?_
  · intro args s m h hn
    obtain ⟨meth, c, h1, h2, h3, h4, h5, h6, -, -⟩ := Cond.code_spec hn (atoms_spec (ws := ws) h _ (by rw [hw]; exact List.mem_cons_self))
    exact ⟨meth, c, h1, h2, h3, h4, h5, h6⟩
  · intro p e s m args below meth c s₁ B hml hP _
    have hh0 : s₁.heap = s.heap := by rw [B.state]; rfl
    have ht : ∀ x ∈ c.exceptionTable.toList, False := by
      obtain ⟨meth9, c9, h1, h2, -, -, -, -, h7, -⟩ := Cond.code_spec B.named (atoms_spec (ws := ws) B.pre _ (by rw [hw]; exact List.mem_cons_self))
      cases Option.some.inj (h1.symm.trans B.method)
      cases Option.some.inj (h2.symm.trans (Stand.of_body B).code)
      intro x hx
      rw [Array.isEmpty_iff.mp h7] at hx
      cases hx
    obtain ⟨t, a1, o, b1, b2, b3⟩ := body p e s m args below meth c s₁ B hml ht hP s₁ hh0 (Stand.of_body B)
    exact ⟨t, o, a1, b1, b2, b3⟩
/-- the table of a body with handlers -/
theorem vx_table {p : Program} {x y : MethodName} {S : Spec} {cc bytes : ByteArray} {maxL maxL' : Nat} {ret ret' : Option FieldType} {e : Env} {s s₁ : State} {m : MethodId} {args : Array Value} {below : List Frame} {meth : Method} {c : Code} {hh : List (Nat × Nat × Nat × Nat)}
    (B : BodyLoose p l y S cc maxL ret e s m args below meth c s₁) (h : (Cond.codeWith y bytes maxL' ret' hh).before args s = true) : c.exceptionTable.toList = tableOf hh := by
  obtain ⟨m9, meth9, c9, hn9, h1, h2, -, -, h6, -⟩ := Cond.codeWith_spec h
  cases Option.some.inj (hn9.symm.trans B.named)
  cases Option.some.inj (h1.symm.trans B.method)
  cases Option.some.inj (h2.symm.trans (Stand.of_body B).code)
  rw [← h6, table_eq]
end Bodies
end VXA
/-! ===== END ===== -/
/-! ===== BEGIN a static call of a method with an exception table ===== -/
section VXS
variable {p : Program} {l : Launch} {e : Env} {R : Room} {s : State} {m : MethodId} {args : Array Value} {below : List Frame} {meth : Method} {c : Code} {T : State} {H : Heap} {locs : List Loc} {cells slots : Nat}
abbrev vx_CSW (R : Room) (s : State) (args : Array Value) (own : String) (index : Nat) (y : MethodName) (bytes : ByteArray) (maxL : Nat) (ret : Option FieldType) (hh : List (Nat × Nat × Nat × Nat)) (ws : List Cond) (rm : Room) (mc ms n : Nat) : Prop :=
  (rm.cells = mc ∧ rm.slots = ms ∧ rm.frames + 1 ≤ R.frames ∧ 8 + (maxL + 11) + rm.locals ≤ R.locals ∧ (∀ w ∈ ws, ∀ (a' : Array Value) (U : State), s.WarmedH U.vm → w.before a' U = true) ∧ Cond.codeWith y bytes maxL ret hh ∈ ws) ∧
  (Cond.codeWith y bytes maxL ret hh).before args s = true ∧ (Cond.initialized y.cls).before args s = true ∧ (y.cls ≠ "java/lang/invoke/MethodHandle" ∧ y.cls ≠ "java/lang/invoke/VarHandle") ∧
  (∀ sig, parseMethodDescriptor y.desc = some sig → n = sig.parameters.length) ∧ (Cond.methodLink own index y).before args s = true ∧ (Cond.static y).before args s = true
theorem vx_cwSW {own : String} {index maxL mc ms : Nat} {y : MethodName} {bytes : ByteArray} {ret : Option FieldType} {hh : List (Nat × Nat × Nat × Nat)} {Ts ws ws' : List Cond} {rm : Room} (n : Nat) (ht : ∀ w ∈ Ts, w.before args s = true) (hT : GoodIn Ts (va_wsS own index y ws)) (hw : ws = Cond.codeWith y bytes maxL ret hh :: ws') (hrc : rm.cells = mc) (hrs : rm.slots = ms)
    (hd : y.cls ≠ "java/lang/invoke/MethodHandle" ∧ y.cls ≠ "java/lang/invoke/VarHandle" ∧ (parseMethodDescriptor y.desc).map (fun d => d.parameters.length) = some n) (hR : rm.frames + 1 ≤ R.frames ∧ 8 + (maxL + 11) + rm.locals ≤ R.locals) :
    vx_CSW R s args own index y bytes maxL ret hh ws rm mc ms n := by
  have ok : ∀ w ∈ va_wsS own index y ws, w.before args s = true := fun w h => ht w (hT w h).1
  have hG : GoodIn Ts ws := fun w h => hT w (by unfold va_wsS; exact List.mem_append_right _ h)
  have hc : Cond.codeWith y bytes maxL ret hh ∈ ws := by rw [hw]; exact List.mem_cons_self
  refine ⟨⟨hrc, hrs, hR.1, hR.2, pay_in ht hG, hc⟩, ht _ (hG _ hc).1, ok _ (by simp [va_wsS]), ⟨hd.1, hd.2.1⟩, fun sig h => ?_, ok _ (by simp [va_wsS]), ok _ (by simp [va_wsS])⟩
  have h2 := hd.2.2
  rw [h] at h2
  exact (Option.some.inj h2).symm
theorem vx_callSW (X : Stand p l e R s m args below meth c T locs cells slots) (hexec : p.tables.exec = Jvm.exec) {own : String} {index : Nat} {y : MethodName} {bytes : ByteArray} {maxL : Nat} {ret : Option FieldType} {hh : List (Nat × Nat × Nat × Nat)}
    (hown : s.vm.findClass own = some m.cls) (hlink : (Cond.methodLink own index y).before args s = true) (hstat : (Cond.static y).before args s = true) (hinit : (Cond.initialized y.cls).before args s = true)
    (hcode : (Cond.codeWith y bytes maxL ret hh).before args s = true) (hy : y.cls ≠ "java/lang/invoke/MethodHandle" ∧ y.cls ≠ "java/lang/invoke/VarHandle")
    {W9 : Nat} {Pre : Pt → Array Value → Prop} {Post : Pt → Array Value → Option Value → Pt → Prop} (hK : Back l R p e below s args y 3 W9 Pre Post)
    {g : JFrame} (hg : g.method = m) (hsize : g.locals.size = c.maxLocals) {argsL rest : List Value} (hlen : ∀ sig, parseMethodDescriptor y.desc = some sig → argsL.length = sig.parameters.length)
    (hstack : g.stack = argsL.reverse ++ rest) (hW : 2 * g.monitorRoom + (rest.map fun v => v.category).sum ≤ W9) (hdg : decode c.code g.pc = .ok (.invokestatic index, 3))
    (hpre : ∀ vm₁, s.WarmedH vm₁ → Pre ⟨T.setVm vm₁, locs, cells, slots⟩ argsL.toArray) :
    ∃ (v : Option Value) (vm₁ : Vm) (B : Pt), s.WarmedH vm₁ ∧ Stand p l e R s m args below meth c B.U B.locs B.cells B.slots ∧ Post ⟨T.setVm vm₁, locs, cells, slots⟩ argsL.toArray v B ∧
      ∀ target, Steps p.tables e below (B.U.setTop { g with pc := g.pc + 3, stack := v.toList ++ rest }) target → Steps p.tables e below (T.setTop g) target := by
  obtain ⟨mk, methM, cM, hnamed, hmethM, -, -, -, -, -, -, hsigM⟩ := Cond.codeWith_spec hcode
  have hstatic : methM.isStatic = true := Cond.static_spec hnamed hmethM hstat
  obtain ⟨kP, hkP, -⟩ := className_of_methodNamed hnamed
  have hinitP : kP.init = .initialized := Cond.initialized_spec (findClass_of_methodNamed hnamed) hkP hinit
  obtain ⟨vm₁, X₁, hstep₁⟩ := X.invokestatic hexec hown hlink hnamed hmethM hstatic hkP hinitP hy (g := g) hg (argsL := argsL) (rest := rest) (hlen _ hsigM) hstack hdg
  obtain ⟨v, B, X', hpost, hsteps⟩ := hK m meth c ⟨T.setVm vm₁, locs, cells, slots⟩ { g with stack := rest } (.invokestatic index) mk argsL.toArray X₁ hg hsize hdg hW (X₁.named hnamed) (hpre vm₁ X₁.warmed)
  exact ⟨v, vm₁, B, X₁.warmed, X', hpost, fun target h => hstep₁ _ fun acts => by rw [doInvoke_state]; exact hsteps.trans h⟩
theorem vx_runSW {y : MethodName} {bytes cc : ByteArray} {maxL nL mc ms n index : Nat} {ret : Option FieldType} {hh : List (Nat × Nat × Nat × Nat)} {ws : List Cond} {rm : Room} {Pc : Array Value → State → Prop} {Qc : Array Value → State → Outcome → State → Prop} {free : Addr → Prop} {Ts : List Cond} {own : String} {As rest : List Value} {g : JFrame}
    (S : CallFix p m c cc nL s args Ts own) (hM : Met l y ws rm Pc Qc mc ms free) (cw : vx_CSW R s args own index y bytes maxL ret hh ws rm mc ms n) (hp : PreS s H Pc As)
    (hg : g.method = m) (hn : As.length = n) (hsize : g.locals.size = nL) (hstack : g.stack = As.reverse ++ rest) (hW : 2 * g.monitorRoom + (rest.map fun v => v.category).sum ≤ 8) (hdg : decode cc g.pc = .ok (.invokestatic index, 3)) (hf : cells + mc ≤ R.cells ∧ slots + ms ≤ R.slots) :
    va_Run p l e R s m args below meth c H locs cells slots mc ms g rest (Qc As.toArray) (free) := by
  obtain ⟨⟨hrc, hrs, hfr, hlo, hws, hcw⟩, hcode, hini, hy, hlen, hl, hstt⟩ := cw
  have hK : Back l R p e below s args y 3 8 (PreOf R mc ms Pc) (PostOf Qc mc ms free) := va_backW (hh := hh) (bytes := bytes) (maxL := maxL) (ret := ret) hM hp.1 hrc hrs hfr hlo hws hcw (fun a' U hW => word_at hW (Or.inl (by first | rfl | simp [Cond.onTables, Cond.keeps, Cond.steady])) hini)
  obtain ⟨hx, hb, hml, ho, -⟩ := S
  intro T hT X
  obtain ⟨v, vm₁, ⟨U', l2, c2, s2⟩, hW₁, X', ⟨g', mk, t, L, e1, e2, hq, h1, hL, h2, h3⟩, st⟩ := vx_callSW X hx (hh := hh) (bytes := bytes) (maxL := maxL) (ret := ret) ho hl hstt hini hcode hy hK hg (hsize.trans hml.symm) (argsL := As) (rest := rest) (fun sig h => hn.trans (hlen sig h)) hstack hW (by rw [hb]; exact hdg)
    (fun vm₁ hW₁ => ⟨hf.1, hf.2, hp.2 (T.setVm vm₁) hT hW₁⟩)
  dsimp only [Pt.U, Pt.locs, Pt.cells, Pt.slots] at X' e1 e2 h1 h2 h3 st
  subst h1; subst h2; subst h3
  exact ⟨v, (T.setVm vm₁).calling g' mk As.toArray, t, U', L, hT, X', hL, e1, e2, hq, st⟩
/-- not caught here, past rows that name other classes: it goes on to the caller -/
theorem vx_outP {p : Program} {l : Launch} {e : Env} {R : Room} {s : State} {m : MethodId} {args : Array Value} {below : List Frame} {meth : Method} {c : Code} {H : Heap} {locs : List Loc} {cells slots : Nat} {free : Addr → Prop} {ls : Array Slot} {rest : List Value} {Qc : Array Value → State → Outcome → State → Prop} {XC : String → State → State → Prop}
    {pc : Nat} {own E : String} {ce : Cell} {q : Addr} {mc ms : Nat} (hown : s.vm.findClass own = some m.cls) (hlocks : meth.locks = false)
    (hpass : ∀ z ∈ c.exceptionTable.toList, covers z pc = false ∨ (z.catchType ≠ 0 ∧ ∃ nm : String, (Cond.classLink own z.catchType nm).before args s = true ∧ va_Nc E nm s)) (hcell : H[q]? = some ce) (hv : ce.vm = .none) (hcl : s.vm.findClass E = some ce.cls)
    (hx : ∀ t : State, t.heap = H → s.vm.Alike t.vm → XC E s t) (hf : ∀ z ∈ locs, free z.base) (hc : cells ≤ mc) (hs : slots ≤ ms) :
    vx_W p l e R s m args below meth c H locs cells slots (vx_MQ below Qc XC args s mc ms free) (F0 m pc ls rest) q := by
  intro T hT X
  have hpl : e.platform.magicAccessors = ({} : Platform).magicAccessors := by rw [X.admits.platform]
  obtain ⟨vm', hW', X', st⟩ := X.outThrough hlocks q (g := F0 m pc ls rest) rfl rfl rfl (cell := ce) (by rw [hT]; exact hcell) (by rw [hv]; rfl)
    (by obtain ⟨k9, h9, -⟩ := Vm.findClass_spec hcl; exact ⟨k9, h9⟩) (fun z hz => by
      rcases hpass z hz with h | ⟨hz0, nm, hl1, hn1⟩
      · exact Or.inl h
      · obtain ⟨c6, hc6, hcl6⟩ := Cond.classLink_spec hown hl1 e.platform hpl
        obtain ⟨a8, b8, h1, h2, h3⟩ := hn1
        cases Option.some.inj (h1.symm.trans hcl)
        cases Option.some.inj (h2.symm.trans hc6)
        exact Or.inr ⟨hz0, _, hcl6, h3⟩)
  obtain ⟨g₀, hfr⟩ := X'.frames_eq
  have hcell9 : ((T.setVm vm').setFrames (.throwing q :: below)).heap[q]? = some ce := by
    show T.heap[q]? = some ce
    rw [hT]; exact hcell
  have hend : Ended ((T.setVm vm').setFrames (.throwing q :: below)) below (.threw q) := State.frames_setFrames _ (State.cur_lt_of_frames hfr)
  refine ⟨(T.setVm vm').setFrames (.throwing q :: below), ?_, .threw q, X'.here.running, hend, Or.inr ⟨q, rfl, E, ce, locs, hx _ hT (X'.ends _).1.alike, hcell9, hv, hcl, (X'.ends _).1, (X'.ends _).2.mono hc hs, hf⟩⟩
  rw [X.pushThrowing_eq]
  exact st
/-- a thing of a world lies in the heap -/
theorem vx_lt {D : va_G} {cl : List vw_C} {ws : va_W} {H1 : Heap} (h : va_P D cl ws H1) {k : Nat} {q : Nat × va_E} (hk : ws[k]? = some q) : q.1 < H1.size := (h k q hk).lt
end VXS
/-! ===== END ===== -/
/-! ===== BEGIN methods with a table of their own: called by a name, returning or throwing ===== -/
section VXH
/-! vx_backW, vx_callVX, vx_callSX, vx_callVW, vx_runVW, vx_runVX, vx_runSX, vx_ofWH follow the same proofs as their sisters above (Free/Laws.lean, Shelf42/LK1.lean); vx_outP calls Shelf42/NT130.lean (outThrough). -/
section
variable {l : Launch} {R : Room} {p : Program} {e : Env} {below : List Frame} {s : State} {sargs : Array Value} {y : MethodName} {len W9 : Nat}
theorem vx_backW {ws : List Cond} {rm : Room} {Pc : Array Value → State → Prop} {Qc : Array Value → State → Outcome → State → Prop} {XC : String → State → State → Prop} {mc ms : Nat} {free : Addr → Prop} {bytes : ByteArray} {maxL : Nat} {ret : Option FieldType} {hh : List (Nat × Nat × Nat × Nat)}
    (hM : vx_Met l y ws rm Pc Qc XC mc ms free) (hblind : FrameBlind Pc) (hrc : rm.cells = mc) (hrs : rm.slots = ms)
    (hframes : rm.frames + 1 ≤ R.frames) (hlocals : W9 + (maxL + 11) + rm.locals ≤ R.locals)
    (hws : ∀ w ∈ ws, ∀ a' U, s.WarmedH U.vm → w.before a' U = true) (hcode : Cond.codeWith y bytes maxL ret hh ∈ ws) (hinit : ∀ a' U, s.WarmedH U.vm → (Cond.initialized y.cls).before a' U = true) :
    vx_Back l R p e below s sargs y len W9 (PreOf R mc ms Pc) (PostOf Qc mc ms free) (vx_Post XC mc ms free) := by
  intro m meth c A g ig mk a X hg hsize hdg hW hn hp
  have h1 : (headSpec ws rm).pre.before a A.U = true := atoms_intro fun w hw => hws w hw _ _ X.warmed
  have h2 : (Cond.codeWith y bytes maxL ret hh).before a A.U = true := hws _ hcode _ _ X.warmed
  have h3 : (Cond.initialized y.cls).before a A.U = true := hinit _ _ X.warmed
  have h4 : A.cells + (headSpec ws rm).room.cells ≤ R.cells := by rw [show (headSpec ws rm).room.cells = mc from hrc]; exact hp.1
  have h5 : A.slots + (headSpec ws rm).room.slots ≤ R.slots := by rw [show (headSpec ws rm).room.slots = ms from hrs]; exact hp.2.1
  have hPc : Pc a (A.U.calling g mk a) := hblind _ _ _ _ hp.2.2
  obtain ⟨U, Ls, c0, s0⟩ := A
  dsimp only [Pt.U, Pt.locs, Pt.cells, Pt.slots] at h1 h2 h3 h4 h5 X hn hPc ⊢
  obtain ⟨m9, methY, cY, hn9, hmY, hcY, -, hlY, -⟩ := Cond.codeWith_spec h2
  cases Option.some.inj (hn9.symm.trans hn)
  obtain ⟨kY, hkY, -⟩ := className_of_methodNamed hn
  have hinitY : kY.init = .initialized := Cond.initialized_spec (findClass_of_methodNamed hn) hkY h3
  have h : At U g.method c below := by rw [hg]; exact X.here
  have hlocals9 : W9 + (maxL + 11) + (headSpec ws rm).room.locals ≤ R.locals := hlocals
  have happ : (headSpec ws rm).appliesLoose y e.platform (U.calling g mk a) = true :=
    Spec.appliesLoose_calling (g := g) h hdg hn hkY hinitY
      (X.room_calling (g := g) (R' := (headSpec ws rm).room) hsize hmY hcY hframes (by rw [hlY]; omega) h4 h5) h1
  obtain ⟨mid, hmid⟩ := h.above
  have hfr : (U.setTop g).frames = (.java g :: mid) ++ below := by rw [State.frames_setTop' g h.top, hmid]; rfl
  obtain ⟨o, s₂, hsteps, -, hend, hq⟩ := Steps.callFree hM p X.admits X.cas X.clock (acts := []) hfr happ hPc trivial
  have hq' : vx_Q Qc XC mc ms free a (U.calling g mk a) o s₂ := hq
  rw [State.frames_setTop' g h.top] at hend
  obtain ⟨g₀, hg0⟩ := Option.isSome_iff_exists.mp h.top
  obtain ⟨r, hr⟩ := State.topJava?_eq_some.mp hg0
  have hr' : (({ U with heap := s₂.heap, slotsUsed := s₂.slotsUsed } : State).setVm s₂.vm).frames = .java g₀ :: r := hr
  rcases hq' with ⟨hqc, L, hfe, hL⟩ | ⟨q, rfl, E, ce, L, hx, hce, hcv, hcl, hW₂, hsm, hL⟩
  · obtain ⟨⟨v, rfl⟩, hW₂, e2, q2, q3, q4, q5, q6⟩ := id hfe
    have e3 : s₂ = ({ (U.calling g mk a).setFrames s₂.frames with heap := s₂.heap, slotsUsed := s₂.slotsUsed } : State).setVm s₂.vm := by
      have : s₂ = ({ s₂ with vm := (U.calling g mk a).vm } : State).setVm s₂.vm := rfl
      rw [e2] at this
      exact this
    obtain ⟨c₂, i₂, len₂, hc₂, hd₂, hf₂⟩ := hend
    have hW' : U.WarmedH s₂.vm := hW₂
    have hcc : c₂ = c := by
      have h1 : s₂.code? g.method = U.code? g.method := by
        rw [State.code?_eq, State.code?_eq, hW'.alike.method?]
      exact Option.some.inj (hc₂.symm.trans (h1.trans h.code))
    subst hcc
    have hlen : len₂ = len := by rw [hdg] at hd₂; cases hd₂; rfl
    subst hlen
    have hs₂ : s₂ = (({ U with heap := s₂.heap, slotsUsed := s₂.slotsUsed } : State).setVm s₂.vm).setTop { g with pc := g.pc + len₂, stack := v.toList ++ g.stack } := by
      refine e3.trans ?_
      rw [hf₂, State.calling_eq h.top, State.setFrames_setFrames, State.setTop_of_frames _ hr', hr]
      rfl
    have hsame : U.sameButNew ({ U with heap := s₂.heap, slotsUsed := s₂.slotsUsed } : State) L mc ms := by
      refine ⟨?_, q2, q3, q4, q5, q6⟩
      obtain ⟨t, ht, -⟩ := State.frames_cons hr
      show ({ U with heap := s₂.heap, slotsUsed := s₂.slotsUsed } : State) = { U.setFrames U.frames with heap := s₂.heap, slotsUsed := s₂.slotsUsed }
      rw [State.setFrames_self ht]
    subst hg
    refine Or.inl ⟨v, ⟨(({ U with heap := s₂.heap, slotsUsed := s₂.slotsUsed } : State).setVm s₂.vm), Ls ++ L, c0 + mc, s0 + ms⟩,
      ⟨X.admits, X.cas, X.clock, X.frames, X.room, X.hears, X.method, X.code, (X.here.setHeapUsed s₂.heap s₂.slotsUsed).setVm hW'.alike, X.tail, State.WarmedH.trans X.warmed hW', X.limits, X.bytes, X.same.trans (hsame.setVm s.vm)⟩,
      ⟨g, mk, s₂, L, rfl, rfl, hqc, rfl, hL, rfl, rfl⟩, ?_⟩
    show Steps p.tables e below _ ((({ U with heap := s₂.heap, slotsUsed := s₂.slotsUsed } : State).setVm s₂.vm).setTop { g with pc := g.pc + len₂, stack := v.toList ++ g.stack })
    rw [← hs₂]
    exact hsteps
  · obtain ⟨e2, q2, q3, q4, q5, q6⟩ := id hsm
    have e3 : s₂ = ({ (U.calling g mk a).setFrames s₂.frames with heap := s₂.heap, slotsUsed := s₂.slotsUsed } : State).setVm s₂.vm := by
      have : s₂ = ({ s₂ with vm := (U.calling g mk a).vm } : State).setVm s₂.vm := rfl
      rw [e2] at this
      exact this
    have hf₂ : s₂.frames = .throwing q :: .java g :: U.frames.tail := hend
    have hW' : U.WarmedH s₂.vm := hW₂
    have hs₂ : s₂ = ((({ U with heap := s₂.heap, slotsUsed := s₂.slotsUsed } : State).setVm s₂.vm).setTop g).pushFrame (.throwing q) := by
      refine e3.trans ?_
      rw [hf₂, State.calling_eq h.top, State.setFrames_setFrames, State.pushFrame, State.frames_setTop _ hr', State.setTop_of_frames _ hr', State.setFrames_setFrames, hr]
      rfl
    have hsame : U.sameButNew ({ U with heap := s₂.heap, slotsUsed := s₂.slotsUsed } : State) L mc ms := by
      refine ⟨?_, q2, q3, q4, q5, q6⟩
      obtain ⟨t, ht, -⟩ := State.frames_cons hr
      show ({ U with heap := s₂.heap, slotsUsed := s₂.slotsUsed } : State) = { U.setFrames U.frames with heap := s₂.heap, slotsUsed := s₂.slotsUsed }
      rw [State.setFrames_self ht]
    subst hg
    refine Or.inr ⟨q, ⟨(({ U with heap := s₂.heap, slotsUsed := s₂.slotsUsed } : State).setVm s₂.vm), Ls ++ L, c0 + mc, s0 + ms⟩,
      ⟨X.admits, X.cas, X.clock, X.frames, X.room, X.hears, X.method, X.code, (X.here.setHeapUsed s₂.heap s₂.slotsUsed).setVm hW'.alike, X.tail, State.WarmedH.trans X.warmed hW', X.limits, X.bytes, X.same.trans (hsame.setVm s.vm)⟩,
      ⟨g, mk, s₂, L, E, ce, rfl, rfl, hx, hce, hcv, hcl, rfl, hL, rfl, rfl⟩, ?_⟩
    show Steps p.tables e below _ (((({ U with heap := s₂.heap, slotsUsed := s₂.slotsUsed } : State).setVm s₂.vm).setTop g).pushFrame (.throwing q))
    rw [← hs₂]
    exact hsteps
end
variable {p : Program} {l : Launch} {e : Env} {R : Room} {s : State} {m : MethodId} {args : Array Value} {below : List Frame} {meth : Method} {c : Code} {T : State} {H : Heap} {locs : List Loc} {cells slots : Nat}
theorem vx_callVX (X : Stand p l e R s m args below meth c T locs cells slots) (hexec : p.tables.exec = Jvm.exec) {own C : String} {index : Nat} {y : MethodName} {bytes : ByteArray} {maxL : Nat} {ret : Option FieldType} {hh : List (Nat × Nat × Nat × Nat)}
    (hown : s.vm.findClass own = some m.cls) (hlink : (Cond.methodLink own index y).before args s = true) (hinst : (Cond.instanceMethod y).before args s = true) (hsel : (Cond.selects C y y).before args s = true)
    (hcode : (Cond.codeWith y bytes maxL ret hh).before args s = true) (hy : y.cls ≠ "java/lang/invoke/MethodHandle" ∧ y.cls ≠ "java/lang/invoke/VarHandle")
    {W9 : Nat} {Pre : Pt → Array Value → Prop} {Post : Pt → Array Value → Option Value → Pt → Prop} {PostX : Pt → Array Value → Addr → Pt → Prop} (hK : vx_Back l R p e below s args y 3 W9 Pre Post PostX)
    {b : Addr} {cellB : Cell} (hcell : T.heap[b]? = some cellB) (hobj : cellB.vm.isStatics = false) (hcls : s.vm.findClass C = some cellB.cls)
    {g : JFrame} (hg : g.method = m) (hsize : g.locals.size = c.maxLocals) {argsL rest : List Value} (hlen : ∀ sig, parseMethodDescriptor y.desc = some sig → argsL.length = sig.parameters.length)
    (hstack : g.stack = argsL.reverse ++ .ref b :: rest) (hW : 2 * g.monitorRoom + (rest.map fun v => v.category).sum ≤ W9) (hdg : decode c.code g.pc = .ok (.invokevirtual index, 3))
    (hpre : ∀ vm₁, s.WarmedH vm₁ → Pre ⟨T.setVm vm₁, locs, cells, slots⟩ (Value.ref b :: argsL).toArray) :
    (∃ (v : Option Value) (vm₁ : Vm) (B : Pt), s.WarmedH vm₁ ∧ Stand p l e R s m args below meth c B.U B.locs B.cells B.slots ∧ Post ⟨T.setVm vm₁, locs, cells, slots⟩ (Value.ref b :: argsL).toArray v B ∧
      ∀ target, Steps p.tables e below (B.U.setTop { g with pc := g.pc + 3, stack := v.toList ++ rest }) target → Steps p.tables e below (T.setTop g) target) ∨
    (∃ (q : Addr) (vm₁ : Vm) (B : Pt), s.WarmedH vm₁ ∧ Stand p l e R s m args below meth c B.U B.locs B.cells B.slots ∧ PostX ⟨T.setVm vm₁, locs, cells, slots⟩ (Value.ref b :: argsL).toArray q B ∧
      Steps p.tables e below (T.setTop g) ((B.U.setTop { g with stack := rest }).pushFrame (.throwing q))) := by
  obtain ⟨mk, methM, hnamed, hmethM, hstM, habM⟩ := Cond.instanceMethod_spec hinst
  obtain ⟨m8, methM', cM, hn8, hmethM', -, -, -, -, -, -, hsigM⟩ := Cond.codeWith_spec hcode
  cases Option.some.inj (hn8.symm.trans hnamed)
  cases hmethM.symm.trans hmethM'
  obtain ⟨c2, r2, m2, q1, q2, q3, q4, kP, hkP, hkPi⟩ := Cond.selects_spec hsel
  cases hcls.symm.trans q1
  cases (State.methodFound?_of_named hnamed hy).symm.trans q2
  cases hnamed.symm.trans q3
  have hselP : selectMethod e.platform s.vm cellB.cls mk = .method mk := by rw [Launch.admits_selectMethod X.admits]; exact q4
  obtain ⟨vm₁, X₁, hstep₁⟩ := X.invokevirtual hexec hown hlink hnamed hmethM hstM hkP hkPi hy (a := b) (cell := cellB) hcell
    (fun z h => by rw [h] at hobj; cases hobj) hselP hmethM habM hkP hkPi (g := g) hg (argsL := argsL) (rest := rest) (hlen _ hsigM) hstack hdg
  rcases hK m meth c ⟨T.setVm vm₁, locs, cells, slots⟩ { g with stack := rest } (.invokevirtual index) mk (Value.ref b :: argsL).toArray X₁ hg hsize hdg hW (X₁.named hnamed) (hpre vm₁ X₁.warmed) with ⟨v, B, X', hpost, hsteps⟩ | ⟨q, B, X', hpost, hsteps⟩
  · exact Or.inl ⟨v, vm₁, B, X₁.warmed, X', hpost, fun target h => hstep₁ _ fun acts => by rw [doInvoke_state]; exact hsteps.trans h⟩
  · exact Or.inr ⟨q, vm₁, B, X₁.warmed, X', hpost, hstep₁ _ fun acts => by rw [doInvoke_state]; exact hsteps⟩
theorem vx_callSX (X : Stand p l e R s m args below meth c T locs cells slots) (hexec : p.tables.exec = Jvm.exec) {own : String} {index : Nat} {y : MethodName} {bytes : ByteArray} {maxL : Nat} {ret : Option FieldType} {hh : List (Nat × Nat × Nat × Nat)}
    (hown : s.vm.findClass own = some m.cls) (hlink : (Cond.methodLink own index y).before args s = true) (hstat : (Cond.static y).before args s = true) (hinit : (Cond.initialized y.cls).before args s = true)
    (hcode : (Cond.codeWith y bytes maxL ret hh).before args s = true) (hy : y.cls ≠ "java/lang/invoke/MethodHandle" ∧ y.cls ≠ "java/lang/invoke/VarHandle")
    {W9 : Nat} {Pre : Pt → Array Value → Prop} {Post : Pt → Array Value → Option Value → Pt → Prop} {PostX : Pt → Array Value → Addr → Pt → Prop} (hK : vx_Back l R p e below s args y 3 W9 Pre Post PostX)
    {g : JFrame} (hg : g.method = m) (hsize : g.locals.size = c.maxLocals) {argsL rest : List Value} (hlen : ∀ sig, parseMethodDescriptor y.desc = some sig → argsL.length = sig.parameters.length)
    (hstack : g.stack = argsL.reverse ++ rest) (hW : 2 * g.monitorRoom + (rest.map fun v => v.category).sum ≤ W9) (hdg : decode c.code g.pc = .ok (.invokestatic index, 3))
    (hpre : ∀ vm₁, s.WarmedH vm₁ → Pre ⟨T.setVm vm₁, locs, cells, slots⟩ argsL.toArray) :
    (∃ (v : Option Value) (vm₁ : Vm) (B : Pt), s.WarmedH vm₁ ∧ Stand p l e R s m args below meth c B.U B.locs B.cells B.slots ∧ Post ⟨T.setVm vm₁, locs, cells, slots⟩ argsL.toArray v B ∧
      ∀ target, Steps p.tables e below (B.U.setTop { g with pc := g.pc + 3, stack := v.toList ++ rest }) target → Steps p.tables e below (T.setTop g) target) ∨
    (∃ (q : Addr) (vm₁ : Vm) (B : Pt), s.WarmedH vm₁ ∧ Stand p l e R s m args below meth c B.U B.locs B.cells B.slots ∧ PostX ⟨T.setVm vm₁, locs, cells, slots⟩ argsL.toArray q B ∧
      Steps p.tables e below (T.setTop g) ((B.U.setTop { g with stack := rest }).pushFrame (.throwing q))) := by
  obtain ⟨mk, methM, cM, hnamed, hmethM, -, -, -, -, -, -, hsigM⟩ := Cond.codeWith_spec hcode
  have hstatic : methM.isStatic = true := Cond.static_spec hnamed hmethM hstat
  obtain ⟨kP, hkP, -⟩ := className_of_methodNamed hnamed
  have hinitP : kP.init = .initialized := Cond.initialized_spec (findClass_of_methodNamed hnamed) hkP hinit
  obtain ⟨vm₁, X₁, hstep₁⟩ := X.invokestatic hexec hown hlink hnamed hmethM hstatic hkP hinitP hy (g := g) hg (argsL := argsL) (rest := rest) (hlen _ hsigM) hstack hdg
  rcases hK m meth c ⟨T.setVm vm₁, locs, cells, slots⟩ { g with stack := rest } (.invokestatic index) mk argsL.toArray X₁ hg hsize hdg hW (X₁.named hnamed) (hpre vm₁ X₁.warmed) with ⟨v, B, X', hpost, hsteps⟩ | ⟨q, B, X', hpost, hsteps⟩
  · exact Or.inl ⟨v, vm₁, B, X₁.warmed, X', hpost, fun target h => hstep₁ _ fun acts => by rw [doInvoke_state]; exact hsteps.trans h⟩
  · exact Or.inr ⟨q, vm₁, B, X₁.warmed, X', hpost, hstep₁ _ fun acts => by rw [doInvoke_state]; exact hsteps⟩
theorem vx_callVW (X : Stand p l e R s m args below meth c T locs cells slots) (hexec : p.tables.exec = Jvm.exec) {own C : String} {index : Nat} {y : MethodName} {bytes : ByteArray} {maxL : Nat} {ret : Option FieldType} {hh : List (Nat × Nat × Nat × Nat)}
    (hown : s.vm.findClass own = some m.cls) (hlink : (Cond.methodLink own index y).before args s = true) (hinst : (Cond.instanceMethod y).before args s = true) (hsel : (Cond.selects C y y).before args s = true)
    (hcode : (Cond.codeWith y bytes maxL ret hh).before args s = true) (hy : y.cls ≠ "java/lang/invoke/MethodHandle" ∧ y.cls ≠ "java/lang/invoke/VarHandle")
    {W9 : Nat} {Pre : Pt → Array Value → Prop} {Post : Pt → Array Value → Option Value → Pt → Prop} (hK : Back l R p e below s args y 3 W9 Pre Post)
    {b : Addr} {cellB : Cell} (hcell : T.heap[b]? = some cellB) (hobj : cellB.vm.isStatics = false) (hcls : s.vm.findClass C = some cellB.cls)
    {g : JFrame} (hg : g.method = m) (hsize : g.locals.size = c.maxLocals) {argsL rest : List Value} (hlen : ∀ sig, parseMethodDescriptor y.desc = some sig → argsL.length = sig.parameters.length)
    (hstack : g.stack = argsL.reverse ++ .ref b :: rest) (hW : 2 * g.monitorRoom + (rest.map fun v => v.category).sum ≤ W9) (hdg : decode c.code g.pc = .ok (.invokevirtual index, 3))
    (hpre : ∀ vm₁, s.WarmedH vm₁ → Pre ⟨T.setVm vm₁, locs, cells, slots⟩ (Value.ref b :: argsL).toArray) :
    ∃ (v : Option Value) (vm₁ : Vm) (B : Pt), s.WarmedH vm₁ ∧ Stand p l e R s m args below meth c B.U B.locs B.cells B.slots ∧ Post ⟨T.setVm vm₁, locs, cells, slots⟩ (Value.ref b :: argsL).toArray v B ∧
      ∀ target, Steps p.tables e below (B.U.setTop { g with pc := g.pc + 3, stack := v.toList ++ rest }) target → Steps p.tables e below (T.setTop g) target := by
  obtain ⟨mk, methM, hnamed, hmethM, hstM, habM⟩ := Cond.instanceMethod_spec hinst
  obtain ⟨m8, methM', cM, hn8, hmethM', -, -, -, -, -, -, hsigM⟩ := Cond.codeWith_spec hcode
  cases Option.some.inj (hn8.symm.trans hnamed)
  cases hmethM.symm.trans hmethM'
  obtain ⟨c2, r2, m2, q1, q2, q3, q4, kP, hkP, hkPi⟩ := Cond.selects_spec hsel
  cases hcls.symm.trans q1
  cases (State.methodFound?_of_named hnamed hy).symm.trans q2
  cases hnamed.symm.trans q3
  have hselP : selectMethod e.platform s.vm cellB.cls mk = .method mk := by rw [Launch.admits_selectMethod X.admits]; exact q4
  obtain ⟨vm₁, X₁, hstep₁⟩ := X.invokevirtual hexec hown hlink hnamed hmethM hstM hkP hkPi hy (a := b) (cell := cellB) hcell
    (fun z h => by rw [h] at hobj; cases hobj) hselP hmethM habM hkP hkPi (g := g) hg (argsL := argsL) (rest := rest) (hlen _ hsigM) hstack hdg
  obtain ⟨v, B, X', hpost, hsteps⟩ := hK m meth c ⟨T.setVm vm₁, locs, cells, slots⟩ { g with stack := rest } (.invokevirtual index) mk (Value.ref b :: argsL).toArray X₁ hg hsize hdg hW (X₁.named hnamed) (hpre vm₁ X₁.warmed)
  exact ⟨v, vm₁, B, X₁.warmed, X', hpost, fun target h => hstep₁ _ fun acts => by rw [doInvoke_state]; exact hsteps.trans h⟩
abbrev vx_CVW (R : Room) (s : State) (args : Array Value) (own C : String) (index : Nat) (y : MethodName) (bytes : ByteArray) (maxL : Nat) (ret : Option FieldType) (hh : List (Nat × Nat × Nat × Nat)) (ws : List Cond) (rm : Room) (mc ms n : Nat) : Prop :=
  (rm.cells = mc ∧ rm.slots = ms ∧ rm.frames + 1 ≤ R.frames ∧ 8 + (maxL + 11) + rm.locals ≤ R.locals ∧ (∀ w ∈ ws, ∀ (a' : Array Value) (U : State), s.WarmedH U.vm → w.before a' U = true) ∧ Cond.codeWith y bytes maxL ret hh ∈ ws) ∧
  (Cond.codeWith y bytes maxL ret hh).before args s = true ∧ (Cond.initialized y.cls).before args s = true ∧ (y.cls ≠ "java/lang/invoke/MethodHandle" ∧ y.cls ≠ "java/lang/invoke/VarHandle") ∧
  (∀ sig, parseMethodDescriptor y.desc = some sig → n = sig.parameters.length) ∧ (Cond.methodLink own index y).before args s = true ∧ (Cond.instanceMethod y).before args s = true ∧ (Cond.selects C y y).before args s = true
theorem vx_cwVW {own C : String} {index maxL mc ms : Nat} {y : MethodName} {bytes : ByteArray} {ret : Option FieldType} {hh : List (Nat × Nat × Nat × Nat)} {Ts ws ws' : List Cond} {rm : Room} (n : Nat) (ht : ∀ w ∈ Ts, w.before args s = true) (hT : GoodIn Ts (wsV own index C y ws)) (hw : ws = Cond.codeWith y bytes maxL ret hh :: ws') (hrc : rm.cells = mc) (hrs : rm.slots = ms)
    (hd : y.cls = C ∧ y.cls ≠ "java/lang/invoke/MethodHandle" ∧ y.cls ≠ "java/lang/invoke/VarHandle" ∧ (parseMethodDescriptor y.desc).map (fun d => d.parameters.length) = some n) (hR : rm.frames + 1 ≤ R.frames ∧ 8 + (maxL + 11) + rm.locals ≤ R.locals) :
    vx_CVW R s args own C index y bytes maxL ret hh ws rm mc ms n := by
  obtain ⟨hC, hd⟩ := hd
  subst hC
  have ok : ∀ w ∈ wsV own index y.cls y ws, w.before args s = true := fun w h => ht w (hT w h).1
  have hG : GoodIn Ts ws := fun w h => hT w (by unfold wsV; exact List.mem_append_right _ h)
  have hc : Cond.codeWith y bytes maxL ret hh ∈ ws := by rw [hw]; exact List.mem_cons_self
  refine ⟨⟨hrc, hrs, hR.1, hR.2, pay_in ht hG, hc⟩, ht _ (hG _ hc).1, ok _ (by simp [wsV]), ⟨hd.1, hd.2.1⟩, fun sig h => ?_, ok _ (by simp [wsV]), ok _ (by simp [wsV]), ok _ (by simp [wsV])⟩
  have h2 := hd.2.2
  rw [h] at h2
  exact (Option.some.inj h2).symm
theorem vx_runVW {y : MethodName} {bytes cc : ByteArray} {maxL nL mc ms n index : Nat} {ret : Option FieldType} {hh : List (Nat × Nat × Nat × Nat)} {ws : List Cond} {rm : Room} {Pc : Array Value → State → Prop} {Qc : Array Value → State → Outcome → State → Prop} {free : Addr → Prop} {Ts : List Cond} {own C : String} {b : Addr} {As rest : List Value} {g : JFrame}
    (S : CallFix p m c cc nL s args Ts own) (hM : Met l y ws rm Pc Qc mc ms free) (cw : vx_CVW R s args own C index y bytes maxL ret hh ws rm mc ms n) (hp : PreV s H C b Pc As)
    (hg : g.method = m) (hn : As.length = n) (hsize : g.locals.size = nL) (hstack : g.stack = As.reverse ++ .ref b :: rest) (hW : 2 * g.monitorRoom + (rest.map fun v => v.category).sum ≤ 8) (hdg : decode cc g.pc = .ok (.invokevirtual index, 3)) (hf : cells + mc ≤ R.cells ∧ slots + ms ≤ R.slots) :
    va_Run p l e R s m args below meth c H locs cells slots mc ms g rest (Qc (Value.ref b :: As).toArray) free := by
  obtain ⟨⟨hrc, hrs, hfr, hlo, hws, hcw⟩, hcode, hini, hy, hlen, hl, hin, hse⟩ := cw
  have hK : Back l R p e below s args y 3 8 (PreOf R mc ms Pc) (PostOf Qc mc ms free) := va_backW (hh := hh) (bytes := bytes) (maxL := maxL) (ret := ret) hM hp.1 hrc hrs hfr hlo hws hcw (fun a' U hW => word_at hW (Or.inl (by first | rfl | simp [Cond.onTables, Cond.keeps, Cond.steady])) hini)
  obtain ⟨hx, hb, hml, ho, -⟩ := S
  obtain ⟨-, ⟨cellB, hcB, hoB, hclB⟩, hPc⟩ := hp
  intro T hT X
  obtain ⟨v, vm₁, ⟨U', l2, c2, s2⟩, hW₁, X', ⟨g', mk, t, L, e1, e2, hq, h1, hL, h2, h3⟩, st⟩ := vx_callVW X hx (C := C) (hh := hh) (bytes := bytes) (maxL := maxL) (ret := ret) ho hl hin hse hcode hy hK (by rw [hT]; exact hcB) hoB hclB hg (hsize.trans hml.symm) (argsL := As) (rest := rest) (fun sig h => hn.trans (hlen sig h)) hstack hW (by rw [hb]; exact hdg)
    (fun vm₁ hW₁ => ⟨hf.1, hf.2, hPc (T.setVm vm₁) hT hW₁⟩)
  dsimp only [Pt.U, Pt.locs, Pt.cells, Pt.slots] at X' e1 e2 h1 h2 h3 st
  subst h1; subst h2; subst h3
  exact ⟨v, (T.setVm vm₁).calling g' mk (Value.ref b :: As).toArray, t, U', L, hT, X', hL, e1, e2, hq, st⟩
section
variable {y : MethodName} {bytes cc : ByteArray} {maxL nL mc ms n index : Nat} {ret : Option FieldType} {ws : List Cond} {rm : Room} {Pc : Array Value → State → Prop} {Qc : Array Value → State → Outcome → State → Prop} {XC : String → State → State → Prop} {free : Addr → Prop} {Ts : List Cond} {own C : String} {b : Addr} {As rest : List Value} {g : JFrame}
theorem vx_runVX {hh : List (Nat × Nat × Nat × Nat)} (S : CallFix p m c cc nL s args Ts own) (hM : vx_Met l y ws rm Pc Qc XC mc ms free) (cw : vx_CVW R s args own C index y bytes maxL ret hh ws rm mc ms n) (hp : PreV s H C b Pc As)
    (hg : g.method = m) (hn : As.length = n) (hsize : g.locals.size = nL) (hstack : g.stack = As.reverse ++ .ref b :: rest) (hW : 2 * g.monitorRoom + (rest.map fun v => v.category).sum ≤ 8) (hdg : decode cc g.pc = .ok (.invokevirtual index, 3)) (hf : cells + mc ≤ R.cells ∧ slots + ms ≤ R.slots) :
    vx_Run p l e R s m args below meth c H locs cells slots mc ms g rest (Qc (Value.ref b :: As).toArray) XC free := by
  obtain ⟨⟨hrc, hrs, hfr, hlo, hws, hcw⟩, hcode, hini, hy, hlen, hl, hin, hse⟩ := cw
  have hK : vx_Back l R p e below s args y 3 8 (PreOf R mc ms Pc) (PostOf Qc mc ms free) (vx_Post XC mc ms free) := vx_backW (hh := hh) (bytes := bytes) (maxL := maxL) (ret := ret) hM hp.1 hrc hrs hfr hlo hws hcw (fun a' U hW => word_at hW (Or.inl (by first | rfl | simp [Cond.onTables, Cond.keeps, Cond.steady])) hini)
  obtain ⟨hx, hb, hml, ho, -⟩ := S
  obtain ⟨-, ⟨cellB, hcB, hoB, hclB⟩, hPc⟩ := hp
  intro T hT X
  rcases vx_callVX X hx (C := C) (hh := hh) (bytes := bytes) (maxL := maxL) (ret := ret) ho hl hin hse hcode hy hK (by rw [hT]; exact hcB) hoB hclB hg (hsize.trans hml.symm) (argsL := As) (rest := rest) (fun sig h => hn.trans (hlen sig h)) hstack hW (by rw [hb]; exact hdg)
    (fun vm₁ hW₁ => ⟨hf.1, hf.2, hPc (T.setVm vm₁) hT hW₁⟩) with ⟨v, vm₁, ⟨U', l2, c2, s2⟩, hW₁, X', ⟨g', mk, t, L, e1, e2, hq, h1, hL, h2, h3⟩, st⟩ | ⟨q, vm₁, ⟨U', l2, c2, s2⟩, hW₁, X', ⟨g', mk, t, L, E, ce, e1, e2, hq, hce, hcv, hcl, h1, hL, h2, h3⟩, st⟩
  · dsimp only [Pt.U, Pt.locs, Pt.cells, Pt.slots] at X' e1 e2 h1 h2 h3 st
    subst h1; subst h2; subst h3
    exact Or.inl ⟨v, (T.setVm vm₁).calling g' mk (Value.ref b :: As).toArray, t, U', L, hT, X', hL, e1, e2, hq, st⟩
  · dsimp only [Pt.U, Pt.locs, Pt.cells, Pt.slots] at X' e1 e2 h1 h2 h3 st hcl
    subst h1; subst h2; subst h3
    exact Or.inr ⟨q, (T.setVm vm₁).calling g' mk (Value.ref b :: As).toArray, t, U', L, E, ce, hT, X', hL, e1, e2, hq, hce, hcv, vx_cls hW₁ hcl, st⟩
theorem vx_runSX {hh : List (Nat × Nat × Nat × Nat)} (S : CallFix p m c cc nL s args Ts own) (hM : vx_Met l y ws rm Pc Qc XC mc ms free) (cw : vx_CSW R s args own index y bytes maxL ret hh ws rm mc ms n) (hp : PreS s H Pc As)
    (hg : g.method = m) (hn : As.length = n) (hsize : g.locals.size = nL) (hstack : g.stack = As.reverse ++ rest) (hW : 2 * g.monitorRoom + (rest.map fun v => v.category).sum ≤ 8) (hdg : decode cc g.pc = .ok (.invokestatic index, 3)) (hf : cells + mc ≤ R.cells ∧ slots + ms ≤ R.slots) :
    vx_Run p l e R s m args below meth c H locs cells slots mc ms g rest (Qc As.toArray) XC free := by
  obtain ⟨⟨hrc, hrs, hfr, hlo, hws, hcw⟩, hcode, hini, hy, hlen, hl, hstt⟩ := cw
  have hK : vx_Back l R p e below s args y 3 8 (PreOf R mc ms Pc) (PostOf Qc mc ms free) (vx_Post XC mc ms free) := vx_backW (hh := hh) (bytes := bytes) (maxL := maxL) (ret := ret) hM hp.1 hrc hrs hfr hlo hws hcw (fun a' U hW => word_at hW (Or.inl (by first | rfl | simp [Cond.onTables, Cond.keeps, Cond.steady])) hini)
  obtain ⟨hx, hb, hml, ho, -⟩ := S
  intro T hT X
  rcases vx_callSX X hx (hh := hh) (bytes := bytes) (maxL := maxL) (ret := ret) ho hl hstt hini hcode hy hK hg (hsize.trans hml.symm) (argsL := As) (rest := rest) (fun sig h => hn.trans (hlen sig h)) hstack hW (by rw [hb]; exact hdg)
    (fun vm₁ hW₁ => ⟨hf.1, hf.2, hp.2 (T.setVm vm₁) hT hW₁⟩) with ⟨v, vm₁, ⟨U', l2, c2, s2⟩, hW₁, X', ⟨g', mk, t, L, e1, e2, hq, h1, hL, h2, h3⟩, st⟩ | ⟨q, vm₁, ⟨U', l2, c2, s2⟩, hW₁, X', ⟨g', mk, t, L, E, ce, e1, e2, hq, hce, hcv, hcl, h1, hL, h2, h3⟩, st⟩
  · dsimp only [Pt.U, Pt.locs, Pt.cells, Pt.slots] at X' e1 e2 h1 h2 h3 st
    subst h1; subst h2; subst h3
    exact Or.inl ⟨v, (T.setVm vm₁).calling g' mk As.toArray, t, U', L, hT, X', hL, e1, e2, hq, st⟩
  · dsimp only [Pt.U, Pt.locs, Pt.cells, Pt.slots] at X' e1 e2 h1 h2 h3 st hcl
    subst h1; subst h2; subst h3
    exact Or.inr ⟨q, (T.setVm vm₁).calling g' mk As.toArray, t, U', L, E, ce, hT, X', hL, e1, e2, hq, hce, hcv, vx_cls hW₁ hcl, st⟩
end
end VXH
theorem vx_ofWH {l : Launch} {y : MethodName} {ws ws' : List Cond} {rm : Room} {Pc : Array Value → State → Prop} {Qc : Array Value → State → Outcome → State → Prop} {XC : String → State → State → Prop} {mc ms : Nat} {free : Addr → Prop} {cc : ByteArray} {maxL : Nat} {ret : Option FieldType} {hh : List (Nat × Nat × Nat × Nat)}
    (hy : plainName y.cls = true) (hw : ws = Cond.codeWith y cc maxL ret hh :: ws')
    (body : ∀ p e s m args below meth c s₁, BodyLoose p l y (headSpec ws rm) cc maxL ret e s m args below meth c s₁ → c.maxLocals = maxL → Pc args s →
      W p l e (headSpec ws rm).room s m args below meth c s.heap [] 0 0 (vx_MQ below Qc XC args s mc ms free) (entryFrame m args maxL)) : vx_Met l y ws rm Pc Qc XC mc ms free := by
  refine MetFree.of_bodyS (code := cc) (maxLocals := maxL) (ret := ret) hy ?_ ?_
  · intro args s m h hn
    obtain ⟨m9, meth, c, hn9, h1, h2, h3, h4, -, h5, h6, -⟩ := Cond.codeWith_spec (atoms_spec (ws := ws) h _ (by rw [hw]; exact List.mem_cons_self))
    cases hn.symm.trans hn9
    exact ⟨meth, c, h1, h2, h3, h4, h5, h6⟩
  · intro p e s m args below meth c s₁ B hml hP _
    have hh0 : s₁.heap = s.heap := by rw [B.state]; rfl
    obtain ⟨t, a1, o, b1, b2, b3⟩ := body p e s m args below meth c s₁ B hml hP s₁ hh0 (Stand.of_body B)
    exact ⟨t, o, a1, b1, b2, b3⟩
/-! ===== END ===== -/
end
section
def RX0 : String := "WidowPennies$Book"
def TX0 : u_T := fun k => match k with
  | 0 => ("WidowPennies$Book", "tables", "LWidowPennies$Tables;", true)
  | 1 => ("WidowPennies$Book", "widows", "[LWidowPennies$Widow;", true)
  | 2 => ("WidowPennies$Book", "written", "I", false)
  | 3 => ("WidowPennies$Book", "chest", "I", false)
  | 4 => ("WidowPennies$Book", "paidOut", "I", false)
  | 5 => ("WidowPennies$Book", "prices", "I", false)
  | _ => ("WidowPennies$Book", "year", "I", false)
def tyX0 : Nat → FieldType := fun k => match k with
  | 0 => .object "WidowPennies$Tables"
  | 1 => .array (.object "WidowPennies$Widow")
  | 2 => .int
  | 3 => .int
  | 4 => .int
  | 5 => .int
  | _ => .int
abbrev wsX00 : List Cond := u_ws RX0 TX0 7
theorem nmX0 : ∀ a, a < 7 → ∀ b, b < 7 → a ≠ b → (TX0 a).2.1 ≠ (TX0 b).2.1 := by decide +kernel
theorem tyX0_ok : ∀ k, k < 7 → parseFieldDescriptor (TX0 k).2.2.1 = some (tyX0 k) := by decide +kernel
abbrev cX0_init : ByteArray := prog_2_method_1_code
def yX0_init : MethodName := ⟨RX0, "<init>", "(LWidowPennies$Tables;)V"⟩
abbrev cX0_isFull : ByteArray := prog_2_method_2_code
def yX0_isFull : MethodName := ⟨RX0, "isFull", "()Z"⟩
abbrev cX0_widowAt : ByteArray := prog_2_method_3_code
def yX0_widowAt : MethodName := ⟨RX0, "widowAt", "(I)LWidowPennies$Widow;"⟩
abbrev cX0_write : ByteArray := prog_2_method_4_code
def yX0_write : MethodName := ⟨RX0, "write", "(IIII)I"⟩
abbrev cX0_takeIn : ByteArray := prog_2_method_5_code
def yX0_takeIn : MethodName := ⟨RX0, "takeIn", "(I)V"⟩
abbrev cX0_payOut : ByteArray := prog_2_method_6_code
def yX0_payOut : MethodName := ⟨RX0, "payOut", "(I)V"⟩
abbrev cX0_passYears : ByteArray := prog_2_method_8_code
def yX0_passYears : MethodName := ⟨RX0, "passYears", "(I)V"⟩
abbrev cX0_passYear : ByteArray := prog_2_method_9_code
def yX0_passYear : MethodName := ⟨RX0, "passYear", "()V"⟩
abbrev cX0_tell : ByteArray := prog_2_method_10_code
def yX0_tell : MethodName := ⟨RX0, "tell", "(I)I"⟩
abbrev cX0_keptForAll : ByteArray := prog_2_method_11_code
def yX0_keptForAll : MethodName := ⟨RX0, "keptForAll", "(I)I"⟩
abbrev cX0_living : ByteArray := prog_2_method_12_code
def yX0_living : MethodName := ⟨RX0, "living", "()I"⟩
abbrev cX0_agesOfLiving : ByteArray := prog_2_method_13_code
def yX0_agesOfLiving : MethodName := ⟨RX0, "agesOfLiving", "()I"⟩
abbrev cX0_sumsDue : ByteArray := prog_2_method_14_code
def yX0_sumsDue : MethodName := ⟨RX0, "sumsDue", "()I"⟩
def RX1 : String := "WidowPennies$Tables"
def TX1 : u_T := fun k => match k with
  | 0 => ("WidowPennies$Tables", "deaths", "[I", true)
  | _ => ("WidowPennies$Tables", "rates", "[I", true)
def tyX1 : Nat → FieldType := fun k => match k with
  | 0 => .array .int
  | _ => .array .int
abbrev wsX10 : List Cond := u_ws RX1 TX1 2
theorem nmX1 : ∀ a, a < 2 → ∀ b, b < 2 → a ≠ b → (TX1 a).2.1 ≠ (TX1 b).2.1 := by decide +kernel
theorem tyX1_ok : ∀ k, k < 2 → parseFieldDescriptor (TX1 k).2.2.1 = some (tyX1 k) := by decide +kernel
abbrev cX1_init : ByteArray := prog_3_method_1_code
def yX1_init : MethodName := ⟨RX1, "<init>", "()V"⟩
abbrev cX1_deathsAt : ByteArray := prog_3_method_2_code
def yX1_deathsAt : MethodName := ⟨RX1, "deathsAt", "(I)I"⟩
abbrev cX1_changeDeaths : ByteArray := prog_3_method_3_code
def yX1_changeDeaths : MethodName := ⟨RX1, "changeDeaths", "(II)V"⟩
abbrev cX1_rate : ByteArray := prog_3_method_4_code
def yX1_rate : MethodName := ⟨RX1, "rate", "(I)I"⟩
abbrev cX1_changeRate : ByteArray := prog_3_method_5_code
def yX1_changeRate : MethodName := ⟨RX1, "changeRate", "(II)V"⟩
abbrev cX1_worthNow : ByteArray := prog_3_method_6_code
def yX1_worthNow : MethodName := ⟨RX1, "worthNow", "(II)I"⟩
abbrev cX1_worthWith : ByteArray := prog_3_method_7_code
def yX1_worthWith : MethodName := ⟨RX1, "worthWith", "(III)I"⟩
abbrev cX1_priceOf : ByteArray := prog_3_method_8_code
def yX1_priceOf : MethodName := ⟨RX1, "priceOf", "(II)I"⟩
abbrev cX1_keptNow : ByteArray := prog_3_method_11_code
def yX1_keptNow : MethodName := ⟨RX1, "keptNow", "(LWidowPennies$Widow;)I"⟩
abbrev cX1_keptWith : ByteArray := prog_3_method_12_code
def yX1_keptWith : MethodName := ⟨RX1, "keptWith", "(LWidowPennies$Widow;I)I"⟩
abbrev cX1_givenBack : ByteArray := prog_3_method_13_code
def yX1_givenBack : MethodName := ⟨RX1, "givenBack", "(LWidowPennies$Widow;)I"⟩
abbrev cX1_tellOf : ByteArray := prog_3_method_14_code
def yX1_tellOf : MethodName := ⟨RX1, "tellOf", "(LWidowPennies$Widow;I)I"⟩
def RX2 : String := "WidowPennies$Widow"
def TX2 : u_T := fun k => match k with
  | 0 => ("WidowPennies$Widow", "age", "I", false)
  | 1 => ("WidowPennies$Widow", "sum", "I", false)
  | 2 => ("WidowPennies$Widow", "wait", "I", false)
  | 3 => ("WidowPennies$Widow", "held", "I", false)
  | 4 => ("WidowPennies$Widow", "state", "I", false)
  | 5 => ("WidowPennies$Widow", "got", "I", false)
  | _ => ("WidowPennies$Widow", "cost", "I", false)
def tyX2 : Nat → FieldType := fun k => match k with
  | 0 => .int
  | 1 => .int
  | 2 => .int
  | 3 => .int
  | 4 => .int
  | 5 => .int
  | _ => .int
abbrev wsX20 : List Cond := u_ws RX2 TX2 7
theorem nmX2 : ∀ a, a < 7 → ∀ b, b < 7 → a ≠ b → (TX2 a).2.1 ≠ (TX2 b).2.1 := by decide +kernel
theorem tyX2_ok : ∀ k, k < 7 → parseFieldDescriptor (TX2 k).2.2.1 = some (tyX2 k) := by decide +kernel
abbrev cX2_init : ByteArray := prog_4_method_1_code
def yX2_init : MethodName := ⟨RX2, "<init>", "()V"⟩
abbrev cX2_lives : ByteArray := prog_4_method_2_code
def yX2_lives : MethodName := ⟨RX2, "lives", "()Z"⟩
abbrev cX2_canGiveUp : ByteArray := prog_4_method_3_code
def yX2_canGiveUp : MethodName := ⟨RX2, "canGiveUp", "()Z"⟩
abbrev cX2_start : ByteArray := prog_4_method_4_code
def yX2_start : MethodName := ⟨RX2, "start", "(IIII)V"⟩
abbrev cX2_liveYear : ByteArray := prog_4_method_6_code
def yX2_liveYear : MethodName := ⟨RX2, "liveYear", "()I"⟩
def RX3 : String := "WidowPennies"
def TX3 : u_T := fun k => match k with
  | 0 => ("WidowPennies", "tables", "LWidowPennies$Tables;", true)
  | 1 => ("WidowPennies", "book", "LWidowPennies$Book;", true)
  | _ => ("WidowPennies", "trial", "LWidowPennies$Book;", true)
def tyX3 : Nat → FieldType := fun k => match k with
  | 0 => .object "WidowPennies$Tables"
  | 1 => .object "WidowPennies$Book"
  | _ => .object "WidowPennies$Book"
abbrev wsX30 : List Cond := u_ws RX3 TX3 3
theorem nmX3 : ∀ a, a < 3 → ∀ b, b < 3 → a ≠ b → (TX3 a).2.1 ≠ (TX3 b).2.1 := by decide +kernel
theorem tyX3_ok : ∀ k, k < 3 → parseFieldDescriptor (TX3 k).2.2.1 = some (tyX3 k) := by decide +kernel
abbrev cX3_init : ByteArray := prog_1_method_1_code
def yX3_init : MethodName := ⟨RX3, "<init>", "()V"⟩
abbrev cX3_setDeaths : ByteArray := prog_1_method_2_code
def yX3_setDeaths : MethodName := ⟨RX3, "setDeaths", "(II)I"⟩
abbrev cX3_setRate : ByteArray := prog_1_method_3_code
def yX3_setRate : MethodName := ⟨RX3, "setRate", "(II)I"⟩
abbrev cX3_buy : ByteArray := prog_1_method_4_code
def yX3_buy : MethodName := ⟨RX3, "buy", "(III)I"⟩
abbrev cX3_die : ByteArray := prog_1_method_5_code
def yX3_die : MethodName := ⟨RX3, "die", "(I)I"⟩
abbrev cX3_giveUp : ByteArray := prog_1_method_6_code
def yX3_giveUp : MethodName := ⟨RX3, "giveUp", "(I)I"⟩
abbrev cX3_put : ByteArray := prog_1_method_7_code
def yX3_put : MethodName := ⟨RX3, "put", "(I)I"⟩
abbrev cX3_price : ByteArray := prog_1_method_9_code
def yX3_price : MethodName := ⟨RX3, "price", "(III)I"⟩
abbrev cX3_told : ByteArray := prog_1_method_10_code
def yX3_told : MethodName := ⟨RX3, "told", "(II)I"⟩
abbrev cX3_count : ByteArray := prog_1_method_11_code
def yX3_count : MethodName := ⟨RX3, "count", "(I)I"⟩
abbrev cX3_pass : ByteArray := prog_1_method_13_code
def yX3_pass : MethodName := ⟨RX3, "pass", "(I)I"⟩
abbrev cX3_mean : ByteArray := prog_1_method_18_code
def yX3_mean : MethodName := ⟨RX3, "mean", "()D"⟩
abbrev cX3_isAge : ByteArray := prog_1_method_20_code
def yX3_isAge : MethodName := ⟨RX3, "isAge", "(I)Z"⟩
abbrev cX3_checkAge : ByteArray := prog_1_method_21_code
def yX3_checkAge : MethodName := ⟨RX3, "checkAge", "(I)V"⟩
abbrev cX3_checkSum : ByteArray := prog_1_method_22_code
def yX3_checkSum : MethodName := ⟨RX3, "checkSum", "(I)V"⟩
abbrev cX3_checkPutOff : ByteArray := prog_1_method_23_code
def yX3_checkPutOff : MethodName := ⟨RX3, "checkPutOff", "(I)V"⟩
abbrev cX3_checkYearsPassing : ByteArray := prog_1_method_24_code
def yX3_checkYearsPassing : MethodName := ⟨RX3, "checkYearsPassing", "(I)V"⟩
abbrev cX3_checkWidow : ByteArray := prog_1_method_25_code
def yX3_checkWidow : MethodName := ⟨RX3, "checkWidow", "(I)V"⟩
def RX4 : String := "WidowPenniesLaw$Sim"
def TX4 : u_T := fun k => match k with
  | 0 => ("WidowPenniesLaw$Sim", "year", "I", false)
  | 1 => ("WidowPenniesLaw$Sim", "chest", "I", false)
  | 2 => ("WidowPenniesLaw$Sim", "out", "I", false)
  | 3 => ("WidowPenniesLaw$Sim", "rates", "[I", false)
  | 4 => ("WidowPenniesLaw$Sim", "deaths", "[I", false)
  | _ => ("WidowPenniesLaw$Sim", "all", "[LWidowPenniesLaw$Widow;", false)
def tyX4 : Nat → FieldType := fun k => match k with
  | 0 => .int
  | 1 => .int
  | 2 => .int
  | 3 => .array .int
  | 4 => .array .int
  | _ => .array (.object "WidowPenniesLaw$Widow")
abbrev wsX40 : List Cond := u_ws RX4 TX4 6
theorem nmX4 : ∀ a, a < 6 → ∀ b, b < 6 → a ≠ b → (TX4 a).2.1 ≠ (TX4 b).2.1 := by decide +kernel
theorem tyX4_ok : ∀ k, k < 6 → parseFieldDescriptor (TX4 k).2.2.1 = some (tyX4 k) := by decide +kernel
abbrev cX4_init : ByteArray := prog_6_method_1_code
def yX4_init : MethodName := ⟨RX4, "<init>", "()V"⟩
abbrev cX4_worth : ByteArray := prog_6_method_3_code
def yX4_worth : MethodName := ⟨RX4, "worth", "(II)I"⟩
abbrev cX4_price : ByteArray := prog_6_method_4_code
def yX4_price : MethodName := ⟨RX4, "price", "(III)I"⟩
abbrev cX4_kept : ByteArray := prog_6_method_5_code
def yX4_kept : MethodName := ⟨RX4, "kept", "(LWidowPenniesLaw$Widow;)I"⟩
abbrev cX4_back : ByteArray := prog_6_method_6_code
def yX4_back : MethodName := ⟨RX4, "back", "(LWidowPenniesLaw$Widow;)I"⟩
abbrev cX4_keptForAll : ByteArray := prog_6_method_7_code
def yX4_keptForAll : MethodName := ⟨RX4, "keptForAll", "()I"⟩
abbrev cX4_come : ByteArray := prog_6_method_8_code
def yX4_come : MethodName := ⟨RX4, "come", "(J)V"⟩
abbrev cX4_pass : ByteArray := prog_6_method_9_code
def yX4_pass : MethodName := ⟨RX4, "pass", "()I"⟩
abbrev cX4_counted : ByteArray := prog_6_method_10_code
def yX4_counted : MethodName := ⟨RX4, "counted", "(I)I"⟩
abbrev cX4_isSame : ByteArray := prog_6_method_11_code
def yX4_isSame : MethodName := ⟨RX4, "isSame", "(LWidowPennies;)Z"⟩
def RX5 : String := "WidowPenniesLaw$Widow"
def TX5 : u_T := fun k => match k with
  | 0 => ("WidowPenniesLaw$Widow", "age", "I", false)
  | 1 => ("WidowPenniesLaw$Widow", "sum", "I", false)
  | 2 => ("WidowPenniesLaw$Widow", "waits", "I", false)
  | 3 => ("WidowPenniesLaw$Widow", "since", "I", false)
  | 4 => ("WidowPenniesLaw$Widow", "state", "I", false)
  | 5 => ("WidowPenniesLaw$Widow", "got", "I", false)
  | _ => ("WidowPenniesLaw$Widow", "price", "I", false)
def tyX5 : Nat → FieldType := fun k => match k with
  | 0 => .int
  | 1 => .int
  | 2 => .int
  | 3 => .int
  | 4 => .int
  | 5 => .int
  | _ => .int
abbrev wsX50 : List Cond := u_ws RX5 TX5 7
theorem nmX5 : ∀ a, a < 7 → ∀ b, b < 7 → a ≠ b → (TX5 a).2.1 ≠ (TX5 b).2.1 := by decide +kernel
theorem tyX5_ok : ∀ k, k < 7 → parseFieldDescriptor (TX5 k).2.2.1 = some (tyX5 k) := by decide +kernel
abbrev cX5_init : ByteArray := prog_7_method_1_code
def yX5_init : MethodName := ⟨RX5, "<init>", "()V"⟩
def RX6 : String := "WidowPenniesModel"
def TX6 : u_T := fun k => match k with
  | _ => ("", "", "", false)
def tyX6 : Nat → FieldType := fun k => match k with
  | _ => .int
abbrev wsX60 : List Cond := u_ws RX6 TX6 0
theorem nmX6 : ∀ a, a < 0 → ∀ b, b < 0 → a ≠ b → (TX6 a).2.1 ≠ (TX6 b).2.1 := by decide +kernel
theorem tyX6_ok : ∀ k, k < 0 → parseFieldDescriptor (TX6 k).2.2.1 = some (tyX6 k) := by decide +kernel
def RJ9 : String := "java/lang/Math"
def TJ9 : u_T := fun k => match k with
  | _ => ("", "", "", false)
def tyJ9 : Nat → FieldType := fun k => match k with
  | _ => .int
abbrev wsJ90 : List Cond := u_ws RJ9 TJ9 0
theorem nmJ9 : ∀ a, a < 0 → ∀ b, b < 0 → a ≠ b → (TJ9 a).2.1 ≠ (TJ9 b).2.1 := by decide +kernel
theorem tyJ9_ok : ∀ k, k < 0 → parseFieldDescriptor (TJ9 k).2.2.1 = some (tyJ9 k) := by decide +kernel
abbrev cJ9_max_7cf53 : ByteArray := prog_13_method_65_code
def yJ9_max_7cf53 : MethodName := ⟨RJ9, "max", "(II)I"⟩
abbrev cJ9_min_f86c9 : ByteArray := prog_13_method_70_code
def yJ9_min_f86c9 : MethodName := ⟨RJ9, "min", "(JJ)J"⟩
def RJ0 : String := "java/lang/String"
def TJ0 : u_T := fun k => match k with
  | _ => ("", "", "", false)
def tyJ0 : Nat → FieldType := fun k => match k with
  | _ => .int
abbrev wsJ00 : List Cond := u_ws RJ0 TJ0 0
theorem nmJ0 : ∀ a, a < 0 → ∀ b, b < 0 → a ≠ b → (TJ0 a).2.1 ≠ (TJ0 b).2.1 := by decide +kernel
theorem tyJ0_ok : ∀ k, k < 0 → parseFieldDescriptor (TJ0 k).2.2.1 = some (tyJ0 k) := by decide +kernel
def RL : String := "WidowPenniesLaw"
abbrev cL_below : ByteArray := method_2_code
def yL_below : MethodName := ⟨RL, "below", "(II)I"⟩
abbrev cL_cell : ByteArray := method_3_code
def yL_cell : MethodName := ⟨RL, "cell", "([II)I"⟩
abbrev cL_act : ByteArray := method_4_code
def yL_act : MethodName := ⟨RL, "act", "(LWidowPennies;LWidowPenniesLaw$Sim;I)Z"⟩
abbrev cL_build : ByteArray := method_5_code
def yL_build : MethodName := ⟨RL, "build", "(LWidowPennies;[I)LWidowPenniesLaw$Sim;"⟩
abbrev cL_law : ByteArray := code
def yL_law : MethodName := ⟨RL, "law", "([I)Z"⟩
def wsX2_init : List Cond := .code yX2_init cX2_init 1 none :: ([.methodLink RX2 3 objectInit, .instanceMethod objectInit, .code objectInit ⟨#[0xb1]⟩ 1 none])
def wsX0_init : List Cond := .code yX0_init cX0_init 3 none :: ([.methodLink RX0 3 objectInit, .instanceMethod objectInit, .code objectInit ⟨#[0xb1]⟩ 1 none, .fieldLink RX0 9 "WidowPennies$Book" "tables" "LWidowPennies$Tables;", .classLink RX0 15 RX2, .fieldLink RX0 17 "WidowPennies$Book" "widows" "[LWidowPennies$Widow;", .instantiable RX2 7, .initialized RX2, .instanceMethod yX2_init, .code yX2_init cX2_init 1 none, .methodLink RX2 3 objectInit] ++ wsX00 ++ wsX20)
def wsX0_isFull : List Cond := .code yX0_isFull cX0_isFull 1 (some .boolean) :: ([.fieldLink RX0 22 "WidowPennies$Book" "written" "I"] ++ wsX00)
def wsX0_widowAt : List Cond := .code yX0_widowAt cX0_widowAt 2 (some (.object "WidowPennies$Widow")) :: ([.fieldLink RX0 17 "WidowPennies$Book" "widows" "[LWidowPennies$Widow;"] ++ wsX00)
def wsX2_start : List Cond := .code yX2_start cX2_start 5 none :: ([.fieldLink RX2 22 "WidowPennies$Widow" "age" "I", .fieldLink RX2 25 "WidowPennies$Widow" "sum" "I", .fieldLink RX2 28 "WidowPennies$Widow" "wait" "I", .fieldLink RX2 19 "WidowPennies$Widow" "held" "I", .fieldLink RX2 9 "WidowPennies$Widow" "state" "I", .fieldLink RX2 31 "WidowPennies$Widow" "got" "I", .fieldLink RX2 34 "WidowPennies$Widow" "cost" "I"] ++ wsX20)
def wsX0_takeIn : List Cond := .code yX0_takeIn cX0_takeIn 3 none :: ([.fieldLink RX0 41 "WidowPennies$Book" "chest" "I", .constant RX0 44 (99999999)] ++ wsX00)
def wsX0_write_r1 : List Cond := [Cond.fieldLink RX0 22 "WidowPennies$Book" "written" "I", Cond.fieldLink RX0 34 "WidowPennies$Book" "prices" "I", Cond.methodLink RX0 26 yX0_widowAt, Cond.instanceMethod yX0_widowAt, Cond.selects RX0 yX0_widowAt yX0_widowAt, Cond.initialized RX0, Cond.code yX0_widowAt cX0_widowAt 2 (some (.object "WidowPennies$Widow")), Cond.fieldLink RX0 17 "WidowPennies$Book" "widows" "[LWidowPennies$Widow;", Cond.methodLink RX0 30 yX2_start, Cond.instanceMethod yX2_start, Cond.selects RX2 yX2_start yX2_start, Cond.initialized RX2, Cond.code yX2_start cX2_start 5 none, Cond.fieldLink RX2 22 "WidowPennies$Widow" "age" "I", Cond.fieldLink RX2 25 "WidowPennies$Widow" "sum" "I", Cond.fieldLink RX2 28 "WidowPennies$Widow" "wait" "I", Cond.fieldLink RX2 19 "WidowPennies$Widow" "held" "I", Cond.fieldLink RX2 9 "WidowPennies$Widow" "state" "I", Cond.fieldLink RX2 31 "WidowPennies$Widow" "got" "I", Cond.fieldLink RX2 34 "WidowPennies$Widow" "cost" "I", Cond.methodLink RX0 37 yX0_takeIn, Cond.instanceMethod yX0_takeIn, Cond.selects RX0 yX0_takeIn yX0_takeIn, Cond.code yX0_takeIn cX0_takeIn 3 none]
def wsX0_write_r2 : List Cond := [Cond.fieldLink RX0 41 "WidowPennies$Book" "chest" "I", Cond.constant RX0 44 (99999999)]
def wsX0_write : List Cond := .code yX0_write cX0_write 6 (some .int) :: ((wsX0_write_r1 ++ wsX0_write_r2) ++ wsX00 ++ wsX20)
def wsX0_payOut : List Cond := .code yX0_payOut cX0_payOut 2 none :: ([.fieldLink RX0 41 "WidowPennies$Book" "chest" "I", .fieldLink RX0 45 "WidowPennies$Book" "paidOut" "I"] ++ wsX00)
def wsX1_rate : List Cond := .code yX1_rate cX1_rate 2 (some .int) :: ([.fieldLink RX1 15 "WidowPennies$Tables" "rates" "[I"] ++ wsX10)
def wsX2_lives : List Cond := .code yX2_lives cX2_lives 1 (some .boolean) :: ([.fieldLink RX2 9 "WidowPennies$Widow" "state" "I"] ++ wsX20)
def wsX2_liveYear : List Cond := .code yX2_liveYear cX2_liveYear 2 (some .int) :: ([.fieldLink RX2 28 "WidowPennies$Widow" "wait" "I", .fieldLink RX2 25 "WidowPennies$Widow" "sum" "I", .fieldLink RX2 31 "WidowPennies$Widow" "got" "I", .fieldLink RX2 22 "WidowPennies$Widow" "age" "I", .fieldLink RX2 19 "WidowPennies$Widow" "held" "I", .fieldLink RX2 9 "WidowPennies$Widow" "state" "I"] ++ wsX20)
def wsX0_passYear_r1 : List Cond := [Cond.fieldLink RX0 41 "WidowPennies$Book" "chest" "I", Cond.fieldLink RX0 9 "WidowPennies$Book" "tables" "LWidowPennies$Tables;", Cond.constantLong RX0 64 (1000), Cond.fieldLink RX0 22 "WidowPennies$Book" "written" "I", Cond.fieldLink RX0 48 "WidowPennies$Book" "year" "I", Cond.methodLink RX0 58 yX1_rate, Cond.instanceMethod yX1_rate, Cond.selects RX1 yX1_rate yX1_rate, Cond.initialized RX1, Cond.code yX1_rate cX1_rate 2 (some .int), Cond.fieldLink RX1 15 "WidowPennies$Tables" "rates" "[I", Cond.methodLink RX0 37 yX0_takeIn, Cond.instanceMethod yX0_takeIn, Cond.selects RX0 yX0_takeIn yX0_takeIn, Cond.initialized RX0, Cond.code yX0_takeIn cX0_takeIn 3 none, Cond.constant RX0 44 (99999999), Cond.methodLink RX0 26 yX0_widowAt, Cond.instanceMethod yX0_widowAt, Cond.selects RX0 yX0_widowAt yX0_widowAt, Cond.code yX0_widowAt cX0_widowAt 2 (some (.object "WidowPennies$Widow")), Cond.fieldLink RX0 17 "WidowPennies$Book" "widows" "[LWidowPennies$Widow;", Cond.methodLink RX0 66 yX2_lives, Cond.instanceMethod yX2_lives]
def wsX0_passYear_r2 : List Cond := [Cond.selects RX2 yX2_lives yX2_lives, Cond.initialized RX2, Cond.code yX2_lives cX2_lives 1 (some .boolean), Cond.fieldLink RX2 9 "WidowPennies$Widow" "state" "I", Cond.methodLink RX0 70 yX2_liveYear, Cond.instanceMethod yX2_liveYear, Cond.selects RX2 yX2_liveYear yX2_liveYear, Cond.code yX2_liveYear cX2_liveYear 2 (some .int), Cond.fieldLink RX2 28 "WidowPennies$Widow" "wait" "I", Cond.fieldLink RX2 25 "WidowPennies$Widow" "sum" "I", Cond.fieldLink RX2 31 "WidowPennies$Widow" "got" "I", Cond.fieldLink RX2 22 "WidowPennies$Widow" "age" "I", Cond.fieldLink RX2 19 "WidowPennies$Widow" "held" "I", Cond.methodLink RX0 74 yX0_payOut, Cond.instanceMethod yX0_payOut, Cond.selects RX0 yX0_payOut yX0_payOut, Cond.code yX0_payOut cX0_payOut 2 none, Cond.fieldLink RX0 45 "WidowPennies$Book" "paidOut" "I"]
def wsX0_passYear : List Cond := .code yX0_passYear cX0_passYear 3 none :: ((wsX0_passYear_r1 ++ wsX0_passYear_r2) ++ wsX00 ++ wsX10 ++ wsX20)
def wsX0_passYears_r1 : List Cond := [Cond.methodLink RX0 55 yX0_passYear, Cond.instanceMethod yX0_passYear, Cond.selects RX0 yX0_passYear yX0_passYear, Cond.initialized RX0, Cond.code yX0_passYear cX0_passYear 3 none, Cond.fieldLink RX0 41 "WidowPennies$Book" "chest" "I", Cond.fieldLink RX0 9 "WidowPennies$Book" "tables" "LWidowPennies$Tables;", Cond.constantLong RX0 64 (1000), Cond.fieldLink RX0 22 "WidowPennies$Book" "written" "I", Cond.fieldLink RX0 48 "WidowPennies$Book" "year" "I", Cond.methodLink RX0 58 yX1_rate, Cond.instanceMethod yX1_rate, Cond.selects RX1 yX1_rate yX1_rate, Cond.initialized RX1, Cond.code yX1_rate cX1_rate 2 (some .int), Cond.fieldLink RX1 15 "WidowPennies$Tables" "rates" "[I", Cond.methodLink RX0 37 yX0_takeIn, Cond.instanceMethod yX0_takeIn, Cond.selects RX0 yX0_takeIn yX0_takeIn, Cond.code yX0_takeIn cX0_takeIn 3 none, Cond.constant RX0 44 (99999999), Cond.methodLink RX0 26 yX0_widowAt, Cond.instanceMethod yX0_widowAt, Cond.selects RX0 yX0_widowAt yX0_widowAt]
def wsX0_passYears_r2 : List Cond := [Cond.code yX0_widowAt cX0_widowAt 2 (some (.object "WidowPennies$Widow")), Cond.fieldLink RX0 17 "WidowPennies$Book" "widows" "[LWidowPennies$Widow;", Cond.methodLink RX0 66 yX2_lives, Cond.instanceMethod yX2_lives, Cond.selects RX2 yX2_lives yX2_lives, Cond.initialized RX2, Cond.code yX2_lives cX2_lives 1 (some .boolean), Cond.fieldLink RX2 9 "WidowPennies$Widow" "state" "I", Cond.methodLink RX0 70 yX2_liveYear, Cond.instanceMethod yX2_liveYear, Cond.selects RX2 yX2_liveYear yX2_liveYear, Cond.code yX2_liveYear cX2_liveYear 2 (some .int), Cond.fieldLink RX2 28 "WidowPennies$Widow" "wait" "I", Cond.fieldLink RX2 25 "WidowPennies$Widow" "sum" "I", Cond.fieldLink RX2 31 "WidowPennies$Widow" "got" "I", Cond.fieldLink RX2 22 "WidowPennies$Widow" "age" "I", Cond.fieldLink RX2 19 "WidowPennies$Widow" "held" "I", Cond.methodLink RX0 74 yX0_payOut, Cond.instanceMethod yX0_payOut, Cond.selects RX0 yX0_payOut yX0_payOut, Cond.code yX0_payOut cX0_payOut 2 none, Cond.fieldLink RX0 45 "WidowPennies$Book" "paidOut" "I"]
def wsX0_passYears : List Cond := .code yX0_passYears cX0_passYears 3 none :: ((wsX0_passYears_r1 ++ wsX0_passYears_r2) ++ wsX00 ++ wsX10 ++ wsX20)
def wsX0_living : List Cond := .code yX0_living cX0_living 3 (some .int) :: ([.fieldLink RX0 22 "WidowPennies$Book" "written" "I", .methodLink RX0 26 yX0_widowAt, .instanceMethod yX0_widowAt, .selects RX0 yX0_widowAt yX0_widowAt, .initialized RX0, .code yX0_widowAt cX0_widowAt 2 (some (.object "WidowPennies$Widow")), .fieldLink RX0 17 "WidowPennies$Book" "widows" "[LWidowPennies$Widow;", .methodLink RX0 66 yX2_lives, .instanceMethod yX2_lives, .selects RX2 yX2_lives yX2_lives, .initialized RX2, .code yX2_lives cX2_lives 1 (some .boolean), .fieldLink RX2 9 "WidowPennies$Widow" "state" "I"] ++ wsX00 ++ wsX20)
def wsX3_isAge : List Cond := .code yX3_isAge cX3_isAge 1 (some .boolean) :: ([])
def wsX1_deathsAt : List Cond := .code yX1_deathsAt cX1_deathsAt 2 (some .int) :: ([.fieldLink RX1 9 "WidowPennies$Tables" "deaths" "[I", .static yX3_isAge, .initialized RX3, .code yX3_isAge cX3_isAge 1 (some .boolean)] ++ wsX10)
def wsX1_worthWith : List Cond := .code yX1_worthWith cX1_worthWith 8 (some .int) :: ([.methodLink RX1 26 yX1_deathsAt, .instanceMethod yX1_deathsAt, .selects RX1 yX1_deathsAt yX1_deathsAt, .initialized RX1, .code yX1_deathsAt cX1_deathsAt 2 (some .int), .fieldLink RX1 9 "WidowPennies$Tables" "deaths" "[I", .static yX3_isAge, .initialized RX3, .code yX3_isAge cX3_isAge 1 (some .boolean)] ++ wsX10)
def wsX1_keptWith : List Cond := .code yX1_keptWith cX1_keptWith 3 (some .int) :: ([.fieldLink RX1 44 "WidowPennies$Widow" "sum" "I", .fieldLink RX1 48 "WidowPennies$Widow" "age" "I", .fieldLink RX1 51 "WidowPennies$Widow" "wait" "I", .methodLink RX1 38 yX2_lives, .instanceMethod yX2_lives, .selects RX2 yX2_lives yX2_lives, .initialized RX2, .code yX2_lives cX2_lives 1 (some .boolean), .fieldLink RX2 9 "WidowPennies$Widow" "state" "I", .methodLink RX1 22 yX1_worthWith, .instanceMethod yX1_worthWith, .selects RX1 yX1_worthWith yX1_worthWith, .initialized RX1, .code yX1_worthWith cX1_worthWith 8 (some .int), .methodLink RX1 26 yX1_deathsAt, .instanceMethod yX1_deathsAt, .selects RX1 yX1_deathsAt yX1_deathsAt, .code yX1_deathsAt cX1_deathsAt 2 (some .int), .fieldLink RX1 9 "WidowPennies$Tables" "deaths" "[I", .static yX3_isAge, .initialized RX3, .code yX3_isAge cX3_isAge 1 (some .boolean)] ++ wsX20 ++ wsX10)
def wsX0_keptForAll_r1 : List Cond := [Cond.fieldLink RX0 22 "WidowPennies$Book" "written" "I", Cond.fieldLink RX0 9 "WidowPennies$Book" "tables" "LWidowPennies$Tables;", Cond.methodLink RX0 26 yX0_widowAt, Cond.instanceMethod yX0_widowAt, Cond.selects RX0 yX0_widowAt yX0_widowAt, Cond.initialized RX0, Cond.code yX0_widowAt cX0_widowAt 2 (some (.object "WidowPennies$Widow")), Cond.fieldLink RX0 17 "WidowPennies$Book" "widows" "[LWidowPennies$Widow;", Cond.methodLink RX0 86 yX1_keptWith, Cond.instanceMethod yX1_keptWith, Cond.selects RX1 yX1_keptWith yX1_keptWith, Cond.initialized RX1, Cond.code yX1_keptWith cX1_keptWith 3 (some .int), Cond.fieldLink RX1 44 "WidowPennies$Widow" "sum" "I", Cond.fieldLink RX1 48 "WidowPennies$Widow" "age" "I", Cond.fieldLink RX1 51 "WidowPennies$Widow" "wait" "I", Cond.methodLink RX1 38 yX2_lives, Cond.instanceMethod yX2_lives, Cond.selects RX2 yX2_lives yX2_lives, Cond.initialized RX2, Cond.code yX2_lives cX2_lives 1 (some .boolean), Cond.fieldLink RX2 9 "WidowPennies$Widow" "state" "I", Cond.methodLink RX1 22 yX1_worthWith, Cond.instanceMethod yX1_worthWith]
def wsX0_keptForAll_r2 : List Cond := [Cond.selects RX1 yX1_worthWith yX1_worthWith, Cond.code yX1_worthWith cX1_worthWith 8 (some .int), Cond.methodLink RX1 26 yX1_deathsAt, Cond.instanceMethod yX1_deathsAt, Cond.selects RX1 yX1_deathsAt yX1_deathsAt, Cond.code yX1_deathsAt cX1_deathsAt 2 (some .int), Cond.fieldLink RX1 9 "WidowPennies$Tables" "deaths" "[I", Cond.static yX3_isAge, Cond.initialized RX3, Cond.code yX3_isAge cX3_isAge 1 (some .boolean)]
def wsX0_keptForAll : List Cond := .code yX0_keptForAll cX0_keptForAll 4 (some .int) :: ((wsX0_keptForAll_r1 ++ wsX0_keptForAll_r2) ++ wsX00 ++ wsX20 ++ wsX10)
def wsX0_sumsDue : List Cond := .code yX0_sumsDue cX0_sumsDue 4 (some .int) :: ([.fieldLink RX0 22 "WidowPennies$Book" "written" "I", .fieldLink RX0 93 "WidowPennies$Widow" "wait" "I", .fieldLink RX0 96 "WidowPennies$Widow" "sum" "I", .methodLink RX0 26 yX0_widowAt, .instanceMethod yX0_widowAt, .selects RX0 yX0_widowAt yX0_widowAt, .initialized RX0, .code yX0_widowAt cX0_widowAt 2 (some (.object "WidowPennies$Widow")), .fieldLink RX0 17 "WidowPennies$Book" "widows" "[LWidowPennies$Widow;", .methodLink RX0 66 yX2_lives, .instanceMethod yX2_lives, .selects RX2 yX2_lives yX2_lives, .initialized RX2, .code yX2_lives cX2_lives 1 (some .boolean), .fieldLink RX2 9 "WidowPennies$Widow" "state" "I"] ++ wsX00 ++ wsX20)
def wsX0_tell_r1 : List Cond := [Cond.fieldLink RX0 48 "WidowPennies$Book" "year" "I", Cond.fieldLink RX0 22 "WidowPennies$Book" "written" "I", Cond.fieldLink RX0 41 "WidowPennies$Book" "chest" "I", Cond.fieldLink RX0 9 "WidowPennies$Book" "tables" "LWidowPennies$Tables;", Cond.fieldLink RX0 45 "WidowPennies$Book" "paidOut" "I", Cond.fieldLink RX0 34 "WidowPennies$Book" "prices" "I", Cond.methodLink RX0 77 yX0_living, Cond.instanceMethod yX0_living, Cond.selects RX0 yX0_living yX0_living, Cond.initialized RX0, Cond.code yX0_living cX0_living 3 (some .int), Cond.methodLink RX0 26 yX0_widowAt, Cond.instanceMethod yX0_widowAt, Cond.selects RX0 yX0_widowAt yX0_widowAt, Cond.code yX0_widowAt cX0_widowAt 2 (some (.object "WidowPennies$Widow")), Cond.fieldLink RX0 17 "WidowPennies$Book" "widows" "[LWidowPennies$Widow;", Cond.methodLink RX0 66 yX2_lives, Cond.instanceMethod yX2_lives, Cond.selects RX2 yX2_lives yX2_lives, Cond.initialized RX2, Cond.code yX2_lives cX2_lives 1 (some .boolean), Cond.fieldLink RX2 9 "WidowPennies$Widow" "state" "I", Cond.methodLink RX0 58 yX1_rate, Cond.instanceMethod yX1_rate]
def wsX0_tell_r2 : List Cond := [Cond.selects RX1 yX1_rate yX1_rate, Cond.initialized RX1, Cond.code yX1_rate cX1_rate 2 (some .int), Cond.fieldLink RX1 15 "WidowPennies$Tables" "rates" "[I", Cond.methodLink RX0 80 yX0_keptForAll, Cond.instanceMethod yX0_keptForAll, Cond.selects RX0 yX0_keptForAll yX0_keptForAll, Cond.code yX0_keptForAll cX0_keptForAll 4 (some .int), Cond.methodLink RX0 86 yX1_keptWith, Cond.instanceMethod yX1_keptWith, Cond.selects RX1 yX1_keptWith yX1_keptWith, Cond.code yX1_keptWith cX1_keptWith 3 (some .int), Cond.fieldLink RX1 44 "WidowPennies$Widow" "sum" "I", Cond.fieldLink RX1 48 "WidowPennies$Widow" "age" "I", Cond.fieldLink RX1 51 "WidowPennies$Widow" "wait" "I", Cond.methodLink RX1 38 yX2_lives, Cond.methodLink RX1 22 yX1_worthWith, Cond.instanceMethod yX1_worthWith, Cond.selects RX1 yX1_worthWith yX1_worthWith, Cond.code yX1_worthWith cX1_worthWith 8 (some .int), Cond.methodLink RX1 26 yX1_deathsAt, Cond.instanceMethod yX1_deathsAt, Cond.selects RX1 yX1_deathsAt yX1_deathsAt, Cond.code yX1_deathsAt cX1_deathsAt 2 (some .int)]
def wsX0_tell_r3 : List Cond := [Cond.fieldLink RX1 9 "WidowPennies$Tables" "deaths" "[I", Cond.static yX3_isAge, Cond.initialized RX3, Cond.code yX3_isAge cX3_isAge 1 (some .boolean), Cond.methodLink RX0 83 yX0_sumsDue, Cond.instanceMethod yX0_sumsDue, Cond.selects RX0 yX0_sumsDue yX0_sumsDue, Cond.code yX0_sumsDue cX0_sumsDue 4 (some .int), Cond.fieldLink RX0 93 "WidowPennies$Widow" "wait" "I", Cond.fieldLink RX0 96 "WidowPennies$Widow" "sum" "I"]
def wsX0_tell : List Cond := .code yX0_tell cX0_tell 2 (some .int) :: ((wsX0_tell_r1 ++ (wsX0_tell_r2 ++ wsX0_tell_r3)) ++ wsX00 ++ wsX20 ++ wsX10)
def wsX0_agesOfLiving : List Cond := .code yX0_agesOfLiving cX0_agesOfLiving 4 (some .int) :: ([.fieldLink RX0 22 "WidowPennies$Book" "written" "I", .fieldLink RX0 90 "WidowPennies$Widow" "age" "I", .methodLink RX0 26 yX0_widowAt, .instanceMethod yX0_widowAt, .selects RX0 yX0_widowAt yX0_widowAt, .initialized RX0, .code yX0_widowAt cX0_widowAt 2 (some (.object "WidowPennies$Widow")), .fieldLink RX0 17 "WidowPennies$Book" "widows" "[LWidowPennies$Widow;", .methodLink RX0 66 yX2_lives, .instanceMethod yX2_lives, .selects RX2 yX2_lives yX2_lives, .initialized RX2, .code yX2_lives cX2_lives 1 (some .boolean), .fieldLink RX2 9 "WidowPennies$Widow" "state" "I"] ++ wsX00 ++ wsX20)
def wsX1_init : List Cond := .code yX1_init cX1_init 2 none :: ([.methodLink RX1 3 objectInit, .instanceMethod objectInit, .code objectInit ⟨#[0xb1]⟩ 1 none, .arrayClass .int, .fieldLink RX1 9 "WidowPennies$Tables" "deaths" "[I", .fieldLink RX1 15 "WidowPennies$Tables" "rates" "[I"] ++ wsX10)
def wsX1_changeDeaths : List Cond := .code yX1_changeDeaths cX1_changeDeaths 3 none :: ([.fieldLink RX1 9 "WidowPennies$Tables" "deaths" "[I", .static yX3_isAge, .initialized RX3, .code yX3_isAge cX3_isAge 1 (some .boolean)] ++ wsX10)
def wsX1_changeRate : List Cond := .code yX1_changeRate cX1_changeRate 3 none :: ([.fieldLink RX1 15 "WidowPennies$Tables" "rates" "[I"] ++ wsX10)
def wsX1_worthNow : List Cond := .code yX1_worthNow cX1_worthNow 3 (some .int) :: ([.fieldLink RX1 15 "WidowPennies$Tables" "rates" "[I", .methodLink RX1 22 yX1_worthWith, .instanceMethod yX1_worthWith, .selects RX1 yX1_worthWith yX1_worthWith, .initialized RX1, .code yX1_worthWith cX1_worthWith 8 (some .int), .methodLink RX1 26 yX1_deathsAt, .instanceMethod yX1_deathsAt, .selects RX1 yX1_deathsAt yX1_deathsAt, .code yX1_deathsAt cX1_deathsAt 2 (some .int), .fieldLink RX1 9 "WidowPennies$Tables" "deaths" "[I", .static yX3_isAge, .initialized RX3, .code yX3_isAge cX3_isAge 1 (some .boolean)] ++ wsX10)
def wsX1_priceOf : List Cond := .code yX1_priceOf cX1_priceOf 5 (some .int) :: ([.fieldLink RX1 15 "WidowPennies$Tables" "rates" "[I"] ++ wsX10)
def wsX1_keptNow_r1 : List Cond := [Cond.fieldLink RX1 15 "WidowPennies$Tables" "rates" "[I", Cond.methodLink RX1 34 yX1_keptWith, Cond.instanceMethod yX1_keptWith, Cond.selects RX1 yX1_keptWith yX1_keptWith, Cond.initialized RX1, Cond.code yX1_keptWith cX1_keptWith 3 (some .int), Cond.fieldLink RX1 44 "WidowPennies$Widow" "sum" "I", Cond.fieldLink RX1 48 "WidowPennies$Widow" "age" "I", Cond.fieldLink RX1 51 "WidowPennies$Widow" "wait" "I", Cond.methodLink RX1 38 yX2_lives, Cond.instanceMethod yX2_lives, Cond.selects RX2 yX2_lives yX2_lives, Cond.initialized RX2, Cond.code yX2_lives cX2_lives 1 (some .boolean), Cond.fieldLink RX2 9 "WidowPennies$Widow" "state" "I", Cond.methodLink RX1 22 yX1_worthWith, Cond.instanceMethod yX1_worthWith, Cond.selects RX1 yX1_worthWith yX1_worthWith, Cond.code yX1_worthWith cX1_worthWith 8 (some .int), Cond.methodLink RX1 26 yX1_deathsAt, Cond.instanceMethod yX1_deathsAt, Cond.selects RX1 yX1_deathsAt yX1_deathsAt, Cond.code yX1_deathsAt cX1_deathsAt 2 (some .int), Cond.fieldLink RX1 9 "WidowPennies$Tables" "deaths" "[I"]
def wsX1_keptNow_r2 : List Cond := [Cond.static yX3_isAge, Cond.initialized RX3, Cond.code yX3_isAge cX3_isAge 1 (some .boolean)]
def wsX1_keptNow : List Cond := .code yX1_keptNow cX1_keptNow 2 (some .int) :: ((wsX1_keptNow_r1 ++ wsX1_keptNow_r2) ++ wsX10 ++ wsX20)
def wsX2_canGiveUp : List Cond := .code yX2_canGiveUp cX2_canGiveUp 1 (some .boolean) :: ([.fieldLink RX2 19 "WidowPennies$Widow" "held" "I", .methodLink RX2 15 yX2_lives, .instanceMethod yX2_lives, .selects RX2 yX2_lives yX2_lives, .initialized RX2, .code yX2_lives cX2_lives 1 (some .boolean), .fieldLink RX2 9 "WidowPennies$Widow" "state" "I"] ++ wsX20)
def wsX1_givenBack_r1 : List Cond := [Cond.fieldLink RX1 15 "WidowPennies$Tables" "rates" "[I", Cond.methodLink RX1 54 yX2_canGiveUp, Cond.instanceMethod yX2_canGiveUp, Cond.selects RX2 yX2_canGiveUp yX2_canGiveUp, Cond.initialized RX2, Cond.code yX2_canGiveUp cX2_canGiveUp 1 (some .boolean), Cond.fieldLink RX2 19 "WidowPennies$Widow" "held" "I", Cond.methodLink RX2 15 yX2_lives, Cond.instanceMethod yX2_lives, Cond.selects RX2 yX2_lives yX2_lives, Cond.code yX2_lives cX2_lives 1 (some .boolean), Cond.fieldLink RX2 9 "WidowPennies$Widow" "state" "I", Cond.methodLink RX1 57 yX1_keptNow, Cond.instanceMethod yX1_keptNow, Cond.selects RX1 yX1_keptNow yX1_keptNow, Cond.initialized RX1, Cond.code yX1_keptNow cX1_keptNow 2 (some .int), Cond.methodLink RX1 34 yX1_keptWith, Cond.instanceMethod yX1_keptWith, Cond.selects RX1 yX1_keptWith yX1_keptWith, Cond.code yX1_keptWith cX1_keptWith 3 (some .int), Cond.fieldLink RX1 44 "WidowPennies$Widow" "sum" "I", Cond.fieldLink RX1 48 "WidowPennies$Widow" "age" "I", Cond.fieldLink RX1 51 "WidowPennies$Widow" "wait" "I"]
def wsX1_givenBack_r2 : List Cond := [Cond.methodLink RX1 38 yX2_lives, Cond.methodLink RX1 22 yX1_worthWith, Cond.instanceMethod yX1_worthWith, Cond.selects RX1 yX1_worthWith yX1_worthWith, Cond.code yX1_worthWith cX1_worthWith 8 (some .int), Cond.methodLink RX1 26 yX1_deathsAt, Cond.instanceMethod yX1_deathsAt, Cond.selects RX1 yX1_deathsAt yX1_deathsAt, Cond.code yX1_deathsAt cX1_deathsAt 2 (some .int), Cond.fieldLink RX1 9 "WidowPennies$Tables" "deaths" "[I", Cond.static yX3_isAge, Cond.initialized RX3, Cond.code yX3_isAge cX3_isAge 1 (some .boolean)]
def wsX1_givenBack : List Cond := .code yX1_givenBack cX1_givenBack 3 (some .int) :: ((wsX1_givenBack_r1 ++ wsX1_givenBack_r2) ++ wsX10 ++ wsX20)
def wsX1_tellOf_r1 : List Cond := [Cond.fieldLink RX1 48 "WidowPennies$Widow" "age" "I", Cond.fieldLink RX1 44 "WidowPennies$Widow" "sum" "I", Cond.fieldLink RX1 51 "WidowPennies$Widow" "wait" "I", Cond.fieldLink RX1 61 "WidowPennies$Widow" "held" "I", Cond.fieldLink RX1 64 "WidowPennies$Widow" "state" "I", Cond.fieldLink RX1 67 "WidowPennies$Widow" "got" "I", Cond.fieldLink RX1 70 "WidowPennies$Widow" "cost" "I", Cond.methodLink RX1 57 yX1_keptNow, Cond.instanceMethod yX1_keptNow, Cond.selects RX1 yX1_keptNow yX1_keptNow, Cond.initialized RX1, Cond.code yX1_keptNow cX1_keptNow 2 (some .int), Cond.fieldLink RX1 15 "WidowPennies$Tables" "rates" "[I", Cond.methodLink RX1 34 yX1_keptWith, Cond.instanceMethod yX1_keptWith, Cond.selects RX1 yX1_keptWith yX1_keptWith, Cond.code yX1_keptWith cX1_keptWith 3 (some .int), Cond.methodLink RX1 38 yX2_lives, Cond.instanceMethod yX2_lives, Cond.selects RX2 yX2_lives yX2_lives, Cond.initialized RX2, Cond.code yX2_lives cX2_lives 1 (some .boolean), Cond.fieldLink RX2 9 "WidowPennies$Widow" "state" "I", Cond.methodLink RX1 22 yX1_worthWith]
def wsX1_tellOf_r2 : List Cond := [Cond.instanceMethod yX1_worthWith, Cond.selects RX1 yX1_worthWith yX1_worthWith, Cond.code yX1_worthWith cX1_worthWith 8 (some .int), Cond.methodLink RX1 26 yX1_deathsAt, Cond.instanceMethod yX1_deathsAt, Cond.selects RX1 yX1_deathsAt yX1_deathsAt, Cond.code yX1_deathsAt cX1_deathsAt 2 (some .int), Cond.fieldLink RX1 9 "WidowPennies$Tables" "deaths" "[I", Cond.static yX3_isAge, Cond.initialized RX3, Cond.code yX3_isAge cX3_isAge 1 (some .boolean), Cond.methodLink RX1 73 yX1_givenBack, Cond.instanceMethod yX1_givenBack, Cond.selects RX1 yX1_givenBack yX1_givenBack, Cond.code yX1_givenBack cX1_givenBack 3 (some .int), Cond.methodLink RX1 54 yX2_canGiveUp, Cond.instanceMethod yX2_canGiveUp, Cond.selects RX2 yX2_canGiveUp yX2_canGiveUp, Cond.code yX2_canGiveUp cX2_canGiveUp 1 (some .boolean), Cond.fieldLink RX2 19 "WidowPennies$Widow" "held" "I", Cond.methodLink RX2 15 yX2_lives]
def wsX1_tellOf : List Cond := .code yX1_tellOf cX1_tellOf 3 (some .int) :: ((wsX1_tellOf_r1 ++ wsX1_tellOf_r2) ++ wsX20 ++ wsX10)
def wsX3_init_r1 : List Cond := [Cond.methodLink RX3 3 objectInit, Cond.instanceMethod objectInit, Cond.code objectInit ⟨#[0xb1]⟩ 1 none, Cond.classLink RX3 9 RX1, Cond.instantiable RX1 2, Cond.initialized RX1, Cond.fieldLink RX3 12 "WidowPennies" "tables" "LWidowPennies$Tables;", Cond.classLink RX3 16 RX0, Cond.instantiable RX0 7, Cond.initialized RX0, Cond.fieldLink RX3 21 "WidowPennies" "book" "LWidowPennies$Book;", Cond.fieldLink RX3 25 "WidowPennies" "trial" "LWidowPennies$Book;", Cond.methodLink RX3 11 yX1_init, Cond.instanceMethod yX1_init, Cond.code yX1_init cX1_init 2 none, Cond.methodLink RX1 3 objectInit, Cond.arrayClass .int, Cond.fieldLink RX1 9 "WidowPennies$Tables" "deaths" "[I", Cond.fieldLink RX1 15 "WidowPennies$Tables" "rates" "[I", Cond.methodLink RX3 18 yX0_init, Cond.instanceMethod yX0_init, Cond.code yX0_init cX0_init 3 none, Cond.methodLink RX0 3 objectInit, Cond.fieldLink RX0 9 "WidowPennies$Book" "tables" "LWidowPennies$Tables;"]
def wsX3_init_r2 : List Cond := [Cond.classLink RX0 15 RX2, Cond.fieldLink RX0 17 "WidowPennies$Book" "widows" "[LWidowPennies$Widow;", Cond.instantiable RX2 7, Cond.initialized RX2, Cond.instanceMethod yX2_init, Cond.code yX2_init cX2_init 1 none, Cond.methodLink RX2 3 objectInit]
def wsX3_init : List Cond := .code yX3_init cX3_init 1 none :: ((wsX3_init_r1 ++ wsX3_init_r2) ++ wsX10 ++ wsX30 ++ wsX00 ++ wsX20)
def wsX3_setDeaths : List Cond := .code yX3_setDeaths cX3_setDeaths 4 (some .int) :: ([.classLink RX3 32 "java/lang/IndexOutOfBoundsException", .initialized "java/lang/IndexOutOfBoundsException", .classLink RX3 39 "java/lang/IllegalArgumentException", .initialized "java/lang/IllegalArgumentException", .fieldLink RX3 12 "WidowPennies" "tables" "LWidowPennies$Tables;", .methodLink RX3 28 yX3_isAge, .static yX3_isAge, .initialized RX3, .code yX3_isAge cX3_isAge 1 (some .boolean), .methodLink RX3 44 yX1_deathsAt, .instanceMethod yX1_deathsAt, .selects RX1 yX1_deathsAt yX1_deathsAt, .initialized RX1, .code yX1_deathsAt cX1_deathsAt 2 (some .int), .fieldLink RX1 9 "WidowPennies$Tables" "deaths" "[I", .methodLink RX3 48 yX1_changeDeaths, .instanceMethod yX1_changeDeaths, .selects RX1 yX1_changeDeaths yX1_changeDeaths, .code yX1_changeDeaths cX1_changeDeaths 3 none] ++ wsX30 ++ wsX10 ++ (vx_atS RX3 36 "java/lang/IndexOutOfBoundsException" ["java/lang/RuntimeException", "java/lang/Exception"]).filter goodWord ++ (vx_atS RX3 43 "java/lang/IllegalArgumentException" ["java/lang/RuntimeException", "java/lang/Exception"]).filter goodWord)
def wsX3_setRate : List Cond := .code yX3_setRate cX3_setRate 4 (some .int) :: ([.classLink RX3 32 "java/lang/IndexOutOfBoundsException", .initialized "java/lang/IndexOutOfBoundsException", .classLink RX3 39 "java/lang/IllegalArgumentException", .initialized "java/lang/IllegalArgumentException", .fieldLink RX3 12 "WidowPennies" "tables" "LWidowPennies$Tables;", .methodLink RX3 56 yX1_rate, .instanceMethod yX1_rate, .selects RX1 yX1_rate yX1_rate, .initialized RX1, .code yX1_rate cX1_rate 2 (some .int), .fieldLink RX1 15 "WidowPennies$Tables" "rates" "[I", .methodLink RX3 59 yX1_changeRate, .instanceMethod yX1_changeRate, .selects RX1 yX1_changeRate yX1_changeRate, .code yX1_changeRate cX1_changeRate 3 none] ++ wsX30 ++ wsX10 ++ (vx_atS RX3 36 "java/lang/IndexOutOfBoundsException" ["java/lang/RuntimeException", "java/lang/Exception"]).filter goodWord ++ (vx_atS RX3 43 "java/lang/IllegalArgumentException" ["java/lang/RuntimeException", "java/lang/Exception"]).filter goodWord)
def wsX3_checkAge : List Cond := .code yX3_checkAge cX3_checkAge 1 none :: ([.classLink RX3 39 "java/lang/IllegalArgumentException", .initialized "java/lang/IllegalArgumentException", .methodLink RX3 28 yX3_isAge, .static yX3_isAge, .initialized RX3, .code yX3_isAge cX3_isAge 1 (some .boolean)] ++ (vx_atS RX3 43 "java/lang/IllegalArgumentException" ["java/lang/RuntimeException", "java/lang/Exception"]).filter goodWord)
def wsX3_checkSum : List Cond := .code yX3_checkSum cX3_checkSum 1 none :: ([.classLink RX3 39 "java/lang/IllegalArgumentException", .initialized "java/lang/IllegalArgumentException"] ++ (vx_atS RX3 43 "java/lang/IllegalArgumentException" ["java/lang/RuntimeException", "java/lang/Exception"]).filter goodWord)
def wsX3_checkPutOff : List Cond := .code yX3_checkPutOff cX3_checkPutOff 1 none :: ([.classLink RX3 39 "java/lang/IllegalArgumentException", .initialized "java/lang/IllegalArgumentException"] ++ (vx_atS RX3 43 "java/lang/IllegalArgumentException" ["java/lang/RuntimeException", "java/lang/Exception"]).filter goodWord)
def wsX3_buy_r1 : List Cond := [Cond.classLink RX3 76 "java/lang/IllegalStateException", Cond.initialized "java/lang/IllegalStateException", Cond.fieldLink RX3 21 "WidowPennies" "book" "LWidowPennies$Book;", Cond.fieldLink RX3 12 "WidowPennies" "tables" "LWidowPennies$Tables;", Cond.methodLink RX3 62 yX3_checkAge, Cond.static yX3_checkAge, Cond.initialized RX3, Cond.code yX3_checkAge cX3_checkAge 1 none, Cond.classLink RX3 39 "java/lang/IllegalArgumentException", Cond.initialized "java/lang/IllegalArgumentException", Cond.methodLink RX3 28 yX3_isAge, Cond.static yX3_isAge, Cond.code yX3_isAge cX3_isAge 1 (some .boolean), Cond.methodLink RX3 66 yX3_checkSum, Cond.static yX3_checkSum, Cond.code yX3_checkSum cX3_checkSum 1 none, Cond.methodLink RX3 69 yX3_checkPutOff, Cond.static yX3_checkPutOff, Cond.code yX3_checkPutOff cX3_checkPutOff 1 none, Cond.methodLink RX3 72 yX0_isFull, Cond.instanceMethod yX0_isFull, Cond.selects RX0 yX0_isFull yX0_isFull, Cond.initialized RX0, Cond.code yX0_isFull cX0_isFull 1 (some .boolean)]
def wsX3_buy_r2 : List Cond := [Cond.fieldLink RX0 22 "WidowPennies$Book" "written" "I", Cond.methodLink RX3 81 yX1_worthNow, Cond.instanceMethod yX1_worthNow, Cond.selects RX1 yX1_worthNow yX1_worthNow, Cond.initialized RX1, Cond.code yX1_worthNow cX1_worthNow 3 (some .int), Cond.fieldLink RX1 15 "WidowPennies$Tables" "rates" "[I", Cond.methodLink RX1 22 yX1_worthWith, Cond.instanceMethod yX1_worthWith, Cond.selects RX1 yX1_worthWith yX1_worthWith, Cond.code yX1_worthWith cX1_worthWith 8 (some .int), Cond.methodLink RX1 26 yX1_deathsAt, Cond.instanceMethod yX1_deathsAt, Cond.selects RX1 yX1_deathsAt yX1_deathsAt, Cond.code yX1_deathsAt cX1_deathsAt 2 (some .int), Cond.fieldLink RX1 9 "WidowPennies$Tables" "deaths" "[I", Cond.methodLink RX3 87 yX1_priceOf, Cond.instanceMethod yX1_priceOf, Cond.selects RX1 yX1_priceOf yX1_priceOf, Cond.code yX1_priceOf cX1_priceOf 5 (some .int), Cond.methodLink RX3 90 yX0_write, Cond.instanceMethod yX0_write, Cond.selects RX0 yX0_write yX0_write, Cond.code yX0_write cX0_write 6 (some .int)]
def wsX3_buy_r3 : List Cond := [Cond.fieldLink RX0 34 "WidowPennies$Book" "prices" "I", Cond.methodLink RX0 26 yX0_widowAt, Cond.instanceMethod yX0_widowAt, Cond.selects RX0 yX0_widowAt yX0_widowAt, Cond.code yX0_widowAt cX0_widowAt 2 (some (.object "WidowPennies$Widow")), Cond.fieldLink RX0 17 "WidowPennies$Book" "widows" "[LWidowPennies$Widow;", Cond.methodLink RX0 30 yX2_start, Cond.instanceMethod yX2_start, Cond.selects RX2 yX2_start yX2_start, Cond.initialized RX2, Cond.code yX2_start cX2_start 5 none, Cond.fieldLink RX2 22 "WidowPennies$Widow" "age" "I", Cond.fieldLink RX2 25 "WidowPennies$Widow" "sum" "I", Cond.fieldLink RX2 28 "WidowPennies$Widow" "wait" "I", Cond.fieldLink RX2 19 "WidowPennies$Widow" "held" "I", Cond.fieldLink RX2 9 "WidowPennies$Widow" "state" "I", Cond.fieldLink RX2 31 "WidowPennies$Widow" "got" "I", Cond.fieldLink RX2 34 "WidowPennies$Widow" "cost" "I", Cond.methodLink RX0 37 yX0_takeIn, Cond.instanceMethod yX0_takeIn, Cond.selects RX0 yX0_takeIn yX0_takeIn, Cond.code yX0_takeIn cX0_takeIn 3 none, Cond.fieldLink RX0 41 "WidowPennies$Book" "chest" "I", Cond.constant RX0 44 (99999999)]
def wsX3_buy : List Cond := .code yX3_buy cX3_buy 5 (some .int) :: ((wsX3_buy_r1 ++ (wsX3_buy_r2 ++ wsX3_buy_r3)) ++ wsX30 ++ wsX00 ++ wsX10 ++ wsX20 ++ (vx_atS RX3 80 "java/lang/IllegalStateException" ["java/lang/RuntimeException", "java/lang/Exception"]).filter goodWord ++ (vx_atS RX3 43 "java/lang/IllegalArgumentException" ["java/lang/RuntimeException", "java/lang/Exception"]).filter goodWord)
def wsX3_checkWidow : List Cond := .code yX3_checkWidow cX3_checkWidow 2 none :: ([.classLink RX3 32 "java/lang/IndexOutOfBoundsException", .initialized "java/lang/IndexOutOfBoundsException", .fieldLink RX3 21 "WidowPennies" "book" "LWidowPennies$Book;", .fieldLink RX3 191 "WidowPennies$Book" "written" "I"] ++ wsX30 ++ wsX00 ++ (vx_atS RX3 36 "java/lang/IndexOutOfBoundsException" ["java/lang/RuntimeException", "java/lang/Exception"]).filter goodWord)
def wsX3_die_r1 : List Cond := [Cond.classLink RX3 76 "java/lang/IllegalStateException", Cond.initialized "java/lang/IllegalStateException", Cond.fieldLink RX3 21 "WidowPennies" "book" "LWidowPennies$Book;", Cond.fieldLink RX3 12 "WidowPennies" "tables" "LWidowPennies$Tables;", Cond.fieldLink RX3 112 "WidowPennies$Widow" "state" "I", Cond.methodLink RX3 94 yX3_checkWidow, Cond.instanceMethod yX3_checkWidow, Cond.selects RX3 yX3_checkWidow yX3_checkWidow, Cond.initialized RX3, Cond.code yX3_checkWidow cX3_checkWidow 2 none, Cond.classLink RX3 32 "java/lang/IndexOutOfBoundsException", Cond.initialized "java/lang/IndexOutOfBoundsException", Cond.fieldLink RX3 191 "WidowPennies$Book" "written" "I", Cond.methodLink RX3 97 yX0_widowAt, Cond.instanceMethod yX0_widowAt, Cond.selects RX0 yX0_widowAt yX0_widowAt, Cond.initialized RX0, Cond.code yX0_widowAt cX0_widowAt 2 (some (.object "WidowPennies$Widow")), Cond.fieldLink RX0 17 "WidowPennies$Book" "widows" "[LWidowPennies$Widow;", Cond.methodLink RX3 101 yX2_lives, Cond.instanceMethod yX2_lives, Cond.selects RX2 yX2_lives yX2_lives, Cond.initialized RX2, Cond.code yX2_lives cX2_lives 1 (some .boolean)]
def wsX3_die_r2 : List Cond := [Cond.fieldLink RX2 9 "WidowPennies$Widow" "state" "I", Cond.methodLink RX3 108 yX1_keptNow, Cond.instanceMethod yX1_keptNow, Cond.selects RX1 yX1_keptNow yX1_keptNow, Cond.initialized RX1, Cond.code yX1_keptNow cX1_keptNow 2 (some .int), Cond.fieldLink RX1 15 "WidowPennies$Tables" "rates" "[I", Cond.methodLink RX1 34 yX1_keptWith, Cond.instanceMethod yX1_keptWith, Cond.selects RX1 yX1_keptWith yX1_keptWith, Cond.code yX1_keptWith cX1_keptWith 3 (some .int), Cond.fieldLink RX1 44 "WidowPennies$Widow" "sum" "I", Cond.fieldLink RX1 48 "WidowPennies$Widow" "age" "I", Cond.fieldLink RX1 51 "WidowPennies$Widow" "wait" "I", Cond.methodLink RX1 38 yX2_lives, Cond.methodLink RX1 22 yX1_worthWith, Cond.instanceMethod yX1_worthWith, Cond.selects RX1 yX1_worthWith yX1_worthWith, Cond.code yX1_worthWith cX1_worthWith 8 (some .int), Cond.methodLink RX1 26 yX1_deathsAt, Cond.instanceMethod yX1_deathsAt, Cond.selects RX1 yX1_deathsAt yX1_deathsAt, Cond.code yX1_deathsAt cX1_deathsAt 2 (some .int), Cond.fieldLink RX1 9 "WidowPennies$Tables" "deaths" "[I"]
def wsX3_die_r3 : List Cond := [Cond.static yX3_isAge, Cond.code yX3_isAge cX3_isAge 1 (some .boolean)]
def wsX3_die : List Cond := .code yX3_die cX3_die 4 (some .int) :: ((wsX3_die_r1 ++ (wsX3_die_r2 ++ wsX3_die_r3)) ++ wsX30 ++ wsX20 ++ wsX00 ++ wsX10 ++ (vx_atS RX3 80 "java/lang/IllegalStateException" ["java/lang/RuntimeException", "java/lang/Exception"]).filter goodWord ++ (vx_atS RX3 36 "java/lang/IndexOutOfBoundsException" ["java/lang/RuntimeException", "java/lang/Exception"]).filter goodWord)
def wsX3_giveUp_r1 : List Cond := [Cond.classLink RX3 76 "java/lang/IllegalStateException", Cond.initialized "java/lang/IllegalStateException", Cond.fieldLink RX3 21 "WidowPennies" "book" "LWidowPennies$Book;", Cond.fieldLink RX3 12 "WidowPennies" "tables" "LWidowPennies$Tables;", Cond.fieldLink RX3 112 "WidowPennies$Widow" "state" "I", Cond.fieldLink RX3 124 "WidowPennies$Widow" "got" "I", Cond.methodLink RX3 94 yX3_checkWidow, Cond.instanceMethod yX3_checkWidow, Cond.selects RX3 yX3_checkWidow yX3_checkWidow, Cond.initialized RX3, Cond.code yX3_checkWidow cX3_checkWidow 2 none, Cond.classLink RX3 32 "java/lang/IndexOutOfBoundsException", Cond.initialized "java/lang/IndexOutOfBoundsException", Cond.fieldLink RX3 191 "WidowPennies$Book" "written" "I", Cond.methodLink RX3 97 yX0_widowAt, Cond.instanceMethod yX0_widowAt, Cond.selects RX0 yX0_widowAt yX0_widowAt, Cond.initialized RX0, Cond.code yX0_widowAt cX0_widowAt 2 (some (.object "WidowPennies$Widow")), Cond.fieldLink RX0 17 "WidowPennies$Book" "widows" "[LWidowPennies$Widow;", Cond.methodLink RX3 116 yX2_canGiveUp, Cond.instanceMethod yX2_canGiveUp, Cond.selects RX2 yX2_canGiveUp yX2_canGiveUp, Cond.initialized RX2]
def wsX3_giveUp_r2 : List Cond := [Cond.code yX2_canGiveUp cX2_canGiveUp 1 (some .boolean), Cond.fieldLink RX2 19 "WidowPennies$Widow" "held" "I", Cond.methodLink RX2 15 yX2_lives, Cond.instanceMethod yX2_lives, Cond.selects RX2 yX2_lives yX2_lives, Cond.code yX2_lives cX2_lives 1 (some .boolean), Cond.fieldLink RX2 9 "WidowPennies$Widow" "state" "I", Cond.methodLink RX3 121 yX1_givenBack, Cond.instanceMethod yX1_givenBack, Cond.selects RX1 yX1_givenBack yX1_givenBack, Cond.initialized RX1, Cond.code yX1_givenBack cX1_givenBack 3 (some .int), Cond.fieldLink RX1 15 "WidowPennies$Tables" "rates" "[I", Cond.methodLink RX1 54 yX2_canGiveUp, Cond.methodLink RX1 57 yX1_keptNow, Cond.instanceMethod yX1_keptNow, Cond.selects RX1 yX1_keptNow yX1_keptNow, Cond.code yX1_keptNow cX1_keptNow 2 (some .int), Cond.methodLink RX1 34 yX1_keptWith, Cond.instanceMethod yX1_keptWith, Cond.selects RX1 yX1_keptWith yX1_keptWith, Cond.code yX1_keptWith cX1_keptWith 3 (some .int), Cond.fieldLink RX1 44 "WidowPennies$Widow" "sum" "I", Cond.fieldLink RX1 48 "WidowPennies$Widow" "age" "I"]
def wsX3_giveUp_r3 : List Cond := [Cond.fieldLink RX1 51 "WidowPennies$Widow" "wait" "I", Cond.methodLink RX1 38 yX2_lives, Cond.methodLink RX1 22 yX1_worthWith, Cond.instanceMethod yX1_worthWith, Cond.selects RX1 yX1_worthWith yX1_worthWith, Cond.code yX1_worthWith cX1_worthWith 8 (some .int), Cond.methodLink RX1 26 yX1_deathsAt, Cond.instanceMethod yX1_deathsAt, Cond.selects RX1 yX1_deathsAt yX1_deathsAt, Cond.code yX1_deathsAt cX1_deathsAt 2 (some .int), Cond.fieldLink RX1 9 "WidowPennies$Tables" "deaths" "[I", Cond.static yX3_isAge, Cond.code yX3_isAge cX3_isAge 1 (some .boolean), Cond.methodLink RX3 127 yX0_payOut, Cond.instanceMethod yX0_payOut, Cond.selects RX0 yX0_payOut yX0_payOut, Cond.code yX0_payOut cX0_payOut 2 none, Cond.fieldLink RX0 41 "WidowPennies$Book" "chest" "I", Cond.fieldLink RX0 45 "WidowPennies$Book" "paidOut" "I"]
def wsX3_giveUp : List Cond := .code yX3_giveUp cX3_giveUp 4 (some .int) :: ((wsX3_giveUp_r1 ++ (wsX3_giveUp_r2 ++ wsX3_giveUp_r3)) ++ wsX30 ++ wsX20 ++ wsX00 ++ wsX10 ++ (vx_atS RX3 80 "java/lang/IllegalStateException" ["java/lang/RuntimeException", "java/lang/Exception"]).filter goodWord ++ (vx_atS RX3 36 "java/lang/IndexOutOfBoundsException" ["java/lang/RuntimeException", "java/lang/Exception"]).filter goodWord)
def wsX3_put : List Cond := .code yX3_put cX3_put 2 (some .int) :: ([.classLink RX3 39 "java/lang/IllegalArgumentException", .initialized "java/lang/IllegalArgumentException", .constant RX3 130 (-99999), .constant RX3 131 (99999), .fieldLink RX3 21 "WidowPennies" "book" "LWidowPennies$Book;", .fieldLink RX3 137 "WidowPennies$Book" "chest" "I", .methodLink RX3 134 yX0_takeIn, .instanceMethod yX0_takeIn, .selects RX0 yX0_takeIn yX0_takeIn, .initialized RX0, .code yX0_takeIn cX0_takeIn 3 none, .fieldLink RX0 41 "WidowPennies$Book" "chest" "I", .constant RX0 44 (99999999)] ++ wsX30 ++ wsX00 ++ (vx_atS RX3 43 "java/lang/IllegalArgumentException" ["java/lang/RuntimeException", "java/lang/Exception"]).filter goodWord)
def wsX3_price_r1 : List Cond := [Cond.fieldLink RX3 12 "WidowPennies" "tables" "LWidowPennies$Tables;", Cond.methodLink RX3 62 yX3_checkAge, Cond.static yX3_checkAge, Cond.initialized RX3, Cond.code yX3_checkAge cX3_checkAge 1 none, Cond.classLink RX3 39 "java/lang/IllegalArgumentException", Cond.initialized "java/lang/IllegalArgumentException", Cond.methodLink RX3 28 yX3_isAge, Cond.static yX3_isAge, Cond.code yX3_isAge cX3_isAge 1 (some .boolean), Cond.methodLink RX3 66 yX3_checkSum, Cond.static yX3_checkSum, Cond.code yX3_checkSum cX3_checkSum 1 none, Cond.methodLink RX3 69 yX3_checkPutOff, Cond.static yX3_checkPutOff, Cond.code yX3_checkPutOff cX3_checkPutOff 1 none, Cond.methodLink RX3 81 yX1_worthNow, Cond.instanceMethod yX1_worthNow, Cond.selects RX1 yX1_worthNow yX1_worthNow, Cond.initialized RX1, Cond.code yX1_worthNow cX1_worthNow 3 (some .int), Cond.fieldLink RX1 15 "WidowPennies$Tables" "rates" "[I", Cond.methodLink RX1 22 yX1_worthWith, Cond.instanceMethod yX1_worthWith]
def wsX3_price_r2 : List Cond := [Cond.selects RX1 yX1_worthWith yX1_worthWith, Cond.code yX1_worthWith cX1_worthWith 8 (some .int), Cond.methodLink RX1 26 yX1_deathsAt, Cond.instanceMethod yX1_deathsAt, Cond.selects RX1 yX1_deathsAt yX1_deathsAt, Cond.code yX1_deathsAt cX1_deathsAt 2 (some .int), Cond.fieldLink RX1 9 "WidowPennies$Tables" "deaths" "[I", Cond.methodLink RX3 87 yX1_priceOf, Cond.instanceMethod yX1_priceOf, Cond.selects RX1 yX1_priceOf yX1_priceOf, Cond.code yX1_priceOf cX1_priceOf 5 (some .int)]
def wsX3_price : List Cond := .code yX3_price cX3_price 4 (some .int) :: ((wsX3_price_r1 ++ wsX3_price_r2) ++ wsX30 ++ wsX10 ++ (vx_atS RX3 43 "java/lang/IllegalArgumentException" ["java/lang/RuntimeException", "java/lang/Exception"]).filter goodWord)
def wsX3_told_r1 : List Cond := [Cond.classLink RX3 32 "java/lang/IndexOutOfBoundsException", Cond.initialized "java/lang/IndexOutOfBoundsException", Cond.fieldLink RX3 12 "WidowPennies" "tables" "LWidowPennies$Tables;", Cond.fieldLink RX3 21 "WidowPennies" "book" "LWidowPennies$Book;", Cond.methodLink RX3 94 yX3_checkWidow, Cond.instanceMethod yX3_checkWidow, Cond.selects RX3 yX3_checkWidow yX3_checkWidow, Cond.initialized RX3, Cond.code yX3_checkWidow cX3_checkWidow 2 none, Cond.fieldLink RX3 191 "WidowPennies$Book" "written" "I", Cond.methodLink RX3 97 yX0_widowAt, Cond.instanceMethod yX0_widowAt, Cond.selects RX0 yX0_widowAt yX0_widowAt, Cond.initialized RX0, Cond.code yX0_widowAt cX0_widowAt 2 (some (.object "WidowPennies$Widow")), Cond.fieldLink RX0 17 "WidowPennies$Book" "widows" "[LWidowPennies$Widow;", Cond.methodLink RX3 142 yX1_tellOf, Cond.instanceMethod yX1_tellOf, Cond.selects RX1 yX1_tellOf yX1_tellOf, Cond.initialized RX1, Cond.code yX1_tellOf cX1_tellOf 3 (some .int), Cond.fieldLink RX1 48 "WidowPennies$Widow" "age" "I", Cond.fieldLink RX1 44 "WidowPennies$Widow" "sum" "I", Cond.fieldLink RX1 51 "WidowPennies$Widow" "wait" "I"]
def wsX3_told_r2 : List Cond := [Cond.fieldLink RX1 61 "WidowPennies$Widow" "held" "I", Cond.fieldLink RX1 64 "WidowPennies$Widow" "state" "I", Cond.fieldLink RX1 67 "WidowPennies$Widow" "got" "I", Cond.fieldLink RX1 70 "WidowPennies$Widow" "cost" "I", Cond.methodLink RX1 57 yX1_keptNow, Cond.instanceMethod yX1_keptNow, Cond.selects RX1 yX1_keptNow yX1_keptNow, Cond.code yX1_keptNow cX1_keptNow 2 (some .int), Cond.fieldLink RX1 15 "WidowPennies$Tables" "rates" "[I", Cond.methodLink RX1 34 yX1_keptWith, Cond.instanceMethod yX1_keptWith, Cond.selects RX1 yX1_keptWith yX1_keptWith, Cond.code yX1_keptWith cX1_keptWith 3 (some .int), Cond.methodLink RX1 38 yX2_lives, Cond.instanceMethod yX2_lives, Cond.selects RX2 yX2_lives yX2_lives, Cond.initialized RX2, Cond.code yX2_lives cX2_lives 1 (some .boolean), Cond.fieldLink RX2 9 "WidowPennies$Widow" "state" "I", Cond.methodLink RX1 22 yX1_worthWith, Cond.instanceMethod yX1_worthWith, Cond.selects RX1 yX1_worthWith yX1_worthWith, Cond.code yX1_worthWith cX1_worthWith 8 (some .int), Cond.methodLink RX1 26 yX1_deathsAt]
def wsX3_told_r3 : List Cond := [Cond.instanceMethod yX1_deathsAt, Cond.selects RX1 yX1_deathsAt yX1_deathsAt, Cond.code yX1_deathsAt cX1_deathsAt 2 (some .int), Cond.fieldLink RX1 9 "WidowPennies$Tables" "deaths" "[I", Cond.static yX3_isAge, Cond.code yX3_isAge cX3_isAge 1 (some .boolean), Cond.methodLink RX1 73 yX1_givenBack, Cond.instanceMethod yX1_givenBack, Cond.selects RX1 yX1_givenBack yX1_givenBack, Cond.code yX1_givenBack cX1_givenBack 3 (some .int), Cond.methodLink RX1 54 yX2_canGiveUp, Cond.instanceMethod yX2_canGiveUp, Cond.selects RX2 yX2_canGiveUp yX2_canGiveUp, Cond.code yX2_canGiveUp cX2_canGiveUp 1 (some .boolean), Cond.fieldLink RX2 19 "WidowPennies$Widow" "held" "I", Cond.methodLink RX2 15 yX2_lives]
def wsX3_told : List Cond := .code yX3_told cX3_told 3 (some .int) :: ((wsX3_told_r1 ++ (wsX3_told_r2 ++ wsX3_told_r3)) ++ wsX30 ++ wsX00 ++ wsX20 ++ wsX10 ++ (vx_atS RX3 36 "java/lang/IndexOutOfBoundsException" ["java/lang/RuntimeException", "java/lang/Exception"]).filter goodWord)
def wsX3_count_r1 : List Cond := [Cond.classLink RX3 32 "java/lang/IndexOutOfBoundsException", Cond.initialized "java/lang/IndexOutOfBoundsException", Cond.fieldLink RX3 21 "WidowPennies" "book" "LWidowPennies$Book;", Cond.methodLink RX3 146 yX0_tell, Cond.instanceMethod yX0_tell, Cond.selects RX0 yX0_tell yX0_tell, Cond.initialized RX0, Cond.code yX0_tell cX0_tell 2 (some .int), Cond.fieldLink RX0 48 "WidowPennies$Book" "year" "I", Cond.fieldLink RX0 22 "WidowPennies$Book" "written" "I", Cond.fieldLink RX0 41 "WidowPennies$Book" "chest" "I", Cond.fieldLink RX0 9 "WidowPennies$Book" "tables" "LWidowPennies$Tables;", Cond.fieldLink RX0 45 "WidowPennies$Book" "paidOut" "I", Cond.fieldLink RX0 34 "WidowPennies$Book" "prices" "I", Cond.methodLink RX0 77 yX0_living, Cond.instanceMethod yX0_living, Cond.selects RX0 yX0_living yX0_living, Cond.code yX0_living cX0_living 3 (some .int), Cond.methodLink RX0 26 yX0_widowAt, Cond.instanceMethod yX0_widowAt, Cond.selects RX0 yX0_widowAt yX0_widowAt, Cond.code yX0_widowAt cX0_widowAt 2 (some (.object "WidowPennies$Widow")), Cond.fieldLink RX0 17 "WidowPennies$Book" "widows" "[LWidowPennies$Widow;", Cond.methodLink RX0 66 yX2_lives]
def wsX3_count_r2 : List Cond := [Cond.instanceMethod yX2_lives, Cond.selects RX2 yX2_lives yX2_lives, Cond.initialized RX2, Cond.code yX2_lives cX2_lives 1 (some .boolean), Cond.fieldLink RX2 9 "WidowPennies$Widow" "state" "I", Cond.methodLink RX0 58 yX1_rate, Cond.instanceMethod yX1_rate, Cond.selects RX1 yX1_rate yX1_rate, Cond.initialized RX1, Cond.code yX1_rate cX1_rate 2 (some .int), Cond.fieldLink RX1 15 "WidowPennies$Tables" "rates" "[I", Cond.methodLink RX0 80 yX0_keptForAll, Cond.instanceMethod yX0_keptForAll, Cond.selects RX0 yX0_keptForAll yX0_keptForAll, Cond.code yX0_keptForAll cX0_keptForAll 4 (some .int), Cond.methodLink RX0 86 yX1_keptWith, Cond.instanceMethod yX1_keptWith, Cond.selects RX1 yX1_keptWith yX1_keptWith, Cond.code yX1_keptWith cX1_keptWith 3 (some .int), Cond.fieldLink RX1 44 "WidowPennies$Widow" "sum" "I", Cond.fieldLink RX1 48 "WidowPennies$Widow" "age" "I", Cond.fieldLink RX1 51 "WidowPennies$Widow" "wait" "I", Cond.methodLink RX1 38 yX2_lives, Cond.methodLink RX1 22 yX1_worthWith]
def wsX3_count_r3 : List Cond := [Cond.instanceMethod yX1_worthWith, Cond.selects RX1 yX1_worthWith yX1_worthWith, Cond.code yX1_worthWith cX1_worthWith 8 (some .int), Cond.methodLink RX1 26 yX1_deathsAt, Cond.instanceMethod yX1_deathsAt, Cond.selects RX1 yX1_deathsAt yX1_deathsAt, Cond.code yX1_deathsAt cX1_deathsAt 2 (some .int), Cond.fieldLink RX1 9 "WidowPennies$Tables" "deaths" "[I", Cond.static yX3_isAge, Cond.initialized RX3, Cond.code yX3_isAge cX3_isAge 1 (some .boolean), Cond.methodLink RX0 83 yX0_sumsDue, Cond.instanceMethod yX0_sumsDue, Cond.selects RX0 yX0_sumsDue yX0_sumsDue, Cond.code yX0_sumsDue cX0_sumsDue 4 (some .int), Cond.fieldLink RX0 93 "WidowPennies$Widow" "wait" "I", Cond.fieldLink RX0 96 "WidowPennies$Widow" "sum" "I"]
def wsX3_count : List Cond := .code yX3_count cX3_count 2 (some .int) :: ((wsX3_count_r1 ++ (wsX3_count_r2 ++ wsX3_count_r3)) ++ wsX30 ++ wsX00 ++ wsX20 ++ wsX10 ++ (vx_atS RX3 36 "java/lang/IndexOutOfBoundsException" ["java/lang/RuntimeException", "java/lang/Exception"]).filter goodWord)
def wsX3_checkYearsPassing : List Cond := .code yX3_checkYearsPassing cX3_checkYearsPassing 1 none :: ([.classLink RX3 39 "java/lang/IllegalArgumentException", .initialized "java/lang/IllegalArgumentException"] ++ (vx_atS RX3 43 "java/lang/IllegalArgumentException" ["java/lang/RuntimeException", "java/lang/Exception"]).filter goodWord)
def wsX3_pass_r1 : List Cond := [Cond.fieldLink RX3 21 "WidowPennies" "book" "LWidowPennies$Book;", Cond.fieldLink RX3 157 "WidowPennies$Book" "paidOut" "I", Cond.methodLink RX3 154 yX3_checkYearsPassing, Cond.static yX3_checkYearsPassing, Cond.initialized RX3, Cond.code yX3_checkYearsPassing cX3_checkYearsPassing 1 none, Cond.classLink RX3 39 "java/lang/IllegalArgumentException", Cond.initialized "java/lang/IllegalArgumentException", Cond.methodLink RX3 160 yX0_passYears, Cond.instanceMethod yX0_passYears, Cond.selects RX0 yX0_passYears yX0_passYears, Cond.initialized RX0, Cond.code yX0_passYears cX0_passYears 3 none, Cond.methodLink RX0 55 yX0_passYear, Cond.instanceMethod yX0_passYear, Cond.selects RX0 yX0_passYear yX0_passYear, Cond.code yX0_passYear cX0_passYear 3 none, Cond.fieldLink RX0 41 "WidowPennies$Book" "chest" "I", Cond.fieldLink RX0 9 "WidowPennies$Book" "tables" "LWidowPennies$Tables;", Cond.constantLong RX0 64 (1000), Cond.fieldLink RX0 22 "WidowPennies$Book" "written" "I", Cond.fieldLink RX0 48 "WidowPennies$Book" "year" "I", Cond.methodLink RX0 58 yX1_rate, Cond.instanceMethod yX1_rate]
def wsX3_pass_r2 : List Cond := [Cond.selects RX1 yX1_rate yX1_rate, Cond.initialized RX1, Cond.code yX1_rate cX1_rate 2 (some .int), Cond.fieldLink RX1 15 "WidowPennies$Tables" "rates" "[I", Cond.methodLink RX0 37 yX0_takeIn, Cond.instanceMethod yX0_takeIn, Cond.selects RX0 yX0_takeIn yX0_takeIn, Cond.code yX0_takeIn cX0_takeIn 3 none, Cond.constant RX0 44 (99999999), Cond.methodLink RX0 26 yX0_widowAt, Cond.instanceMethod yX0_widowAt, Cond.selects RX0 yX0_widowAt yX0_widowAt, Cond.code yX0_widowAt cX0_widowAt 2 (some (.object "WidowPennies$Widow")), Cond.fieldLink RX0 17 "WidowPennies$Book" "widows" "[LWidowPennies$Widow;", Cond.methodLink RX0 66 yX2_lives, Cond.instanceMethod yX2_lives, Cond.selects RX2 yX2_lives yX2_lives, Cond.initialized RX2, Cond.code yX2_lives cX2_lives 1 (some .boolean), Cond.fieldLink RX2 9 "WidowPennies$Widow" "state" "I", Cond.methodLink RX0 70 yX2_liveYear, Cond.instanceMethod yX2_liveYear, Cond.selects RX2 yX2_liveYear yX2_liveYear, Cond.code yX2_liveYear cX2_liveYear 2 (some .int)]
def wsX3_pass_r3 : List Cond := [Cond.fieldLink RX2 28 "WidowPennies$Widow" "wait" "I", Cond.fieldLink RX2 25 "WidowPennies$Widow" "sum" "I", Cond.fieldLink RX2 31 "WidowPennies$Widow" "got" "I", Cond.fieldLink RX2 22 "WidowPennies$Widow" "age" "I", Cond.fieldLink RX2 19 "WidowPennies$Widow" "held" "I", Cond.methodLink RX0 74 yX0_payOut, Cond.instanceMethod yX0_payOut, Cond.selects RX0 yX0_payOut yX0_payOut, Cond.code yX0_payOut cX0_payOut 2 none, Cond.fieldLink RX0 45 "WidowPennies$Book" "paidOut" "I"]
def wsX3_pass : List Cond := .code yX3_pass cX3_pass 3 (some .int) :: ((wsX3_pass_r1 ++ (wsX3_pass_r2 ++ wsX3_pass_r3)) ++ wsX30 ++ wsX00 ++ wsX10 ++ wsX20 ++ (vx_atS RX3 43 "java/lang/IllegalArgumentException" ["java/lang/RuntimeException", "java/lang/Exception"]).filter goodWord)
def wsX3_mean : List Cond := .code yX3_mean cX3_mean 2 (some .double) :: ([.fieldLink RX3 21 "WidowPennies" "book" "LWidowPennies$Book;", .methodLink RX3 180 yX0_living, .instanceMethod yX0_living, .selects RX0 yX0_living yX0_living, .initialized RX0, .code yX0_living cX0_living 3 (some .int), .fieldLink RX0 22 "WidowPennies$Book" "written" "I", .methodLink RX0 26 yX0_widowAt, .instanceMethod yX0_widowAt, .selects RX0 yX0_widowAt yX0_widowAt, .code yX0_widowAt cX0_widowAt 2 (some (.object "WidowPennies$Widow")), .fieldLink RX0 17 "WidowPennies$Book" "widows" "[LWidowPennies$Widow;", .methodLink RX0 66 yX2_lives, .instanceMethod yX2_lives, .selects RX2 yX2_lives yX2_lives, .initialized RX2, .code yX2_lives cX2_lives 1 (some .boolean), .fieldLink RX2 9 "WidowPennies$Widow" "state" "I", .methodLink RX3 184 yX0_agesOfLiving, .instanceMethod yX0_agesOfLiving, .selects RX0 yX0_agesOfLiving yX0_agesOfLiving, .code yX0_agesOfLiving cX0_agesOfLiving 4 (some .int), .fieldLink RX0 90 "WidowPennies$Widow" "age" "I"] ++ wsX30 ++ wsX00 ++ wsX20)
def wsX4_init : List Cond := .code yX4_init cX4_init 2 none :: ([.methodLink RX4 1 objectInit, .instanceMethod objectInit, .code objectInit ⟨#[0xb1]⟩ 1 none, .arrayClass .int, .fieldLink RX4 7 "WidowPenniesLaw$Sim" "rates" "[I", .fieldLink RX4 13 "WidowPenniesLaw$Sim" "deaths" "[I", .classLink RX4 16 RX5, .fieldLink RX4 18 "WidowPenniesLaw$Sim" "all" "[LWidowPenniesLaw$Widow;"] ++ wsX40)
def wsX4_worth : List Cond := .code yX4_worth cX4_worth 6 (some .int) :: ([.fieldLink RX4 13 "WidowPenniesLaw$Sim" "deaths" "[I", .fieldLink RX4 7 "WidowPenniesLaw$Sim" "rates" "[I"] ++ wsX40)
def wsX4_price : List Cond := .code yX4_price cX4_price 6 (some .int) :: ([.fieldLink RX4 7 "WidowPenniesLaw$Sim" "rates" "[I", .methodLink RX4 42 yX4_worth, .instanceMethod yX4_worth, .selects RX4 yX4_worth yX4_worth, .initialized RX4, .code yX4_worth cX4_worth 6 (some .int), .fieldLink RX4 13 "WidowPenniesLaw$Sim" "deaths" "[I"] ++ wsX40)
def wsX4_kept : List Cond := .code yX4_kept cX4_kept 2 (some .int) :: ([.fieldLink RX4 46 "WidowPenniesLaw$Widow" "state" "I", .fieldLink RX4 49 "WidowPenniesLaw$Widow" "sum" "I", .fieldLink RX4 52 "WidowPenniesLaw$Widow" "age" "I", .fieldLink RX4 55 "WidowPenniesLaw$Widow" "waits" "I", .methodLink RX4 42 yX4_worth, .instanceMethod yX4_worth, .selects RX4 yX4_worth yX4_worth, .initialized RX4, .code yX4_worth cX4_worth 6 (some .int), .fieldLink RX4 13 "WidowPenniesLaw$Sim" "deaths" "[I", .fieldLink RX4 7 "WidowPenniesLaw$Sim" "rates" "[I"] ++ wsX50 ++ wsX40)
def wsX4_back : List Cond := .code yX4_back cX4_back 3 (some .int) :: ([.fieldLink RX4 46 "WidowPenniesLaw$Widow" "state" "I", .fieldLink RX4 62 "WidowPenniesLaw$Widow" "since" "I", .fieldLink RX4 7 "WidowPenniesLaw$Sim" "rates" "[I", .methodLink RX4 58 yX4_kept, .instanceMethod yX4_kept, .selects RX4 yX4_kept yX4_kept, .initialized RX4, .code yX4_kept cX4_kept 2 (some .int), .fieldLink RX4 49 "WidowPenniesLaw$Widow" "sum" "I", .fieldLink RX4 52 "WidowPenniesLaw$Widow" "age" "I", .fieldLink RX4 55 "WidowPenniesLaw$Widow" "waits" "I", .methodLink RX4 42 yX4_worth, .instanceMethod yX4_worth, .selects RX4 yX4_worth yX4_worth, .code yX4_worth cX4_worth 6 (some .int), .fieldLink RX4 13 "WidowPenniesLaw$Sim" "deaths" "[I"] ++ wsX50 ++ wsX40)
def wsX4_keptForAll : List Cond := .code yX4_keptForAll cX4_keptForAll 6 (some .int) :: ([.fieldLink RX4 18 "WidowPenniesLaw$Sim" "all" "[LWidowPenniesLaw$Widow;", .methodLink RX4 58 yX4_kept, .instanceMethod yX4_kept, .selects RX4 yX4_kept yX4_kept, .initialized RX4, .code yX4_kept cX4_kept 2 (some .int), .fieldLink RX4 46 "WidowPenniesLaw$Widow" "state" "I", .fieldLink RX4 49 "WidowPenniesLaw$Widow" "sum" "I", .fieldLink RX4 52 "WidowPenniesLaw$Widow" "age" "I", .fieldLink RX4 55 "WidowPenniesLaw$Widow" "waits" "I", .methodLink RX4 42 yX4_worth, .instanceMethod yX4_worth, .selects RX4 yX4_worth yX4_worth, .code yX4_worth cX4_worth 6 (some .int), .fieldLink RX4 13 "WidowPenniesLaw$Sim" "deaths" "[I", .fieldLink RX4 7 "WidowPenniesLaw$Sim" "rates" "[I"] ++ wsX40 ++ wsX50)
def wsX4_come : List Cond := .code yX4_come cX4_come 3 none :: ([.fieldLink RX4 27 "WidowPenniesLaw$Sim" "chest" "I", .constantLong RX4 65 (99999999), .constant RX4 67 (99999999)] ++ wsX40)
def wsX4_pass : List Cond := .code yX4_pass cX4_pass 6 (some .int) :: ([.fieldLink RX4 27 "WidowPenniesLaw$Sim" "chest" "I", .fieldLink RX4 7 "WidowPenniesLaw$Sim" "rates" "[I", .constantLong RX4 68 (1000), .fieldLink RX4 18 "WidowPenniesLaw$Sim" "all" "[LWidowPenniesLaw$Widow;", .fieldLink RX4 46 "WidowPenniesLaw$Widow" "state" "I", .fieldLink RX4 55 "WidowPenniesLaw$Widow" "waits" "I", .fieldLink RX4 74 "WidowPenniesLaw$Widow" "got" "I", .fieldLink RX4 49 "WidowPenniesLaw$Widow" "sum" "I", .fieldLink RX4 52 "WidowPenniesLaw$Widow" "age" "I", .fieldLink RX4 62 "WidowPenniesLaw$Widow" "since" "I", .fieldLink RX4 30 "WidowPenniesLaw$Sim" "out" "I", .fieldLink RX4 23 "WidowPenniesLaw$Sim" "year" "I", .methodLink RX4 70 yX4_come, .instanceMethod yX4_come, .selects RX4 yX4_come yX4_come, .initialized RX4, .code yX4_come cX4_come 3 none, .constantLong RX4 65 (99999999), .constant RX4 67 (99999999)] ++ wsX40 ++ wsX50)
def wsX4_counted_r1 : List Cond := [Cond.fieldLink RX4 18 "WidowPenniesLaw$Sim" "all" "[LWidowPenniesLaw$Widow;", Cond.fieldLink RX4 46 "WidowPenniesLaw$Widow" "state" "I", Cond.fieldLink RX4 55 "WidowPenniesLaw$Widow" "waits" "I", Cond.fieldLink RX4 49 "WidowPenniesLaw$Widow" "sum" "I", Cond.fieldLink RX4 77 "WidowPenniesLaw$Widow" "price" "I", Cond.arrayClass .int, Cond.fieldLink RX4 23 "WidowPenniesLaw$Sim" "year" "I", Cond.fieldLink RX4 27 "WidowPenniesLaw$Sim" "chest" "I", Cond.fieldLink RX4 30 "WidowPenniesLaw$Sim" "out" "I", Cond.methodLink RX4 80 yX4_keptForAll, Cond.instanceMethod yX4_keptForAll, Cond.selects RX4 yX4_keptForAll yX4_keptForAll, Cond.initialized RX4, Cond.code yX4_keptForAll cX4_keptForAll 6 (some .int), Cond.methodLink RX4 58 yX4_kept, Cond.instanceMethod yX4_kept, Cond.selects RX4 yX4_kept yX4_kept, Cond.code yX4_kept cX4_kept 2 (some .int), Cond.fieldLink RX4 52 "WidowPenniesLaw$Widow" "age" "I", Cond.methodLink RX4 42 yX4_worth, Cond.instanceMethod yX4_worth, Cond.selects RX4 yX4_worth yX4_worth, Cond.code yX4_worth cX4_worth 6 (some .int), Cond.fieldLink RX4 13 "WidowPenniesLaw$Sim" "deaths" "[I"]
def wsX4_counted_r2 : List Cond := [Cond.fieldLink RX4 7 "WidowPenniesLaw$Sim" "rates" "[I"]
def wsX4_counted : List Cond := .code yX4_counted cX4_counted 9 (some .int) :: ((wsX4_counted_r1 ++ wsX4_counted_r2) ++ wsX40 ++ wsX50)
def wsX4_isSame_r1 : List Cond := [Cond.fieldLink RX4 18 "WidowPenniesLaw$Sim" "all" "[LWidowPenniesLaw$Widow;", Cond.arrayClass .int, Cond.fieldLink RX4 52 "WidowPenniesLaw$Widow" "age" "I", Cond.fieldLink RX4 49 "WidowPenniesLaw$Widow" "sum" "I", Cond.fieldLink RX4 55 "WidowPenniesLaw$Widow" "waits" "I", Cond.fieldLink RX4 62 "WidowPenniesLaw$Widow" "since" "I", Cond.fieldLink RX4 46 "WidowPenniesLaw$Widow" "state" "I", Cond.fieldLink RX4 74 "WidowPenniesLaw$Widow" "got" "I", Cond.fieldLink RX4 77 "WidowPenniesLaw$Widow" "price" "I", Cond.methodLink RX4 58 yX4_kept, Cond.instanceMethod yX4_kept, Cond.selects RX4 yX4_kept yX4_kept, Cond.initialized RX4, Cond.code yX4_kept cX4_kept 2 (some .int), Cond.methodLink RX4 42 yX4_worth, Cond.instanceMethod yX4_worth, Cond.selects RX4 yX4_worth yX4_worth, Cond.code yX4_worth cX4_worth 6 (some .int), Cond.fieldLink RX4 13 "WidowPenniesLaw$Sim" "deaths" "[I", Cond.fieldLink RX4 7 "WidowPenniesLaw$Sim" "rates" "[I", Cond.methodLink RX4 84 yX4_back, Cond.instanceMethod yX4_back, Cond.selects RX4 yX4_back yX4_back, Cond.code yX4_back cX4_back 3 (some .int)]
def wsX4_isSame_r2 : List Cond := [Cond.methodLink RX4 87 yX3_told, Cond.instanceMethod yX3_told, Cond.selects RX3 yX3_told yX3_told, Cond.initialized RX3, Cond.code yX3_told cX3_told 3 (some .int), Cond.classLink RX3 32 "java/lang/IndexOutOfBoundsException", Cond.initialized "java/lang/IndexOutOfBoundsException", Cond.fieldLink RX3 12 "WidowPennies" "tables" "LWidowPennies$Tables;", Cond.fieldLink RX3 21 "WidowPennies" "book" "LWidowPennies$Book;", Cond.methodLink RX3 94 yX3_checkWidow, Cond.instanceMethod yX3_checkWidow, Cond.selects RX3 yX3_checkWidow yX3_checkWidow, Cond.code yX3_checkWidow cX3_checkWidow 2 none, Cond.fieldLink RX3 191 "WidowPennies$Book" "written" "I", Cond.methodLink RX3 97 yX0_widowAt, Cond.instanceMethod yX0_widowAt, Cond.selects RX0 yX0_widowAt yX0_widowAt, Cond.initialized RX0, Cond.code yX0_widowAt cX0_widowAt 2 (some (.object "WidowPennies$Widow")), Cond.fieldLink RX0 17 "WidowPennies$Book" "widows" "[LWidowPennies$Widow;", Cond.methodLink RX3 142 yX1_tellOf, Cond.instanceMethod yX1_tellOf, Cond.selects RX1 yX1_tellOf yX1_tellOf, Cond.initialized RX1]
def wsX4_isSame_r3 : List Cond := [Cond.code yX1_tellOf cX1_tellOf 3 (some .int), Cond.fieldLink RX1 48 "WidowPennies$Widow" "age" "I", Cond.fieldLink RX1 44 "WidowPennies$Widow" "sum" "I", Cond.fieldLink RX1 51 "WidowPennies$Widow" "wait" "I", Cond.fieldLink RX1 61 "WidowPennies$Widow" "held" "I", Cond.fieldLink RX1 64 "WidowPennies$Widow" "state" "I", Cond.fieldLink RX1 67 "WidowPennies$Widow" "got" "I", Cond.fieldLink RX1 70 "WidowPennies$Widow" "cost" "I", Cond.methodLink RX1 57 yX1_keptNow, Cond.instanceMethod yX1_keptNow, Cond.selects RX1 yX1_keptNow yX1_keptNow, Cond.code yX1_keptNow cX1_keptNow 2 (some .int), Cond.fieldLink RX1 15 "WidowPennies$Tables" "rates" "[I", Cond.methodLink RX1 34 yX1_keptWith, Cond.instanceMethod yX1_keptWith, Cond.selects RX1 yX1_keptWith yX1_keptWith, Cond.code yX1_keptWith cX1_keptWith 3 (some .int), Cond.methodLink RX1 38 yX2_lives, Cond.instanceMethod yX2_lives, Cond.selects RX2 yX2_lives yX2_lives, Cond.initialized RX2, Cond.code yX2_lives cX2_lives 1 (some .boolean), Cond.fieldLink RX2 9 "WidowPennies$Widow" "state" "I", Cond.methodLink RX1 22 yX1_worthWith]
def wsX4_isSame_r4 : List Cond := [Cond.instanceMethod yX1_worthWith, Cond.selects RX1 yX1_worthWith yX1_worthWith, Cond.code yX1_worthWith cX1_worthWith 8 (some .int), Cond.methodLink RX1 26 yX1_deathsAt, Cond.instanceMethod yX1_deathsAt, Cond.selects RX1 yX1_deathsAt yX1_deathsAt, Cond.code yX1_deathsAt cX1_deathsAt 2 (some .int), Cond.fieldLink RX1 9 "WidowPennies$Tables" "deaths" "[I", Cond.static yX3_isAge, Cond.code yX3_isAge cX3_isAge 1 (some .boolean), Cond.methodLink RX1 73 yX1_givenBack, Cond.instanceMethod yX1_givenBack, Cond.selects RX1 yX1_givenBack yX1_givenBack, Cond.code yX1_givenBack cX1_givenBack 3 (some .int), Cond.methodLink RX1 54 yX2_canGiveUp, Cond.instanceMethod yX2_canGiveUp, Cond.selects RX2 yX2_canGiveUp yX2_canGiveUp, Cond.code yX2_canGiveUp cX2_canGiveUp 1 (some .boolean), Cond.fieldLink RX2 19 "WidowPennies$Widow" "held" "I", Cond.methodLink RX2 15 yX2_lives, Cond.methodLink RX4 92 yX3_count, Cond.instanceMethod yX3_count, Cond.selects RX3 yX3_count yX3_count, Cond.code yX3_count cX3_count 2 (some .int)]
def wsX4_isSame_r5 : List Cond := [Cond.methodLink RX3 146 yX0_tell, Cond.instanceMethod yX0_tell, Cond.selects RX0 yX0_tell yX0_tell, Cond.code yX0_tell cX0_tell 2 (some .int), Cond.fieldLink RX0 48 "WidowPennies$Book" "year" "I", Cond.fieldLink RX0 22 "WidowPennies$Book" "written" "I", Cond.fieldLink RX0 41 "WidowPennies$Book" "chest" "I", Cond.fieldLink RX0 9 "WidowPennies$Book" "tables" "LWidowPennies$Tables;", Cond.fieldLink RX0 45 "WidowPennies$Book" "paidOut" "I", Cond.fieldLink RX0 34 "WidowPennies$Book" "prices" "I", Cond.methodLink RX0 77 yX0_living, Cond.instanceMethod yX0_living, Cond.selects RX0 yX0_living yX0_living, Cond.code yX0_living cX0_living 3 (some .int), Cond.methodLink RX0 26 yX0_widowAt, Cond.methodLink RX0 66 yX2_lives, Cond.methodLink RX0 58 yX1_rate, Cond.instanceMethod yX1_rate, Cond.selects RX1 yX1_rate yX1_rate, Cond.code yX1_rate cX1_rate 2 (some .int), Cond.methodLink RX0 80 yX0_keptForAll, Cond.instanceMethod yX0_keptForAll, Cond.selects RX0 yX0_keptForAll yX0_keptForAll, Cond.code yX0_keptForAll cX0_keptForAll 4 (some .int)]
def wsX4_isSame_r6 : List Cond := [Cond.methodLink RX0 86 yX1_keptWith, Cond.methodLink RX0 83 yX0_sumsDue, Cond.instanceMethod yX0_sumsDue, Cond.selects RX0 yX0_sumsDue yX0_sumsDue, Cond.code yX0_sumsDue cX0_sumsDue 4 (some .int), Cond.fieldLink RX0 93 "WidowPennies$Widow" "wait" "I", Cond.fieldLink RX0 96 "WidowPennies$Widow" "sum" "I", Cond.methodLink RX4 96 yX4_counted, Cond.instanceMethod yX4_counted, Cond.selects RX4 yX4_counted yX4_counted, Cond.code yX4_counted cX4_counted 9 (some .int), Cond.fieldLink RX4 23 "WidowPenniesLaw$Sim" "year" "I", Cond.fieldLink RX4 27 "WidowPenniesLaw$Sim" "chest" "I", Cond.fieldLink RX4 30 "WidowPenniesLaw$Sim" "out" "I", Cond.methodLink RX4 80 yX4_keptForAll, Cond.instanceMethod yX4_keptForAll, Cond.selects RX4 yX4_keptForAll yX4_keptForAll, Cond.code yX4_keptForAll cX4_keptForAll 6 (some .int), Cond.methodLink RX4 99 yX3_mean, Cond.instanceMethod yX3_mean, Cond.selects RX3 yX3_mean yX3_mean, Cond.code yX3_mean cX3_mean 2 (some .double), Cond.methodLink RX3 180 yX0_living, Cond.methodLink RX3 184 yX0_agesOfLiving]
def wsX4_isSame_r7 : List Cond := [Cond.instanceMethod yX0_agesOfLiving, Cond.selects RX0 yX0_agesOfLiving yX0_agesOfLiving, Cond.code yX0_agesOfLiving cX0_agesOfLiving 4 (some .int), Cond.fieldLink RX0 90 "WidowPennies$Widow" "age" "I"]
def wsX4_isSame : List Cond := .code yX4_isSame cX4_isSame 7 (some .boolean) :: ((wsX4_isSame_r1 ++ (wsX4_isSame_r2 ++ (wsX4_isSame_r3 ++ (wsX4_isSame_r4 ++ (wsX4_isSame_r5 ++ (wsX4_isSame_r6 ++ wsX4_isSame_r7)))))) ++ wsX40 ++ wsX50 ++ wsX30 ++ wsX00 ++ wsX20 ++ wsX10 ++ (vx_atS RX3 36 "java/lang/IndexOutOfBoundsException" ["java/lang/RuntimeException", "java/lang/Exception"]).filter goodWord)
def wsX5_init : List Cond := .code yX5_init cX5_init 1 none :: ([.methodLink RX5 1 objectInit, .instanceMethod objectInit, .code objectInit ⟨#[0xb1]⟩ 1 none])
def wsJ9_max_7cf53 : List Cond := .code yJ9_max_7cf53 cJ9_max_7cf53 2 (some .int) :: ([])
def wsJ9_min_f86c9 : List Cond := .code yJ9_min_f86c9 cJ9_min_f86c9 4 (some .long) :: ([])
def wsL_below : List Cond := .code yL_below cL_below 2 (some .int) :: ([.constant RL 7 (2147483647)])
def wsL_cell : List Cond := .code yL_cell cL_cell 2 (some .int) :: ([.constant RL 8 (790386105)])
def wsL_act_r1 : List Cond := [Cond.fieldLink RL 9 "WidowPenniesLaw$Sim" "all" "[LWidowPenniesLaw$Widow;", Cond.fieldLink RL 21 "WidowPenniesLaw$Sim" "deaths" "[I", Cond.fieldLink RL 30 "WidowPenniesLaw$Sim" "rates" "[I", Cond.fieldLink RL 36 "WidowPenniesLaw$Widow" "state" "I", Cond.fieldLink RL 50 "WidowPenniesLaw$Widow" "since" "I", Cond.fieldLink RL 56 "WidowPenniesLaw$Sim" "chest" "I", Cond.fieldLink RL 59 "WidowPenniesLaw$Sim" "out" "I", Cond.fieldLink RL 62 "WidowPenniesLaw$Widow" "got" "I", Cond.constant RL 68 (199999), Cond.constant RL 69 (99999), Cond.classLink RL 37 RX5, Cond.instantiable RX5 7, Cond.initialized RX5, Cond.fieldLink RL 87 "WidowPenniesLaw$Widow" "age" "I", Cond.fieldLink RL 90 "WidowPenniesLaw$Widow" "sum" "I", Cond.fieldLink RL 93 "WidowPenniesLaw$Widow" "waits" "I", Cond.fieldLink RL 100 "WidowPenniesLaw$Widow" "price" "I", Cond.methodLink RL 15 yL_below, Cond.static yL_below, Cond.initialized RL, Cond.code yL_below cL_below 2 (some .int), Cond.constant RL 7 (2147483647), Cond.methodLink RL 25 yX3_setDeaths, Cond.instanceMethod yX3_setDeaths]
def wsL_act_r2 : List Cond := [Cond.selects RX3 yX3_setDeaths yX3_setDeaths, Cond.initialized RX3, Cond.code yX3_setDeaths cX3_setDeaths 4 (some .int), Cond.classLink RX3 32 "java/lang/IndexOutOfBoundsException", Cond.initialized "java/lang/IndexOutOfBoundsException", Cond.classLink RX3 39 "java/lang/IllegalArgumentException", Cond.initialized "java/lang/IllegalArgumentException", Cond.fieldLink RX3 12 "WidowPennies" "tables" "LWidowPennies$Tables;", Cond.methodLink RX3 28 yX3_isAge, Cond.static yX3_isAge, Cond.code yX3_isAge cX3_isAge 1 (some .boolean), Cond.methodLink RX3 44 yX1_deathsAt, Cond.instanceMethod yX1_deathsAt, Cond.selects RX1 yX1_deathsAt yX1_deathsAt, Cond.initialized RX1, Cond.code yX1_deathsAt cX1_deathsAt 2 (some .int), Cond.fieldLink RX1 9 "WidowPennies$Tables" "deaths" "[I", Cond.methodLink RX3 48 yX1_changeDeaths, Cond.instanceMethod yX1_changeDeaths, Cond.selects RX1 yX1_changeDeaths yX1_changeDeaths, Cond.code yX1_changeDeaths cX1_changeDeaths 3 none, Cond.methodLink RL 33 yX3_setRate, Cond.instanceMethod yX3_setRate, Cond.selects RX3 yX3_setRate yX3_setRate]
def wsL_act_r3 : List Cond := [Cond.code yX3_setRate cX3_setRate 4 (some .int), Cond.methodLink RX3 56 yX1_rate, Cond.instanceMethod yX1_rate, Cond.selects RX1 yX1_rate yX1_rate, Cond.code yX1_rate cX1_rate 2 (some .int), Cond.fieldLink RX1 15 "WidowPennies$Tables" "rates" "[I", Cond.methodLink RX3 59 yX1_changeRate, Cond.instanceMethod yX1_changeRate, Cond.selects RX1 yX1_changeRate yX1_changeRate, Cond.code yX1_changeRate cX1_changeRate 3 none, Cond.methodLink RL 42 yX4_kept, Cond.instanceMethod yX4_kept, Cond.selects RX4 yX4_kept yX4_kept, Cond.initialized RX4, Cond.code yX4_kept cX4_kept 2 (some .int), Cond.fieldLink RX4 46 "WidowPenniesLaw$Widow" "state" "I", Cond.fieldLink RX4 49 "WidowPenniesLaw$Widow" "sum" "I", Cond.fieldLink RX4 52 "WidowPenniesLaw$Widow" "age" "I", Cond.fieldLink RX4 55 "WidowPenniesLaw$Widow" "waits" "I", Cond.methodLink RX4 42 yX4_worth, Cond.instanceMethod yX4_worth, Cond.selects RX4 yX4_worth yX4_worth, Cond.code yX4_worth cX4_worth 6 (some .int), Cond.fieldLink RX4 13 "WidowPenniesLaw$Sim" "deaths" "[I"]
def wsL_act_r4 : List Cond := [Cond.fieldLink RX4 7 "WidowPenniesLaw$Sim" "rates" "[I", Cond.methodLink RL 46 yX3_die, Cond.instanceMethod yX3_die, Cond.selects RX3 yX3_die yX3_die, Cond.code yX3_die cX3_die 4 (some .int), Cond.classLink RX3 76 "java/lang/IllegalStateException", Cond.initialized "java/lang/IllegalStateException", Cond.fieldLink RX3 21 "WidowPennies" "book" "LWidowPennies$Book;", Cond.fieldLink RX3 112 "WidowPennies$Widow" "state" "I", Cond.methodLink RX3 94 yX3_checkWidow, Cond.instanceMethod yX3_checkWidow, Cond.selects RX3 yX3_checkWidow yX3_checkWidow, Cond.code yX3_checkWidow cX3_checkWidow 2 none, Cond.fieldLink RX3 191 "WidowPennies$Book" "written" "I", Cond.methodLink RX3 97 yX0_widowAt, Cond.instanceMethod yX0_widowAt, Cond.selects RX0 yX0_widowAt yX0_widowAt, Cond.initialized RX0, Cond.code yX0_widowAt cX0_widowAt 2 (some (.object "WidowPennies$Widow")), Cond.fieldLink RX0 17 "WidowPennies$Book" "widows" "[LWidowPennies$Widow;", Cond.methodLink RX3 101 yX2_lives, Cond.instanceMethod yX2_lives, Cond.selects RX2 yX2_lives yX2_lives, Cond.initialized RX2]
def wsL_act_r5 : List Cond := [Cond.code yX2_lives cX2_lives 1 (some .boolean), Cond.fieldLink RX2 9 "WidowPennies$Widow" "state" "I", Cond.methodLink RX3 108 yX1_keptNow, Cond.instanceMethod yX1_keptNow, Cond.selects RX1 yX1_keptNow yX1_keptNow, Cond.code yX1_keptNow cX1_keptNow 2 (some .int), Cond.methodLink RX1 34 yX1_keptWith, Cond.instanceMethod yX1_keptWith, Cond.selects RX1 yX1_keptWith yX1_keptWith, Cond.code yX1_keptWith cX1_keptWith 3 (some .int), Cond.fieldLink RX1 44 "WidowPennies$Widow" "sum" "I", Cond.fieldLink RX1 48 "WidowPennies$Widow" "age" "I", Cond.fieldLink RX1 51 "WidowPennies$Widow" "wait" "I", Cond.methodLink RX1 38 yX2_lives, Cond.methodLink RX1 22 yX1_worthWith, Cond.instanceMethod yX1_worthWith, Cond.selects RX1 yX1_worthWith yX1_worthWith, Cond.code yX1_worthWith cX1_worthWith 8 (some .int), Cond.methodLink RX1 26 yX1_deathsAt, Cond.methodLink RL 53 yX4_back, Cond.instanceMethod yX4_back, Cond.selects RX4 yX4_back yX4_back, Cond.code yX4_back cX4_back 3 (some .int), Cond.fieldLink RX4 62 "WidowPenniesLaw$Widow" "since" "I"]
def wsL_act_r6 : List Cond := [Cond.methodLink RX4 58 yX4_kept, Cond.methodLink RL 65 yX3_giveUp, Cond.instanceMethod yX3_giveUp, Cond.selects RX3 yX3_giveUp yX3_giveUp, Cond.code yX3_giveUp cX3_giveUp 4 (some .int), Cond.fieldLink RX3 124 "WidowPennies$Widow" "got" "I", Cond.methodLink RX3 116 yX2_canGiveUp, Cond.instanceMethod yX2_canGiveUp, Cond.selects RX2 yX2_canGiveUp yX2_canGiveUp, Cond.code yX2_canGiveUp cX2_canGiveUp 1 (some .boolean), Cond.fieldLink RX2 19 "WidowPennies$Widow" "held" "I", Cond.methodLink RX2 15 yX2_lives, Cond.methodLink RX3 121 yX1_givenBack, Cond.instanceMethod yX1_givenBack, Cond.selects RX1 yX1_givenBack yX1_givenBack, Cond.code yX1_givenBack cX1_givenBack 3 (some .int), Cond.methodLink RX1 54 yX2_canGiveUp, Cond.methodLink RX1 57 yX1_keptNow, Cond.methodLink RX3 127 yX0_payOut, Cond.instanceMethod yX0_payOut, Cond.selects RX0 yX0_payOut yX0_payOut, Cond.code yX0_payOut cX0_payOut 2 none, Cond.fieldLink RX0 41 "WidowPennies$Book" "chest" "I", Cond.fieldLink RX0 45 "WidowPennies$Book" "paidOut" "I"]
def wsL_act_r7 : List Cond := [Cond.methodLink RL 70 yX4_come, Cond.instanceMethod yX4_come, Cond.selects RX4 yX4_come yX4_come, Cond.code yX4_come cX4_come 3 none, Cond.fieldLink RX4 27 "WidowPenniesLaw$Sim" "chest" "I", Cond.constantLong RX4 65 (99999999), Cond.constant RX4 67 (99999999), Cond.methodLink RL 74 yX3_put, Cond.instanceMethod yX3_put, Cond.selects RX3 yX3_put yX3_put, Cond.code yX3_put cX3_put 2 (some .int), Cond.constant RX3 130 (-99999), Cond.constant RX3 131 (99999), Cond.fieldLink RX3 137 "WidowPennies$Book" "chest" "I", Cond.methodLink RX3 134 yX0_takeIn, Cond.instanceMethod yX0_takeIn, Cond.selects RX0 yX0_takeIn yX0_takeIn, Cond.code yX0_takeIn cX0_takeIn 3 none, Cond.constant RX0 44 (99999999), Cond.methodLink RL 77 yX4_pass, Cond.instanceMethod yX4_pass, Cond.selects RX4 yX4_pass yX4_pass, Cond.code yX4_pass cX4_pass 6 (some .int), Cond.constantLong RX4 68 (1000)]
def wsL_act_r8 : List Cond := [Cond.fieldLink RX4 18 "WidowPenniesLaw$Sim" "all" "[LWidowPenniesLaw$Widow;", Cond.fieldLink RX4 74 "WidowPenniesLaw$Widow" "got" "I", Cond.fieldLink RX4 30 "WidowPenniesLaw$Sim" "out" "I", Cond.fieldLink RX4 23 "WidowPenniesLaw$Sim" "year" "I", Cond.methodLink RX4 70 yX4_come, Cond.methodLink RL 81 yX3_pass, Cond.instanceMethod yX3_pass, Cond.selects RX3 yX3_pass yX3_pass, Cond.code yX3_pass cX3_pass 3 (some .int), Cond.fieldLink RX3 157 "WidowPennies$Book" "paidOut" "I", Cond.methodLink RX3 154 yX3_checkYearsPassing, Cond.static yX3_checkYearsPassing, Cond.code yX3_checkYearsPassing cX3_checkYearsPassing 1 none, Cond.methodLink RX3 160 yX0_passYears, Cond.instanceMethod yX0_passYears, Cond.selects RX0 yX0_passYears yX0_passYears, Cond.code yX0_passYears cX0_passYears 3 none, Cond.methodLink RX0 55 yX0_passYear, Cond.instanceMethod yX0_passYear, Cond.selects RX0 yX0_passYear yX0_passYear, Cond.code yX0_passYear cX0_passYear 3 none, Cond.fieldLink RX0 9 "WidowPennies$Book" "tables" "LWidowPennies$Tables;", Cond.constantLong RX0 64 (1000), Cond.fieldLink RX0 22 "WidowPennies$Book" "written" "I"]
def wsL_act_r9 : List Cond := [Cond.fieldLink RX0 48 "WidowPennies$Book" "year" "I", Cond.methodLink RX0 58 yX1_rate, Cond.methodLink RX0 37 yX0_takeIn, Cond.methodLink RX0 26 yX0_widowAt, Cond.methodLink RX0 66 yX2_lives, Cond.methodLink RX0 70 yX2_liveYear, Cond.instanceMethod yX2_liveYear, Cond.selects RX2 yX2_liveYear yX2_liveYear, Cond.code yX2_liveYear cX2_liveYear 2 (some .int), Cond.fieldLink RX2 28 "WidowPennies$Widow" "wait" "I", Cond.fieldLink RX2 25 "WidowPennies$Widow" "sum" "I", Cond.fieldLink RX2 31 "WidowPennies$Widow" "got" "I", Cond.fieldLink RX2 22 "WidowPennies$Widow" "age" "I", Cond.methodLink RX0 74 yX0_payOut, Cond.methodLink RL 83 yX4_worth, Cond.instanceMethod yX5_init, Cond.code yX5_init cX5_init 1 none, Cond.methodLink RX5 1 objectInit, Cond.instanceMethod objectInit, Cond.code objectInit ⟨#[0xb1]⟩ 1 none, Cond.methodLink RL 96 yX4_price, Cond.instanceMethod yX4_price, Cond.selects RX4 yX4_price yX4_price, Cond.code yX4_price cX4_price 6 (some .int)]
def wsL_act_r10 : List Cond := [Cond.methodLink RL 102 yX3_buy, Cond.instanceMethod yX3_buy, Cond.selects RX3 yX3_buy yX3_buy, Cond.code yX3_buy cX3_buy 5 (some .int), Cond.methodLink RX3 62 yX3_checkAge, Cond.static yX3_checkAge, Cond.code yX3_checkAge cX3_checkAge 1 none, Cond.methodLink RX3 66 yX3_checkSum, Cond.static yX3_checkSum, Cond.code yX3_checkSum cX3_checkSum 1 none, Cond.methodLink RX3 69 yX3_checkPutOff, Cond.static yX3_checkPutOff, Cond.code yX3_checkPutOff cX3_checkPutOff 1 none, Cond.methodLink RX3 72 yX0_isFull, Cond.instanceMethod yX0_isFull, Cond.selects RX0 yX0_isFull yX0_isFull, Cond.code yX0_isFull cX0_isFull 1 (some .boolean), Cond.methodLink RX3 81 yX1_worthNow, Cond.instanceMethod yX1_worthNow, Cond.selects RX1 yX1_worthNow yX1_worthNow, Cond.code yX1_worthNow cX1_worthNow 3 (some .int), Cond.methodLink RX3 87 yX1_priceOf, Cond.instanceMethod yX1_priceOf, Cond.selects RX1 yX1_priceOf yX1_priceOf]
def wsL_act_r11 : List Cond := [Cond.code yX1_priceOf cX1_priceOf 5 (some .int), Cond.methodLink RX3 90 yX0_write, Cond.instanceMethod yX0_write, Cond.selects RX0 yX0_write yX0_write, Cond.code yX0_write cX0_write 6 (some .int), Cond.fieldLink RX0 34 "WidowPennies$Book" "prices" "I", Cond.methodLink RX0 30 yX2_start, Cond.instanceMethod yX2_start, Cond.selects RX2 yX2_start yX2_start, Cond.code yX2_start cX2_start 5 none, Cond.fieldLink RX2 34 "WidowPennies$Widow" "cost" "I"]
def wsL_act : List Cond := .code yL_act cL_act 19 (some .boolean) :: ((wsL_act_r1 ++ (wsL_act_r2 ++ (wsL_act_r3 ++ (wsL_act_r4 ++ (wsL_act_r5 ++ (wsL_act_r6 ++ (wsL_act_r7 ++ (wsL_act_r8 ++ (wsL_act_r9 ++ (wsL_act_r10 ++ wsL_act_r11)))))))))) ++ wsX40 ++ wsX50 ++ wsX30 ++ wsX10 ++ wsX20 ++ wsX00 ++ (vx_atS RX3 36 "java/lang/IndexOutOfBoundsException" ["java/lang/RuntimeException", "java/lang/Exception"]).filter goodWord ++ (vx_atS RX3 43 "java/lang/IllegalArgumentException" ["java/lang/RuntimeException", "java/lang/Exception"]).filter goodWord ++ (vx_atS RX3 80 "java/lang/IllegalStateException" ["java/lang/RuntimeException", "java/lang/Exception"]).filter goodWord)
def wsL_build_r1 : List Cond := [Cond.classLink RL 10 RX4, Cond.instantiable RX4 6, Cond.initialized RX4, Cond.methodLink RL 105 yX4_init, Cond.instanceMethod yX4_init, Cond.code yX4_init cX4_init 2 none, Cond.methodLink RX4 1 objectInit, Cond.instanceMethod objectInit, Cond.code objectInit ⟨#[0xb1]⟩ 1 none, Cond.arrayClass .int, Cond.fieldLink RX4 7 "WidowPenniesLaw$Sim" "rates" "[I", Cond.fieldLink RX4 13 "WidowPenniesLaw$Sim" "deaths" "[I", Cond.classLink RX4 16 RX5, Cond.fieldLink RX4 18 "WidowPenniesLaw$Sim" "all" "[LWidowPenniesLaw$Widow;", Cond.methodLink RL 106 yL_cell, Cond.static yL_cell, Cond.initialized RL, Cond.code yL_cell cL_cell 2 (some .int), Cond.constant RL 8 (790386105), Cond.methodLink RL 15 yL_below, Cond.static yL_below, Cond.code yL_below cL_below 2 (some .int), Cond.constant RL 7 (2147483647), Cond.methodLink RL 110 yL_act]
def wsL_build_r2 : List Cond := [Cond.static yL_act, Cond.code yL_act cL_act 19 (some .boolean), Cond.fieldLink RL 9 "WidowPenniesLaw$Sim" "all" "[LWidowPenniesLaw$Widow;", Cond.fieldLink RL 21 "WidowPenniesLaw$Sim" "deaths" "[I", Cond.fieldLink RL 30 "WidowPenniesLaw$Sim" "rates" "[I", Cond.fieldLink RL 36 "WidowPenniesLaw$Widow" "state" "I", Cond.fieldLink RL 50 "WidowPenniesLaw$Widow" "since" "I", Cond.fieldLink RL 56 "WidowPenniesLaw$Sim" "chest" "I", Cond.fieldLink RL 59 "WidowPenniesLaw$Sim" "out" "I", Cond.fieldLink RL 62 "WidowPenniesLaw$Widow" "got" "I", Cond.constant RL 68 (199999), Cond.constant RL 69 (99999), Cond.classLink RL 37 RX5, Cond.instantiable RX5 7, Cond.initialized RX5, Cond.fieldLink RL 87 "WidowPenniesLaw$Widow" "age" "I", Cond.fieldLink RL 90 "WidowPenniesLaw$Widow" "sum" "I", Cond.fieldLink RL 93 "WidowPenniesLaw$Widow" "waits" "I", Cond.fieldLink RL 100 "WidowPenniesLaw$Widow" "price" "I", Cond.methodLink RL 25 yX3_setDeaths, Cond.instanceMethod yX3_setDeaths, Cond.selects RX3 yX3_setDeaths yX3_setDeaths, Cond.initialized RX3, Cond.code yX3_setDeaths cX3_setDeaths 4 (some .int)]
def wsL_build_r3 : List Cond := [Cond.classLink RX3 32 "java/lang/IndexOutOfBoundsException", Cond.initialized "java/lang/IndexOutOfBoundsException", Cond.classLink RX3 39 "java/lang/IllegalArgumentException", Cond.initialized "java/lang/IllegalArgumentException", Cond.fieldLink RX3 12 "WidowPennies" "tables" "LWidowPennies$Tables;", Cond.methodLink RX3 28 yX3_isAge, Cond.static yX3_isAge, Cond.code yX3_isAge cX3_isAge 1 (some .boolean), Cond.methodLink RX3 44 yX1_deathsAt, Cond.instanceMethod yX1_deathsAt, Cond.selects RX1 yX1_deathsAt yX1_deathsAt, Cond.initialized RX1, Cond.code yX1_deathsAt cX1_deathsAt 2 (some .int), Cond.fieldLink RX1 9 "WidowPennies$Tables" "deaths" "[I", Cond.methodLink RX3 48 yX1_changeDeaths, Cond.instanceMethod yX1_changeDeaths, Cond.selects RX1 yX1_changeDeaths yX1_changeDeaths, Cond.code yX1_changeDeaths cX1_changeDeaths 3 none, Cond.methodLink RL 33 yX3_setRate, Cond.instanceMethod yX3_setRate, Cond.selects RX3 yX3_setRate yX3_setRate, Cond.code yX3_setRate cX3_setRate 4 (some .int), Cond.methodLink RX3 56 yX1_rate, Cond.instanceMethod yX1_rate]
def wsL_build_r4 : List Cond := [Cond.selects RX1 yX1_rate yX1_rate, Cond.code yX1_rate cX1_rate 2 (some .int), Cond.fieldLink RX1 15 "WidowPennies$Tables" "rates" "[I", Cond.methodLink RX3 59 yX1_changeRate, Cond.instanceMethod yX1_changeRate, Cond.selects RX1 yX1_changeRate yX1_changeRate, Cond.code yX1_changeRate cX1_changeRate 3 none, Cond.methodLink RL 42 yX4_kept, Cond.instanceMethod yX4_kept, Cond.selects RX4 yX4_kept yX4_kept, Cond.code yX4_kept cX4_kept 2 (some .int), Cond.fieldLink RX4 46 "WidowPenniesLaw$Widow" "state" "I", Cond.fieldLink RX4 49 "WidowPenniesLaw$Widow" "sum" "I", Cond.fieldLink RX4 52 "WidowPenniesLaw$Widow" "age" "I", Cond.fieldLink RX4 55 "WidowPenniesLaw$Widow" "waits" "I", Cond.methodLink RX4 42 yX4_worth, Cond.instanceMethod yX4_worth, Cond.selects RX4 yX4_worth yX4_worth, Cond.code yX4_worth cX4_worth 6 (some .int), Cond.methodLink RL 46 yX3_die, Cond.instanceMethod yX3_die, Cond.selects RX3 yX3_die yX3_die, Cond.code yX3_die cX3_die 4 (some .int), Cond.classLink RX3 76 "java/lang/IllegalStateException"]
def wsL_build_r5 : List Cond := [Cond.initialized "java/lang/IllegalStateException", Cond.fieldLink RX3 21 "WidowPennies" "book" "LWidowPennies$Book;", Cond.fieldLink RX3 112 "WidowPennies$Widow" "state" "I", Cond.methodLink RX3 94 yX3_checkWidow, Cond.instanceMethod yX3_checkWidow, Cond.selects RX3 yX3_checkWidow yX3_checkWidow, Cond.code yX3_checkWidow cX3_checkWidow 2 none, Cond.fieldLink RX3 191 "WidowPennies$Book" "written" "I", Cond.methodLink RX3 97 yX0_widowAt, Cond.instanceMethod yX0_widowAt, Cond.selects RX0 yX0_widowAt yX0_widowAt, Cond.initialized RX0, Cond.code yX0_widowAt cX0_widowAt 2 (some (.object "WidowPennies$Widow")), Cond.fieldLink RX0 17 "WidowPennies$Book" "widows" "[LWidowPennies$Widow;", Cond.methodLink RX3 101 yX2_lives, Cond.instanceMethod yX2_lives, Cond.selects RX2 yX2_lives yX2_lives, Cond.initialized RX2, Cond.code yX2_lives cX2_lives 1 (some .boolean), Cond.fieldLink RX2 9 "WidowPennies$Widow" "state" "I", Cond.methodLink RX3 108 yX1_keptNow, Cond.instanceMethod yX1_keptNow, Cond.selects RX1 yX1_keptNow yX1_keptNow, Cond.code yX1_keptNow cX1_keptNow 2 (some .int)]
def wsL_build_r6 : List Cond := [Cond.methodLink RX1 34 yX1_keptWith, Cond.instanceMethod yX1_keptWith, Cond.selects RX1 yX1_keptWith yX1_keptWith, Cond.code yX1_keptWith cX1_keptWith 3 (some .int), Cond.fieldLink RX1 44 "WidowPennies$Widow" "sum" "I", Cond.fieldLink RX1 48 "WidowPennies$Widow" "age" "I", Cond.fieldLink RX1 51 "WidowPennies$Widow" "wait" "I", Cond.methodLink RX1 38 yX2_lives, Cond.methodLink RX1 22 yX1_worthWith, Cond.instanceMethod yX1_worthWith, Cond.selects RX1 yX1_worthWith yX1_worthWith, Cond.code yX1_worthWith cX1_worthWith 8 (some .int), Cond.methodLink RX1 26 yX1_deathsAt, Cond.methodLink RL 53 yX4_back, Cond.instanceMethod yX4_back, Cond.selects RX4 yX4_back yX4_back, Cond.code yX4_back cX4_back 3 (some .int), Cond.fieldLink RX4 62 "WidowPenniesLaw$Widow" "since" "I", Cond.methodLink RX4 58 yX4_kept, Cond.methodLink RL 65 yX3_giveUp, Cond.instanceMethod yX3_giveUp, Cond.selects RX3 yX3_giveUp yX3_giveUp, Cond.code yX3_giveUp cX3_giveUp 4 (some .int), Cond.fieldLink RX3 124 "WidowPennies$Widow" "got" "I"]
def wsL_build_r7 : List Cond := [Cond.methodLink RX3 116 yX2_canGiveUp, Cond.instanceMethod yX2_canGiveUp, Cond.selects RX2 yX2_canGiveUp yX2_canGiveUp, Cond.code yX2_canGiveUp cX2_canGiveUp 1 (some .boolean), Cond.fieldLink RX2 19 "WidowPennies$Widow" "held" "I", Cond.methodLink RX2 15 yX2_lives, Cond.methodLink RX3 121 yX1_givenBack, Cond.instanceMethod yX1_givenBack, Cond.selects RX1 yX1_givenBack yX1_givenBack, Cond.code yX1_givenBack cX1_givenBack 3 (some .int), Cond.methodLink RX1 54 yX2_canGiveUp, Cond.methodLink RX1 57 yX1_keptNow, Cond.methodLink RX3 127 yX0_payOut, Cond.instanceMethod yX0_payOut, Cond.selects RX0 yX0_payOut yX0_payOut, Cond.code yX0_payOut cX0_payOut 2 none, Cond.fieldLink RX0 41 "WidowPennies$Book" "chest" "I", Cond.fieldLink RX0 45 "WidowPennies$Book" "paidOut" "I", Cond.methodLink RL 70 yX4_come, Cond.instanceMethod yX4_come, Cond.selects RX4 yX4_come yX4_come, Cond.code yX4_come cX4_come 3 none, Cond.fieldLink RX4 27 "WidowPenniesLaw$Sim" "chest" "I", Cond.constantLong RX4 65 (99999999)]
def wsL_build_r8 : List Cond := [Cond.constant RX4 67 (99999999), Cond.methodLink RL 74 yX3_put, Cond.instanceMethod yX3_put, Cond.selects RX3 yX3_put yX3_put, Cond.code yX3_put cX3_put 2 (some .int), Cond.constant RX3 130 (-99999), Cond.constant RX3 131 (99999), Cond.fieldLink RX3 137 "WidowPennies$Book" "chest" "I", Cond.methodLink RX3 134 yX0_takeIn, Cond.instanceMethod yX0_takeIn, Cond.selects RX0 yX0_takeIn yX0_takeIn, Cond.code yX0_takeIn cX0_takeIn 3 none, Cond.constant RX0 44 (99999999), Cond.methodLink RL 77 yX4_pass, Cond.instanceMethod yX4_pass, Cond.selects RX4 yX4_pass yX4_pass, Cond.code yX4_pass cX4_pass 6 (some .int), Cond.constantLong RX4 68 (1000), Cond.fieldLink RX4 74 "WidowPenniesLaw$Widow" "got" "I", Cond.fieldLink RX4 30 "WidowPenniesLaw$Sim" "out" "I", Cond.fieldLink RX4 23 "WidowPenniesLaw$Sim" "year" "I", Cond.methodLink RX4 70 yX4_come, Cond.methodLink RL 81 yX3_pass, Cond.instanceMethod yX3_pass]
def wsL_build_r9 : List Cond := [Cond.selects RX3 yX3_pass yX3_pass, Cond.code yX3_pass cX3_pass 3 (some .int), Cond.fieldLink RX3 157 "WidowPennies$Book" "paidOut" "I", Cond.methodLink RX3 154 yX3_checkYearsPassing, Cond.static yX3_checkYearsPassing, Cond.code yX3_checkYearsPassing cX3_checkYearsPassing 1 none, Cond.methodLink RX3 160 yX0_passYears, Cond.instanceMethod yX0_passYears, Cond.selects RX0 yX0_passYears yX0_passYears, Cond.code yX0_passYears cX0_passYears 3 none, Cond.methodLink RX0 55 yX0_passYear, Cond.instanceMethod yX0_passYear, Cond.selects RX0 yX0_passYear yX0_passYear, Cond.code yX0_passYear cX0_passYear 3 none, Cond.fieldLink RX0 9 "WidowPennies$Book" "tables" "LWidowPennies$Tables;", Cond.constantLong RX0 64 (1000), Cond.fieldLink RX0 22 "WidowPennies$Book" "written" "I", Cond.fieldLink RX0 48 "WidowPennies$Book" "year" "I", Cond.methodLink RX0 58 yX1_rate, Cond.methodLink RX0 37 yX0_takeIn, Cond.methodLink RX0 26 yX0_widowAt, Cond.methodLink RX0 66 yX2_lives, Cond.methodLink RX0 70 yX2_liveYear, Cond.instanceMethod yX2_liveYear]
def wsL_build_r10 : List Cond := [Cond.selects RX2 yX2_liveYear yX2_liveYear, Cond.code yX2_liveYear cX2_liveYear 2 (some .int), Cond.fieldLink RX2 28 "WidowPennies$Widow" "wait" "I", Cond.fieldLink RX2 25 "WidowPennies$Widow" "sum" "I", Cond.fieldLink RX2 31 "WidowPennies$Widow" "got" "I", Cond.fieldLink RX2 22 "WidowPennies$Widow" "age" "I", Cond.methodLink RX0 74 yX0_payOut, Cond.methodLink RL 83 yX4_worth, Cond.instanceMethod yX5_init, Cond.code yX5_init cX5_init 1 none, Cond.methodLink RX5 1 objectInit, Cond.methodLink RL 96 yX4_price, Cond.instanceMethod yX4_price, Cond.selects RX4 yX4_price yX4_price, Cond.code yX4_price cX4_price 6 (some .int), Cond.methodLink RL 102 yX3_buy, Cond.instanceMethod yX3_buy, Cond.selects RX3 yX3_buy yX3_buy, Cond.code yX3_buy cX3_buy 5 (some .int), Cond.methodLink RX3 62 yX3_checkAge, Cond.static yX3_checkAge, Cond.code yX3_checkAge cX3_checkAge 1 none, Cond.methodLink RX3 66 yX3_checkSum, Cond.static yX3_checkSum]
def wsL_build_r11 : List Cond := [Cond.code yX3_checkSum cX3_checkSum 1 none, Cond.methodLink RX3 69 yX3_checkPutOff, Cond.static yX3_checkPutOff, Cond.code yX3_checkPutOff cX3_checkPutOff 1 none, Cond.methodLink RX3 72 yX0_isFull, Cond.instanceMethod yX0_isFull, Cond.selects RX0 yX0_isFull yX0_isFull, Cond.code yX0_isFull cX0_isFull 1 (some .boolean), Cond.methodLink RX3 81 yX1_worthNow, Cond.instanceMethod yX1_worthNow, Cond.selects RX1 yX1_worthNow yX1_worthNow, Cond.code yX1_worthNow cX1_worthNow 3 (some .int), Cond.methodLink RX3 87 yX1_priceOf, Cond.instanceMethod yX1_priceOf, Cond.selects RX1 yX1_priceOf yX1_priceOf, Cond.code yX1_priceOf cX1_priceOf 5 (some .int), Cond.methodLink RX3 90 yX0_write, Cond.instanceMethod yX0_write, Cond.selects RX0 yX0_write yX0_write, Cond.code yX0_write cX0_write 6 (some .int), Cond.fieldLink RX0 34 "WidowPennies$Book" "prices" "I", Cond.methodLink RX0 30 yX2_start, Cond.instanceMethod yX2_start, Cond.selects RX2 yX2_start yX2_start]
def wsL_build_r12 : List Cond := [Cond.code yX2_start cX2_start 5 none, Cond.fieldLink RX2 34 "WidowPennies$Widow" "cost" "I"]
def wsL_build : List Cond := .code yL_build cL_build 5 (some (.object "WidowPenniesLaw$Sim")) :: ((wsL_build_r1 ++ (wsL_build_r2 ++ (wsL_build_r3 ++ (wsL_build_r4 ++ (wsL_build_r5 ++ (wsL_build_r6 ++ (wsL_build_r7 ++ (wsL_build_r8 ++ (wsL_build_r9 ++ (wsL_build_r10 ++ (wsL_build_r11 ++ wsL_build_r12))))))))))) ++ wsX40 ++ wsX50 ++ wsX30 ++ wsX10 ++ wsX20 ++ wsX00 ++ (vx_atS RX3 36 "java/lang/IndexOutOfBoundsException" ["java/lang/RuntimeException", "java/lang/Exception"]).filter goodWord ++ (vx_atS RX3 43 "java/lang/IllegalArgumentException" ["java/lang/RuntimeException", "java/lang/Exception"]).filter goodWord ++ (vx_atS RX3 80 "java/lang/IllegalStateException" ["java/lang/RuntimeException", "java/lang/Exception"]).filter goodWord)
def wsL_law0_r1 : List Cond := [Cond.classLink RL 26 RX3, Cond.instantiable RX3 3, Cond.initialized RX3, Cond.arrayClass .int, Cond.fieldLink RL 56 "WidowPenniesLaw$Sim" "chest" "I", Cond.constantLong RL 126 (99999999), Cond.methodLink RL 128 Lib.MathLoose.min_long.x, Cond.static Lib.MathLoose.min_long.x, Cond.initialized "java/lang/Math", Cond.code Lib.MathLoose.min_long.x Lib.MathLoose.min_long.code 4 (some .long), Cond.classLink RL 37 RX5, Cond.fieldLink RL 9 "WidowPenniesLaw$Sim" "all" "[LWidowPenniesLaw$Widow;", Cond.instantiable RX5 7, Cond.initialized RX5, Cond.fieldLink RL 87 "WidowPenniesLaw$Widow" "age" "I", Cond.fieldLink RL 90 "WidowPenniesLaw$Widow" "sum" "I", Cond.fieldLink RL 93 "WidowPenniesLaw$Widow" "waits" "I", Cond.fieldLink RL 100 "WidowPenniesLaw$Widow" "price" "I", Cond.methodLink RL 134 Lib.Math.max.name, Cond.static Lib.Math.max.name, Cond.code Lib.Math.max.name Lib.Math.max.code 2 (some .int), Cond.constant RL 137 (99999999), Cond.methodLink RL 114 yX3_init, Cond.instanceMethod yX3_init]
def wsL_law0_r2 : List Cond := [Cond.code yX3_init cX3_init 1 none, Cond.methodLink RX3 3 objectInit, Cond.instanceMethod objectInit, Cond.code objectInit ⟨#[0xb1]⟩ 1 none, Cond.classLink RX3 9 RX1, Cond.instantiable RX1 2, Cond.initialized RX1, Cond.fieldLink RX3 12 "WidowPennies" "tables" "LWidowPennies$Tables;", Cond.classLink RX3 16 RX0, Cond.instantiable RX0 7, Cond.initialized RX0, Cond.fieldLink RX3 21 "WidowPennies" "book" "LWidowPennies$Book;", Cond.fieldLink RX3 25 "WidowPennies" "trial" "LWidowPennies$Book;", Cond.methodLink RX3 11 yX1_init, Cond.instanceMethod yX1_init, Cond.code yX1_init cX1_init 2 none, Cond.methodLink RX1 3 objectInit, Cond.fieldLink RX1 9 "WidowPennies$Tables" "deaths" "[I", Cond.fieldLink RX1 15 "WidowPennies$Tables" "rates" "[I", Cond.methodLink RX3 18 yX0_init, Cond.instanceMethod yX0_init, Cond.code yX0_init cX0_init 3 none, Cond.methodLink RX0 3 objectInit, Cond.fieldLink RX0 9 "WidowPennies$Book" "tables" "LWidowPennies$Tables;"]
def wsL_law0_r3 : List Cond := [Cond.classLink RX0 15 RX2, Cond.fieldLink RX0 17 "WidowPennies$Book" "widows" "[LWidowPennies$Widow;", Cond.instantiable RX2 7, Cond.initialized RX2, Cond.instanceMethod yX2_init, Cond.code yX2_init cX2_init 1 none, Cond.methodLink RX2 3 objectInit, Cond.methodLink RL 115 yL_build, Cond.static yL_build, Cond.initialized RL, Cond.code yL_build cL_build 5 (some (.object "WidowPenniesLaw$Sim")), Cond.classLink RL 10 RX4, Cond.instantiable RX4 6, Cond.initialized RX4, Cond.methodLink RL 105 yX4_init, Cond.instanceMethod yX4_init, Cond.code yX4_init cX4_init 2 none, Cond.methodLink RX4 1 objectInit, Cond.fieldLink RX4 7 "WidowPenniesLaw$Sim" "rates" "[I", Cond.fieldLink RX4 13 "WidowPenniesLaw$Sim" "deaths" "[I", Cond.classLink RX4 16 RX5, Cond.fieldLink RX4 18 "WidowPenniesLaw$Sim" "all" "[LWidowPenniesLaw$Widow;", Cond.methodLink RL 106 yL_cell, Cond.static yL_cell]
def wsL_law0_r4 : List Cond := [Cond.code yL_cell cL_cell 2 (some .int), Cond.constant RL 8 (790386105), Cond.methodLink RL 15 yL_below, Cond.static yL_below, Cond.code yL_below cL_below 2 (some .int), Cond.constant RL 7 (2147483647), Cond.methodLink RL 110 yL_act, Cond.static yL_act, Cond.code yL_act cL_act 19 (some .boolean), Cond.fieldLink RL 21 "WidowPenniesLaw$Sim" "deaths" "[I", Cond.fieldLink RL 30 "WidowPenniesLaw$Sim" "rates" "[I", Cond.fieldLink RL 36 "WidowPenniesLaw$Widow" "state" "I", Cond.fieldLink RL 50 "WidowPenniesLaw$Widow" "since" "I", Cond.fieldLink RL 59 "WidowPenniesLaw$Sim" "out" "I", Cond.fieldLink RL 62 "WidowPenniesLaw$Widow" "got" "I", Cond.constant RL 68 (199999), Cond.constant RL 69 (99999), Cond.methodLink RL 25 yX3_setDeaths, Cond.instanceMethod yX3_setDeaths, Cond.selects RX3 yX3_setDeaths yX3_setDeaths, Cond.code yX3_setDeaths cX3_setDeaths 4 (some .int), Cond.classLink RX3 32 "java/lang/IndexOutOfBoundsException", Cond.initialized "java/lang/IndexOutOfBoundsException", Cond.classLink RX3 39 "java/lang/IllegalArgumentException"]
def wsL_law0_r5 : List Cond := [Cond.initialized "java/lang/IllegalArgumentException", Cond.methodLink RX3 28 yX3_isAge, Cond.static yX3_isAge, Cond.code yX3_isAge cX3_isAge 1 (some .boolean), Cond.methodLink RX3 44 yX1_deathsAt, Cond.instanceMethod yX1_deathsAt, Cond.selects RX1 yX1_deathsAt yX1_deathsAt, Cond.code yX1_deathsAt cX1_deathsAt 2 (some .int), Cond.methodLink RX3 48 yX1_changeDeaths, Cond.instanceMethod yX1_changeDeaths, Cond.selects RX1 yX1_changeDeaths yX1_changeDeaths, Cond.code yX1_changeDeaths cX1_changeDeaths 3 none, Cond.methodLink RL 33 yX3_setRate, Cond.instanceMethod yX3_setRate, Cond.selects RX3 yX3_setRate yX3_setRate, Cond.code yX3_setRate cX3_setRate 4 (some .int), Cond.methodLink RX3 56 yX1_rate, Cond.instanceMethod yX1_rate, Cond.selects RX1 yX1_rate yX1_rate, Cond.code yX1_rate cX1_rate 2 (some .int), Cond.methodLink RX3 59 yX1_changeRate, Cond.instanceMethod yX1_changeRate, Cond.selects RX1 yX1_changeRate yX1_changeRate, Cond.code yX1_changeRate cX1_changeRate 3 none]
def wsL_law0_r6 : List Cond := [Cond.methodLink RL 42 yX4_kept, Cond.instanceMethod yX4_kept, Cond.selects RX4 yX4_kept yX4_kept, Cond.code yX4_kept cX4_kept 2 (some .int), Cond.fieldLink RX4 46 "WidowPenniesLaw$Widow" "state" "I", Cond.fieldLink RX4 49 "WidowPenniesLaw$Widow" "sum" "I", Cond.fieldLink RX4 52 "WidowPenniesLaw$Widow" "age" "I", Cond.fieldLink RX4 55 "WidowPenniesLaw$Widow" "waits" "I", Cond.methodLink RX4 42 yX4_worth, Cond.instanceMethod yX4_worth, Cond.selects RX4 yX4_worth yX4_worth, Cond.code yX4_worth cX4_worth 6 (some .int), Cond.methodLink RL 46 yX3_die, Cond.instanceMethod yX3_die, Cond.selects RX3 yX3_die yX3_die, Cond.code yX3_die cX3_die 4 (some .int), Cond.classLink RX3 76 "java/lang/IllegalStateException", Cond.initialized "java/lang/IllegalStateException", Cond.fieldLink RX3 112 "WidowPennies$Widow" "state" "I", Cond.methodLink RX3 94 yX3_checkWidow, Cond.instanceMethod yX3_checkWidow, Cond.selects RX3 yX3_checkWidow yX3_checkWidow, Cond.code yX3_checkWidow cX3_checkWidow 2 none, Cond.fieldLink RX3 191 "WidowPennies$Book" "written" "I"]
def wsL_law0_r7 : List Cond := [Cond.methodLink RX3 97 yX0_widowAt, Cond.instanceMethod yX0_widowAt, Cond.selects RX0 yX0_widowAt yX0_widowAt, Cond.code yX0_widowAt cX0_widowAt 2 (some (.object "WidowPennies$Widow")), Cond.methodLink RX3 101 yX2_lives, Cond.instanceMethod yX2_lives, Cond.selects RX2 yX2_lives yX2_lives, Cond.code yX2_lives cX2_lives 1 (some .boolean), Cond.fieldLink RX2 9 "WidowPennies$Widow" "state" "I", Cond.methodLink RX3 108 yX1_keptNow, Cond.instanceMethod yX1_keptNow, Cond.selects RX1 yX1_keptNow yX1_keptNow, Cond.code yX1_keptNow cX1_keptNow 2 (some .int), Cond.methodLink RX1 34 yX1_keptWith, Cond.instanceMethod yX1_keptWith, Cond.selects RX1 yX1_keptWith yX1_keptWith, Cond.code yX1_keptWith cX1_keptWith 3 (some .int), Cond.fieldLink RX1 44 "WidowPennies$Widow" "sum" "I", Cond.fieldLink RX1 48 "WidowPennies$Widow" "age" "I", Cond.fieldLink RX1 51 "WidowPennies$Widow" "wait" "I", Cond.methodLink RX1 38 yX2_lives, Cond.methodLink RX1 22 yX1_worthWith, Cond.instanceMethod yX1_worthWith, Cond.selects RX1 yX1_worthWith yX1_worthWith]
def wsL_law0_r8 : List Cond := [Cond.code yX1_worthWith cX1_worthWith 8 (some .int), Cond.methodLink RX1 26 yX1_deathsAt, Cond.methodLink RL 53 yX4_back, Cond.instanceMethod yX4_back, Cond.selects RX4 yX4_back yX4_back, Cond.code yX4_back cX4_back 3 (some .int), Cond.fieldLink RX4 62 "WidowPenniesLaw$Widow" "since" "I", Cond.methodLink RX4 58 yX4_kept, Cond.methodLink RL 65 yX3_giveUp, Cond.instanceMethod yX3_giveUp, Cond.selects RX3 yX3_giveUp yX3_giveUp, Cond.code yX3_giveUp cX3_giveUp 4 (some .int), Cond.fieldLink RX3 124 "WidowPennies$Widow" "got" "I", Cond.methodLink RX3 116 yX2_canGiveUp, Cond.instanceMethod yX2_canGiveUp, Cond.selects RX2 yX2_canGiveUp yX2_canGiveUp, Cond.code yX2_canGiveUp cX2_canGiveUp 1 (some .boolean), Cond.fieldLink RX2 19 "WidowPennies$Widow" "held" "I", Cond.methodLink RX2 15 yX2_lives, Cond.methodLink RX3 121 yX1_givenBack, Cond.instanceMethod yX1_givenBack, Cond.selects RX1 yX1_givenBack yX1_givenBack, Cond.code yX1_givenBack cX1_givenBack 3 (some .int), Cond.methodLink RX1 54 yX2_canGiveUp]
def wsL_law0_r9 : List Cond := [Cond.methodLink RX1 57 yX1_keptNow, Cond.methodLink RX3 127 yX0_payOut, Cond.instanceMethod yX0_payOut, Cond.selects RX0 yX0_payOut yX0_payOut, Cond.code yX0_payOut cX0_payOut 2 none, Cond.fieldLink RX0 41 "WidowPennies$Book" "chest" "I", Cond.fieldLink RX0 45 "WidowPennies$Book" "paidOut" "I", Cond.methodLink RL 70 yX4_come, Cond.instanceMethod yX4_come, Cond.selects RX4 yX4_come yX4_come, Cond.code yX4_come cX4_come 3 none, Cond.fieldLink RX4 27 "WidowPenniesLaw$Sim" "chest" "I", Cond.constantLong RX4 65 (99999999), Cond.constant RX4 67 (99999999), Cond.methodLink RL 74 yX3_put, Cond.instanceMethod yX3_put, Cond.selects RX3 yX3_put yX3_put, Cond.code yX3_put cX3_put 2 (some .int), Cond.constant RX3 130 (-99999), Cond.constant RX3 131 (99999), Cond.fieldLink RX3 137 "WidowPennies$Book" "chest" "I", Cond.methodLink RX3 134 yX0_takeIn, Cond.instanceMethod yX0_takeIn, Cond.selects RX0 yX0_takeIn yX0_takeIn]
def wsL_law0_r10 : List Cond := [Cond.code yX0_takeIn cX0_takeIn 3 none, Cond.constant RX0 44 (99999999), Cond.methodLink RL 77 yX4_pass, Cond.instanceMethod yX4_pass, Cond.selects RX4 yX4_pass yX4_pass, Cond.code yX4_pass cX4_pass 6 (some .int), Cond.constantLong RX4 68 (1000), Cond.fieldLink RX4 74 "WidowPenniesLaw$Widow" "got" "I", Cond.fieldLink RX4 30 "WidowPenniesLaw$Sim" "out" "I", Cond.fieldLink RX4 23 "WidowPenniesLaw$Sim" "year" "I", Cond.methodLink RX4 70 yX4_come, Cond.methodLink RL 81 yX3_pass, Cond.instanceMethod yX3_pass, Cond.selects RX3 yX3_pass yX3_pass, Cond.code yX3_pass cX3_pass 3 (some .int), Cond.fieldLink RX3 157 "WidowPennies$Book" "paidOut" "I", Cond.methodLink RX3 154 yX3_checkYearsPassing, Cond.static yX3_checkYearsPassing, Cond.code yX3_checkYearsPassing cX3_checkYearsPassing 1 none, Cond.methodLink RX3 160 yX0_passYears, Cond.instanceMethod yX0_passYears, Cond.selects RX0 yX0_passYears yX0_passYears, Cond.code yX0_passYears cX0_passYears 3 none, Cond.methodLink RX0 55 yX0_passYear]
def wsL_law0_r11 : List Cond := [Cond.instanceMethod yX0_passYear, Cond.selects RX0 yX0_passYear yX0_passYear, Cond.code yX0_passYear cX0_passYear 3 none, Cond.constantLong RX0 64 (1000), Cond.fieldLink RX0 22 "WidowPennies$Book" "written" "I", Cond.fieldLink RX0 48 "WidowPennies$Book" "year" "I", Cond.methodLink RX0 58 yX1_rate, Cond.methodLink RX0 37 yX0_takeIn, Cond.methodLink RX0 26 yX0_widowAt, Cond.methodLink RX0 66 yX2_lives, Cond.methodLink RX0 70 yX2_liveYear, Cond.instanceMethod yX2_liveYear, Cond.selects RX2 yX2_liveYear yX2_liveYear, Cond.code yX2_liveYear cX2_liveYear 2 (some .int), Cond.fieldLink RX2 28 "WidowPennies$Widow" "wait" "I", Cond.fieldLink RX2 25 "WidowPennies$Widow" "sum" "I", Cond.fieldLink RX2 31 "WidowPennies$Widow" "got" "I", Cond.fieldLink RX2 22 "WidowPennies$Widow" "age" "I", Cond.methodLink RX0 74 yX0_payOut, Cond.methodLink RL 83 yX4_worth, Cond.instanceMethod yX5_init, Cond.code yX5_init cX5_init 1 none, Cond.methodLink RX5 1 objectInit, Cond.methodLink RL 96 yX4_price]
def wsL_law0_r12 : List Cond := [Cond.instanceMethod yX4_price, Cond.selects RX4 yX4_price yX4_price, Cond.code yX4_price cX4_price 6 (some .int), Cond.methodLink RL 102 yX3_buy, Cond.instanceMethod yX3_buy, Cond.selects RX3 yX3_buy yX3_buy, Cond.code yX3_buy cX3_buy 5 (some .int), Cond.methodLink RX3 62 yX3_checkAge, Cond.static yX3_checkAge, Cond.code yX3_checkAge cX3_checkAge 1 none, Cond.methodLink RX3 66 yX3_checkSum, Cond.static yX3_checkSum, Cond.code yX3_checkSum cX3_checkSum 1 none, Cond.methodLink RX3 69 yX3_checkPutOff, Cond.static yX3_checkPutOff, Cond.code yX3_checkPutOff cX3_checkPutOff 1 none, Cond.methodLink RX3 72 yX0_isFull, Cond.instanceMethod yX0_isFull, Cond.selects RX0 yX0_isFull yX0_isFull, Cond.code yX0_isFull cX0_isFull 1 (some .boolean), Cond.methodLink RX3 81 yX1_worthNow, Cond.instanceMethod yX1_worthNow, Cond.selects RX1 yX1_worthNow yX1_worthNow, Cond.code yX1_worthNow cX1_worthNow 3 (some .int)]
def wsL_law0_r13 : List Cond := [Cond.methodLink RX3 87 yX1_priceOf, Cond.instanceMethod yX1_priceOf, Cond.selects RX1 yX1_priceOf yX1_priceOf, Cond.code yX1_priceOf cX1_priceOf 5 (some .int), Cond.methodLink RX3 90 yX0_write, Cond.instanceMethod yX0_write, Cond.selects RX0 yX0_write yX0_write, Cond.code yX0_write cX0_write 6 (some .int), Cond.fieldLink RX0 34 "WidowPennies$Book" "prices" "I", Cond.methodLink RX0 30 yX2_start, Cond.instanceMethod yX2_start, Cond.selects RX2 yX2_start yX2_start, Cond.code yX2_start cX2_start 5 none, Cond.fieldLink RX2 34 "WidowPennies$Widow" "cost" "I", Cond.methodLink RL 119 yX3_count, Cond.instanceMethod yX3_count, Cond.selects RX3 yX3_count yX3_count, Cond.code yX3_count cX3_count 2 (some .int), Cond.methodLink RX3 146 yX0_tell, Cond.instanceMethod yX0_tell, Cond.selects RX0 yX0_tell yX0_tell, Cond.code yX0_tell cX0_tell 2 (some .int), Cond.methodLink RX0 77 yX0_living, Cond.instanceMethod yX0_living]
def wsL_law0_r14 : List Cond := [Cond.selects RX0 yX0_living yX0_living, Cond.code yX0_living cX0_living 3 (some .int), Cond.methodLink RX0 80 yX0_keptForAll, Cond.instanceMethod yX0_keptForAll, Cond.selects RX0 yX0_keptForAll yX0_keptForAll, Cond.code yX0_keptForAll cX0_keptForAll 4 (some .int), Cond.methodLink RX0 86 yX1_keptWith, Cond.methodLink RX0 83 yX0_sumsDue, Cond.instanceMethod yX0_sumsDue, Cond.selects RX0 yX0_sumsDue yX0_sumsDue, Cond.code yX0_sumsDue cX0_sumsDue 4 (some .int), Cond.fieldLink RX0 93 "WidowPennies$Widow" "wait" "I", Cond.fieldLink RX0 96 "WidowPennies$Widow" "sum" "I", Cond.methodLink RL 122 yX3_told, Cond.instanceMethod yX3_told, Cond.selects RX3 yX3_told yX3_told, Cond.code yX3_told cX3_told 3 (some .int), Cond.methodLink RX3 142 yX1_tellOf, Cond.instanceMethod yX1_tellOf, Cond.selects RX1 yX1_tellOf yX1_tellOf, Cond.code yX1_tellOf cX1_tellOf 3 (some .int), Cond.fieldLink RX1 61 "WidowPennies$Widow" "held" "I", Cond.fieldLink RX1 64 "WidowPennies$Widow" "state" "I", Cond.fieldLink RX1 67 "WidowPennies$Widow" "got" "I"]
def wsL_law0_r15 : List Cond := [Cond.fieldLink RX1 70 "WidowPennies$Widow" "cost" "I", Cond.methodLink RX1 73 yX1_givenBack, Cond.methodLink RL 125 yX3_price, Cond.instanceMethod yX3_price, Cond.selects RX3 yX3_price yX3_price, Cond.code yX3_price cX3_price 4 (some .int), Cond.methodLink RL 138 yX4_isSame, Cond.instanceMethod yX4_isSame, Cond.selects RX4 yX4_isSame yX4_isSame, Cond.code yX4_isSame cX4_isSame 7 (some .boolean), Cond.fieldLink RX4 77 "WidowPenniesLaw$Widow" "price" "I", Cond.methodLink RX4 84 yX4_back, Cond.methodLink RX4 87 yX3_told, Cond.methodLink RX4 92 yX3_count, Cond.methodLink RX4 96 yX4_counted, Cond.instanceMethod yX4_counted, Cond.selects RX4 yX4_counted yX4_counted, Cond.code yX4_counted cX4_counted 9 (some .int), Cond.methodLink RX4 80 yX4_keptForAll, Cond.instanceMethod yX4_keptForAll, Cond.selects RX4 yX4_keptForAll yX4_keptForAll, Cond.code yX4_keptForAll cX4_keptForAll 6 (some .int), Cond.methodLink RX4 99 yX3_mean, Cond.instanceMethod yX3_mean]
def wsL_law0_r16 : List Cond := [Cond.selects RX3 yX3_mean yX3_mean, Cond.code yX3_mean cX3_mean 2 (some .double), Cond.methodLink RX3 180 yX0_living, Cond.methodLink RX3 184 yX0_agesOfLiving, Cond.instanceMethod yX0_agesOfLiving, Cond.selects RX0 yX0_agesOfLiving yX0_agesOfLiving, Cond.code yX0_agesOfLiving cX0_agesOfLiving 4 (some .int), Cond.fieldLink RX0 90 "WidowPennies$Widow" "age" "I"]
def wsL_law0 : List Cond := (wsL_law0_r1 ++ (wsL_law0_r2 ++ (wsL_law0_r3 ++ (wsL_law0_r4 ++ (wsL_law0_r5 ++ (wsL_law0_r6 ++ (wsL_law0_r7 ++ (wsL_law0_r8 ++ (wsL_law0_r9 ++ (wsL_law0_r10 ++ (wsL_law0_r11 ++ (wsL_law0_r12 ++ (wsL_law0_r13 ++ (wsL_law0_r14 ++ (wsL_law0_r15 ++ wsL_law0_r16))))))))))))))) ++ wsX30 ++ wsX40 ++ wsX50 ++ wsX10 ++ wsX00 ++ wsX20 ++ ([] : List Cond)
def wsL_law : List Cond := wsL_law0 ++ (vx_atS RX3 36 "java/lang/IndexOutOfBoundsException" ["java/lang/RuntimeException", "java/lang/Exception"]).filter goodWord ++ (vx_atS RX3 43 "java/lang/IllegalArgumentException" ["java/lang/RuntimeException", "java/lang/Exception"]).filter goodWord ++ (vx_atS RX3 80 "java/lang/IllegalStateException" ["java/lang/RuntimeException", "java/lang/Exception"]).filter goodWord
set_option maxRecDepth 20000 in
theorem wsL_law_x0 : ∀ w ∈ (vx_atS RX3 36 "java/lang/IndexOutOfBoundsException" ["java/lang/RuntimeException", "java/lang/Exception"]).filter goodWord, w ∈ lw_tbl := by decide +kernel
theorem wsL_law_x1 : ∀ w ∈ (vx_atS RX3 43 "java/lang/IllegalArgumentException" ["java/lang/RuntimeException", "java/lang/Exception"]).filter goodWord, w ∈ lw_tbl := by decide +kernel
theorem wsL_law_x2 : ∀ w ∈ (vx_atS RX3 80 "java/lang/IllegalStateException" ["java/lang/RuntimeException", "java/lang/Exception"]).filter goodWord, w ∈ lw_tbl := by decide +kernel
theorem inX6 : ∀ w ∈ wsX60, w ∈ lw_tbl := by decide +kernel
theorem inJ9 : ∀ w ∈ wsJ90, w ∈ lw_tbl := by decide +kernel
theorem inJ0 : ∀ w ∈ wsJ00, w ∈ lw_tbl := by decide +kernel
set_option maxRecDepth 20000 in
theorem ggX0_init_X2_init : GoodIn wsX0_init wsX2_init := goodIn_r _ [10, 11, 2, 3] (by decide +kernel) (by decide +kernel)
set_option maxRecDepth 20000 in
theorem gX0_init_X2_init_n21 : GoodIn wsX0_init (wsX2_init) := ggX0_init_X2_init
theorem dX0_init_0 : decode cX0_init 0 = .ok (.aload_n 0, 1) := by decide +kernel
theorem dX0_init_1 : decode cX0_init 1 = .ok (.invokespecial 3, 3) := by decide +kernel
theorem dX0_init_4 : decode cX0_init 4 = .ok (.aload_n 0, 1) := by decide +kernel
theorem dX0_init_5 : decode cX0_init 5 = .ok (.aload_n 1, 1) := by decide +kernel
theorem dX0_init_6 : decode cX0_init 6 = .ok (.putfield 9, 3) := by decide +kernel
theorem dX0_init_9 : decode cX0_init 9 = .ok (.aload_n 0, 1) := by decide +kernel
theorem dX0_init_10 : decode cX0_init 10 = .ok (.bipush 10, 2) := by decide +kernel
theorem dX0_init_12 : decode cX0_init 12 = .ok (.anewarray 15, 3) := by decide +kernel
theorem dX0_init_15 : decode cX0_init 15 = .ok (.putfield 17, 3) := by decide +kernel
theorem dX0_init_18 : decode cX0_init 18 = .ok (.iconst 0, 1) := by decide +kernel
theorem dX0_init_19 : decode cX0_init 19 = .ok (.istore_n 2, 1) := by decide +kernel
theorem dX0_init_20 : decode cX0_init 20 = .ok (.iload_n 2, 1) := by decide +kernel
theorem dX0_init_21 : decode cX0_init 21 = .ok (.bipush 10, 2) := by decide +kernel
theorem dX0_init_23 : decode cX0_init 23 = .ok (.if_icmp .ge 22, 3) := by decide +kernel
theorem dX0_init_26 : decode cX0_init 26 = .ok (.aload_n 0, 1) := by decide +kernel
theorem dX0_init_27 : decode cX0_init 27 = .ok (.getfield 17, 3) := by decide +kernel
theorem dX0_init_30 : decode cX0_init 30 = .ok (.iload_n 2, 1) := by decide +kernel
theorem dX0_init_31 : decode cX0_init 31 = .ok (.new 15, 3) := by decide +kernel
theorem dX0_init_34 : decode cX0_init 34 = .ok (.dup, 1) := by decide +kernel
theorem dX0_init_35 : decode cX0_init 35 = .ok (.invokespecial 21, 3) := by decide +kernel
theorem dX0_init_38 : decode cX0_init 38 = .ok (.aastore, 1) := by decide +kernel
theorem dX0_init_39 : decode cX0_init 39 = .ok (.iinc 2 1, 3) := by decide +kernel
theorem dX0_init_42 : decode cX0_init 42 = .ok (.goto (-22), 3) := by decide +kernel
theorem dX0_init_45 : decode cX0_init 45 = .ok (.return_, 1) := by decide +kernel
theorem dX0_isFull_0 : decode cX0_isFull 0 = .ok (.aload_n 0, 1) := by decide +kernel
theorem dX0_isFull_1 : decode cX0_isFull 1 = .ok (.getfield 22, 3) := by decide +kernel
theorem dX0_isFull_4 : decode cX0_isFull 4 = .ok (.bipush 10, 2) := by decide +kernel
theorem dX0_isFull_6 : decode cX0_isFull 6 = .ok (.if_icmp .lt 7, 3) := by decide +kernel
theorem dX0_isFull_9 : decode cX0_isFull 9 = .ok (.iconst 1, 1) := by decide +kernel
theorem dX0_isFull_10 : decode cX0_isFull 10 = .ok (.goto 4, 3) := by decide +kernel
theorem dX0_isFull_13 : decode cX0_isFull 13 = .ok (.iconst 0, 1) := by decide +kernel
theorem dX0_isFull_14 : decode cX0_isFull 14 = .ok (.ireturn, 1) := by decide +kernel
theorem dX0_widowAt_0 : decode cX0_widowAt 0 = .ok (.aload_n 0, 1) := by decide +kernel
theorem dX0_widowAt_1 : decode cX0_widowAt 1 = .ok (.getfield 17, 3) := by decide +kernel
theorem dX0_widowAt_4 : decode cX0_widowAt 4 = .ok (.iload_n 1, 1) := by decide +kernel
theorem dX0_widowAt_5 : decode cX0_widowAt 5 = .ok (.ifCond .lt 13, 3) := by decide +kernel
theorem dX0_widowAt_8 : decode cX0_widowAt 8 = .ok (.iload_n 1, 1) := by decide +kernel
theorem dX0_widowAt_9 : decode cX0_widowAt 9 = .ok (.bipush 10, 2) := by decide +kernel
theorem dX0_widowAt_11 : decode cX0_widowAt 11 = .ok (.if_icmp .ge 7, 3) := by decide +kernel
theorem dX0_widowAt_14 : decode cX0_widowAt 14 = .ok (.iload_n 1, 1) := by decide +kernel
theorem dX0_widowAt_15 : decode cX0_widowAt 15 = .ok (.goto 4, 3) := by decide +kernel
theorem dX0_widowAt_18 : decode cX0_widowAt 18 = .ok (.iconst 0, 1) := by decide +kernel
theorem dX0_widowAt_19 : decode cX0_widowAt 19 = .ok (.aaload, 1) := by decide +kernel
theorem dX0_widowAt_20 : decode cX0_widowAt 20 = .ok (.areturn, 1) := by decide +kernel
set_option maxRecDepth 20000 in
theorem ggX0_write_X0_widowAt : GoodIn wsX0_write wsX0_widowAt := goodIn_r _ [7, 8, 27, 28, 29, 30, 31, 32, 33] (by decide +kernel) (by decide +kernel)
set_option maxRecDepth 20000 in
theorem gX0_write_X0_widowAt : GoodIn wsX0_write (wsV RX0 26 RX0 yX0_widowAt wsX0_widowAt) := goodIn_app (goodIn_of _ (by decide +kernel)) ggX0_write_X0_widowAt
set_option maxRecDepth 20000 in
theorem ggX0_write_X2_start : GoodIn wsX0_write wsX2_start := goodIn_r _ [13, 14, 15, 16, 17, 18, 19, 20, 34, 35, 36, 37, 38, 39, 40] (by decide +kernel) (by decide +kernel)
set_option maxRecDepth 20000 in
theorem gX0_write_X2_start : GoodIn wsX0_write (wsV RX0 30 RX2 yX2_start wsX2_start) := goodIn_app (goodIn_of _ (by decide +kernel)) ggX0_write_X2_start
set_option maxRecDepth 20000 in
theorem ggX0_write_X0_takeIn : GoodIn wsX0_write wsX0_takeIn := goodIn_r _ [24, 25, 26, 27, 28, 29, 30, 31, 32, 33] (by decide +kernel) (by decide +kernel)
set_option maxRecDepth 20000 in
theorem gX0_write_X0_takeIn : GoodIn wsX0_write (wsV RX0 37 RX0 yX0_takeIn wsX0_takeIn) := goodIn_app (goodIn_of _ (by decide +kernel)) ggX0_write_X0_takeIn
theorem dX0_write_0 : decode cX0_write 0 = .ok (.aload_n 0, 1) := by decide +kernel
theorem dX0_write_1 : decode cX0_write 1 = .ok (.getfield 22, 3) := by decide +kernel
theorem dX0_write_4 : decode cX0_write 4 = .ok (.istore 5, 2) := by decide +kernel
theorem dX0_write_6 : decode cX0_write 6 = .ok (.aload_n 0, 1) := by decide +kernel
theorem dX0_write_7 : decode cX0_write 7 = .ok (.iload 5, 2) := by decide +kernel
theorem dX0_write_9 : decode cX0_write 9 = .ok (.invokevirtual 26, 3) := by decide +kernel
theorem dX0_write_12 : decode cX0_write 12 = .ok (.iload_n 1, 1) := by decide +kernel
theorem dX0_write_13 : decode cX0_write 13 = .ok (.iload_n 2, 1) := by decide +kernel
theorem dX0_write_14 : decode cX0_write 14 = .ok (.iload_n 3, 1) := by decide +kernel
theorem dX0_write_15 : decode cX0_write 15 = .ok (.iload 4, 2) := by decide +kernel
theorem dX0_write_17 : decode cX0_write 17 = .ok (.invokevirtual 30, 3) := by decide +kernel
theorem dX0_write_20 : decode cX0_write 20 = .ok (.aload_n 0, 1) := by decide +kernel
theorem dX0_write_21 : decode cX0_write 21 = .ok (.dup, 1) := by decide +kernel
theorem dX0_write_22 : decode cX0_write 22 = .ok (.getfield 22, 3) := by decide +kernel
theorem dX0_write_25 : decode cX0_write 25 = .ok (.iconst 1, 1) := by decide +kernel
theorem dX0_write_26 : decode cX0_write 26 = .ok (.iadd, 1) := by decide +kernel
theorem dX0_write_27 : decode cX0_write 27 = .ok (.putfield 22, 3) := by decide +kernel
theorem dX0_write_30 : decode cX0_write 30 = .ok (.aload_n 0, 1) := by decide +kernel
theorem dX0_write_31 : decode cX0_write 31 = .ok (.dup, 1) := by decide +kernel
theorem dX0_write_32 : decode cX0_write 32 = .ok (.getfield 34, 3) := by decide +kernel
theorem dX0_write_35 : decode cX0_write 35 = .ok (.iload 4, 2) := by decide +kernel
theorem dX0_write_37 : decode cX0_write 37 = .ok (.iadd, 1) := by decide +kernel
theorem dX0_write_38 : decode cX0_write 38 = .ok (.putfield 34, 3) := by decide +kernel
theorem dX0_write_41 : decode cX0_write 41 = .ok (.aload_n 0, 1) := by decide +kernel
theorem dX0_write_42 : decode cX0_write 42 = .ok (.iload 4, 2) := by decide +kernel
theorem dX0_write_44 : decode cX0_write 44 = .ok (.invokevirtual 37, 3) := by decide +kernel
theorem dX0_write_47 : decode cX0_write 47 = .ok (.iload 5, 2) := by decide +kernel
theorem dX0_write_49 : decode cX0_write 49 = .ok (.ireturn, 1) := by decide +kernel
theorem dX0_takeIn_0 : decode cX0_takeIn 0 = .ok (.aload_n 0, 1) := by decide +kernel
theorem dX0_takeIn_1 : decode cX0_takeIn 1 = .ok (.getfield 41, 3) := by decide +kernel
theorem dX0_takeIn_4 : decode cX0_takeIn 4 = .ok (.iload_n 1, 1) := by decide +kernel
theorem dX0_takeIn_5 : decode cX0_takeIn 5 = .ok (.iadd, 1) := by decide +kernel
theorem dX0_takeIn_6 : decode cX0_takeIn 6 = .ok (.istore_n 2, 1) := by decide +kernel
theorem dX0_takeIn_7 : decode cX0_takeIn 7 = .ok (.aload_n 0, 1) := by decide +kernel
theorem dX0_takeIn_8 : decode cX0_takeIn 8 = .ok (.iload_n 2, 1) := by decide +kernel
theorem dX0_takeIn_9 : decode cX0_takeIn 9 = .ok (.ldc 44, 2) := by decide +kernel
theorem dX0_takeIn_11 : decode cX0_takeIn 11 = .ok (.if_icmp .le 8, 3) := by decide +kernel
theorem dX0_takeIn_14 : decode cX0_takeIn 14 = .ok (.ldc 44, 2) := by decide +kernel
theorem dX0_takeIn_16 : decode cX0_takeIn 16 = .ok (.goto 4, 3) := by decide +kernel
theorem dX0_takeIn_19 : decode cX0_takeIn 19 = .ok (.iload_n 2, 1) := by decide +kernel
theorem dX0_takeIn_20 : decode cX0_takeIn 20 = .ok (.putfield 41, 3) := by decide +kernel
theorem dX0_takeIn_23 : decode cX0_takeIn 23 = .ok (.return_, 1) := by decide +kernel
theorem dX0_payOut_0 : decode cX0_payOut 0 = .ok (.aload_n 0, 1) := by decide +kernel
theorem dX0_payOut_1 : decode cX0_payOut 1 = .ok (.dup, 1) := by decide +kernel
theorem dX0_payOut_2 : decode cX0_payOut 2 = .ok (.getfield 41, 3) := by decide +kernel
theorem dX0_payOut_5 : decode cX0_payOut 5 = .ok (.iload_n 1, 1) := by decide +kernel
theorem dX0_payOut_6 : decode cX0_payOut 6 = .ok (.isub, 1) := by decide +kernel
theorem dX0_payOut_7 : decode cX0_payOut 7 = .ok (.putfield 41, 3) := by decide +kernel
theorem dX0_payOut_10 : decode cX0_payOut 10 = .ok (.aload_n 0, 1) := by decide +kernel
theorem dX0_payOut_11 : decode cX0_payOut 11 = .ok (.dup, 1) := by decide +kernel
theorem dX0_payOut_12 : decode cX0_payOut 12 = .ok (.getfield 45, 3) := by decide +kernel
theorem dX0_payOut_15 : decode cX0_payOut 15 = .ok (.iload_n 1, 1) := by decide +kernel
theorem dX0_payOut_16 : decode cX0_payOut 16 = .ok (.iadd, 1) := by decide +kernel
theorem dX0_payOut_17 : decode cX0_payOut 17 = .ok (.putfield 45, 3) := by decide +kernel
theorem dX0_payOut_20 : decode cX0_payOut 20 = .ok (.return_, 1) := by decide +kernel
set_option maxRecDepth 20000 in
theorem ggX0_passYears_X0_passYear : GoodIn wsX0_passYears wsX0_passYear := goodIn_r _ [5, 6, 7, 8, 9, 10, 11, 12, 13, 14, 15, 16, 17, 18, 19, 4, 20, 21, 22, 23, 24, 25, 26, 27, 28, 29, 30, 31, 32, 33, 34, 35, 36, 37, 38, 39, 40, 41, 42, 43, 44, 45, 46, 47, 48, 49, 50, 51, 52, 53, 54, 55, 56, 57, 58, 59, 60, 61, 62] (by decide +kernel) (by decide +kernel)
set_option maxRecDepth 20000 in
theorem gX0_passYears_X0_passYear : GoodIn wsX0_passYears (wsV RX0 55 RX0 yX0_passYear wsX0_passYear) := goodIn_app (goodIn_of _ (by decide +kernel)) ggX0_passYears_X0_passYear
theorem dX0_passYears_0 : decode cX0_passYears 0 = .ok (.iconst 0, 1) := by decide +kernel
theorem dX0_passYears_1 : decode cX0_passYears 1 = .ok (.istore_n 2, 1) := by decide +kernel
theorem dX0_passYears_2 : decode cX0_passYears 2 = .ok (.iload_n 2, 1) := by decide +kernel
theorem dX0_passYears_3 : decode cX0_passYears 3 = .ok (.iload_n 1, 1) := by decide +kernel
theorem dX0_passYears_4 : decode cX0_passYears 4 = .ok (.if_icmp .ge 13, 3) := by decide +kernel
theorem dX0_passYears_7 : decode cX0_passYears 7 = .ok (.aload_n 0, 1) := by decide +kernel
theorem dX0_passYears_8 : decode cX0_passYears 8 = .ok (.invokevirtual 55, 3) := by decide +kernel
theorem dX0_passYears_11 : decode cX0_passYears 11 = .ok (.iinc 2 1, 3) := by decide +kernel
theorem dX0_passYears_14 : decode cX0_passYears 14 = .ok (.goto (-12), 3) := by decide +kernel
theorem dX0_passYears_17 : decode cX0_passYears 17 = .ok (.return_, 1) := by decide +kernel
set_option maxRecDepth 20000 in
theorem ggX0_passYear_X1_rate : GoodIn wsX0_passYear wsX1_rate := goodIn_r _ [10, 11, 50, 51] (by decide +kernel) (by decide +kernel)
set_option maxRecDepth 20000 in
theorem gX0_passYear_X1_rate : GoodIn wsX0_passYear (wsV RX0 58 RX1 yX1_rate wsX1_rate) := goodIn_app (goodIn_of _ (by decide +kernel)) ggX0_passYear_X1_rate
set_option maxRecDepth 20000 in
theorem ggX0_passYear_X0_takeIn : GoodIn wsX0_passYear wsX0_takeIn := goodIn_r _ [16, 1, 17, 43, 44, 45, 46, 47, 48, 49] (by decide +kernel) (by decide +kernel)
set_option maxRecDepth 20000 in
theorem gX0_passYear_X0_takeIn : GoodIn wsX0_passYear (wsV RX0 37 RX0 yX0_takeIn wsX0_takeIn) := goodIn_app (goodIn_of _ (by decide +kernel)) ggX0_passYear_X0_takeIn
set_option maxRecDepth 20000 in
theorem ggX0_passYear_X0_widowAt : GoodIn wsX0_passYear wsX0_widowAt := goodIn_r _ [21, 22, 43, 44, 45, 46, 47, 48, 49] (by decide +kernel) (by decide +kernel)
set_option maxRecDepth 20000 in
theorem gX0_passYear_X0_widowAt : GoodIn wsX0_passYear (wsV RX0 26 RX0 yX0_widowAt wsX0_widowAt) := goodIn_app (goodIn_of _ (by decide +kernel)) ggX0_passYear_X0_widowAt
set_option maxRecDepth 20000 in
theorem ggX0_passYear_X2_lives : GoodIn wsX0_passYear wsX2_lives := goodIn_r _ [27, 28, 52, 53, 54, 55, 56, 57, 58] (by decide +kernel) (by decide +kernel)
set_option maxRecDepth 20000 in
theorem gX0_passYear_X2_lives : GoodIn wsX0_passYear (wsV RX0 66 RX2 yX2_lives wsX2_lives) := goodIn_app (goodIn_of _ (by decide +kernel)) ggX0_passYear_X2_lives
set_option maxRecDepth 20000 in
theorem ggX0_passYear_X2_liveYear : GoodIn wsX0_passYear wsX2_liveYear := goodIn_r _ [32, 33, 34, 35, 36, 37, 28, 52, 53, 54, 55, 56, 57, 58] (by decide +kernel) (by decide +kernel)
set_option maxRecDepth 20000 in
theorem gX0_passYear_X2_liveYear : GoodIn wsX0_passYear (wsV RX0 70 RX2 yX2_liveYear wsX2_liveYear) := goodIn_app (goodIn_of _ (by decide +kernel)) ggX0_passYear_X2_liveYear
set_option maxRecDepth 20000 in
theorem ggX0_passYear_X0_payOut : GoodIn wsX0_passYear wsX0_payOut := goodIn_r _ [41, 1, 42, 43, 44, 45, 46, 47, 48, 49] (by decide +kernel) (by decide +kernel)
set_option maxRecDepth 20000 in
theorem gX0_passYear_X0_payOut : GoodIn wsX0_passYear (wsV RX0 74 RX0 yX0_payOut wsX0_payOut) := goodIn_app (goodIn_of _ (by decide +kernel)) ggX0_passYear_X0_payOut
theorem dX0_passYear_0 : decode cX0_passYear 0 = .ok (.aload_n 0, 1) := by decide +kernel
theorem dX0_passYear_1 : decode cX0_passYear 1 = .ok (.getfield 41, 3) := by decide +kernel
theorem dX0_passYear_4 : decode cX0_passYear 4 = .ok (.ifCond .le 27, 3) := by decide +kernel
theorem dX0_passYear_7 : decode cX0_passYear 7 = .ok (.aload_n 0, 1) := by decide +kernel
theorem dX0_passYear_8 : decode cX0_passYear 8 = .ok (.aload_n 0, 1) := by decide +kernel
theorem dX0_passYear_9 : decode cX0_passYear 9 = .ok (.getfield 41, 3) := by decide +kernel
theorem dX0_passYear_12 : decode cX0_passYear 12 = .ok (.i2l, 1) := by decide +kernel
theorem dX0_passYear_13 : decode cX0_passYear 13 = .ok (.aload_n 0, 1) := by decide +kernel
theorem dX0_passYear_14 : decode cX0_passYear 14 = .ok (.getfield 9, 3) := by decide +kernel
theorem dX0_passYear_17 : decode cX0_passYear 17 = .ok (.iconst 0, 1) := by decide +kernel
theorem dX0_passYear_18 : decode cX0_passYear 18 = .ok (.invokevirtual 58, 3) := by decide +kernel
theorem dX0_passYear_21 : decode cX0_passYear 21 = .ok (.i2l, 1) := by decide +kernel
theorem dX0_passYear_22 : decode cX0_passYear 22 = .ok (.lmul, 1) := by decide +kernel
theorem dX0_passYear_23 : decode cX0_passYear 23 = .ok (.ldc2_w 64, 3) := by decide +kernel
theorem dX0_passYear_26 : decode cX0_passYear 26 = .ok (.ldiv, 1) := by decide +kernel
theorem dX0_passYear_27 : decode cX0_passYear 27 = .ok (.l2i, 1) := by decide +kernel
theorem dX0_passYear_28 : decode cX0_passYear 28 = .ok (.invokevirtual 37, 3) := by decide +kernel
theorem dX0_passYear_31 : decode cX0_passYear 31 = .ok (.iconst 0, 1) := by decide +kernel
theorem dX0_passYear_32 : decode cX0_passYear 32 = .ok (.istore_n 1, 1) := by decide +kernel
theorem dX0_passYear_33 : decode cX0_passYear 33 = .ok (.iload_n 1, 1) := by decide +kernel
theorem dX0_passYear_34 : decode cX0_passYear 34 = .ok (.aload_n 0, 1) := by decide +kernel
theorem dX0_passYear_35 : decode cX0_passYear 35 = .ok (.getfield 22, 3) := by decide +kernel
theorem dX0_passYear_38 : decode cX0_passYear 38 = .ok (.if_icmp .ge 30, 3) := by decide +kernel
theorem dX0_passYear_41 : decode cX0_passYear 41 = .ok (.aload_n 0, 1) := by decide +kernel
theorem dX0_passYear_42 : decode cX0_passYear 42 = .ok (.iload_n 1, 1) := by decide +kernel
theorem dX0_passYear_43 : decode cX0_passYear 43 = .ok (.invokevirtual 26, 3) := by decide +kernel
theorem dX0_passYear_46 : decode cX0_passYear 46 = .ok (.astore_n 2, 1) := by decide +kernel
theorem dX0_passYear_47 : decode cX0_passYear 47 = .ok (.aload_n 2, 1) := by decide +kernel
theorem dX0_passYear_48 : decode cX0_passYear 48 = .ok (.invokevirtual 66, 3) := by decide +kernel
theorem dX0_passYear_51 : decode cX0_passYear 51 = .ok (.ifCond .eq 11, 3) := by decide +kernel
theorem dX0_passYear_54 : decode cX0_passYear 54 = .ok (.aload_n 0, 1) := by decide +kernel
theorem dX0_passYear_55 : decode cX0_passYear 55 = .ok (.aload_n 2, 1) := by decide +kernel
theorem dX0_passYear_56 : decode cX0_passYear 56 = .ok (.invokevirtual 70, 3) := by decide +kernel
theorem dX0_passYear_59 : decode cX0_passYear 59 = .ok (.invokevirtual 74, 3) := by decide +kernel
theorem dX0_passYear_62 : decode cX0_passYear 62 = .ok (.iinc 1 1, 3) := by decide +kernel
theorem dX0_passYear_65 : decode cX0_passYear 65 = .ok (.goto (-32), 3) := by decide +kernel
theorem dX0_passYear_68 : decode cX0_passYear 68 = .ok (.aload_n 0, 1) := by decide +kernel
theorem dX0_passYear_69 : decode cX0_passYear 69 = .ok (.dup, 1) := by decide +kernel
theorem dX0_passYear_70 : decode cX0_passYear 70 = .ok (.getfield 48, 3) := by decide +kernel
theorem dX0_passYear_73 : decode cX0_passYear 73 = .ok (.iconst 1, 1) := by decide +kernel
theorem dX0_passYear_74 : decode cX0_passYear 74 = .ok (.iadd, 1) := by decide +kernel
theorem dX0_passYear_75 : decode cX0_passYear 75 = .ok (.putfield 48, 3) := by decide +kernel
theorem dX0_passYear_78 : decode cX0_passYear 78 = .ok (.return_, 1) := by decide +kernel
set_option maxRecDepth 20000 in
theorem ggX0_tell_X0_living : GoodIn wsX0_tell wsX0_living := goodIn_r _ [11, 2, 12, 13, 14, 10, 15, 16, 17, 18, 19, 20, 21, 22, 59, 60, 61, 62, 63, 64, 65, 66, 67, 68, 69, 70, 71, 72] (by decide +kernel) (by decide +kernel)
set_option maxRecDepth 20000 in
theorem gX0_tell_X0_living : GoodIn wsX0_tell (wsV RX0 77 RX0 yX0_living wsX0_living) := goodIn_app (goodIn_of _ (by decide +kernel)) ggX0_tell_X0_living
set_option maxRecDepth 20000 in
theorem ggX0_tell_X1_rate : GoodIn wsX0_tell wsX1_rate := goodIn_r _ [27, 28, 73, 74] (by decide +kernel) (by decide +kernel)
end
section
set_option maxRecDepth 20000 in
theorem gX0_tell_X1_rate : GoodIn wsX0_tell (wsV RX0 58 RX1 yX1_rate wsX1_rate) := goodIn_app (goodIn_of _ (by decide +kernel)) ggX0_tell_X1_rate
set_option maxRecDepth 20000 in
theorem ggX0_tell_X0_keptForAll : GoodIn wsX0_tell wsX0_keptForAll := goodIn_r _ [32, 2, 4, 12, 13, 14, 10, 15, 16, 33, 34, 35, 26, 36, 37, 38, 39, 40, 18, 19, 20, 21, 22, 41, 42, 43, 44, 45, 46, 47, 48, 49, 50, 51, 52, 59, 60, 61, 62, 63, 64, 65, 66, 67, 68, 69, 70, 71, 72, 73, 74] (by decide +kernel) (by decide +kernel)
set_option maxRecDepth 20000 in
theorem gX0_tell_X0_keptForAll : GoodIn wsX0_tell (wsV RX0 80 RX0 yX0_keptForAll wsX0_keptForAll) := goodIn_app (goodIn_of _ (by decide +kernel)) ggX0_tell_X0_keptForAll
set_option maxRecDepth 20000 in
theorem ggX0_tell_X0_sumsDue : GoodIn wsX0_tell wsX0_sumsDue := goodIn_r _ [56, 2, 57, 58, 12, 13, 14, 10, 15, 16, 17, 18, 19, 20, 21, 22, 59, 60, 61, 62, 63, 64, 65, 66, 67, 68, 69, 70, 71, 72] (by decide +kernel) (by decide +kernel)
set_option maxRecDepth 20000 in
theorem gX0_tell_X0_sumsDue : GoodIn wsX0_tell (wsV RX0 83 RX0 yX0_sumsDue wsX0_sumsDue) := goodIn_app (goodIn_of _ (by decide +kernel)) ggX0_tell_X0_sumsDue
theorem dX0_tell_0 : decode cX0_tell 0 = .ok (.iload_n 1, 1) := by decide +kernel
theorem dX0_tell_1 : decode cX0_tell 1 = .ok (.tableswitch 108 0 7 #[47, 52, 57, 62, 67, 80, 98, 103], 47) := by decide +kernel
theorem dX0_tell_48 : decode cX0_tell 48 = .ok (.aload_n 0, 1) := by decide +kernel
theorem dX0_tell_49 : decode cX0_tell 49 = .ok (.getfield 48, 3) := by decide +kernel
theorem dX0_tell_52 : decode cX0_tell 52 = .ok (.ireturn, 1) := by decide +kernel
theorem dX0_tell_53 : decode cX0_tell 53 = .ok (.aload_n 0, 1) := by decide +kernel
theorem dX0_tell_54 : decode cX0_tell 54 = .ok (.getfield 22, 3) := by decide +kernel
theorem dX0_tell_57 : decode cX0_tell 57 = .ok (.ireturn, 1) := by decide +kernel
theorem dX0_tell_58 : decode cX0_tell 58 = .ok (.aload_n 0, 1) := by decide +kernel
theorem dX0_tell_59 : decode cX0_tell 59 = .ok (.invokevirtual 77, 3) := by decide +kernel
theorem dX0_tell_62 : decode cX0_tell 62 = .ok (.ireturn, 1) := by decide +kernel
theorem dX0_tell_63 : decode cX0_tell 63 = .ok (.aload_n 0, 1) := by decide +kernel
theorem dX0_tell_64 : decode cX0_tell 64 = .ok (.getfield 41, 3) := by decide +kernel
theorem dX0_tell_67 : decode cX0_tell 67 = .ok (.ireturn, 1) := by decide +kernel
theorem dX0_tell_68 : decode cX0_tell 68 = .ok (.aload_n 0, 1) := by decide +kernel
theorem dX0_tell_69 : decode cX0_tell 69 = .ok (.aload_n 0, 1) := by decide +kernel
theorem dX0_tell_70 : decode cX0_tell 70 = .ok (.getfield 9, 3) := by decide +kernel
theorem dX0_tell_73 : decode cX0_tell 73 = .ok (.iconst 0, 1) := by decide +kernel
theorem dX0_tell_74 : decode cX0_tell 74 = .ok (.invokevirtual 58, 3) := by decide +kernel
theorem dX0_tell_77 : decode cX0_tell 77 = .ok (.invokevirtual 80, 3) := by decide +kernel
theorem dX0_tell_80 : decode cX0_tell 80 = .ok (.ireturn, 1) := by decide +kernel
theorem dX0_tell_81 : decode cX0_tell 81 = .ok (.aload_n 0, 1) := by decide +kernel
theorem dX0_tell_82 : decode cX0_tell 82 = .ok (.getfield 41, 3) := by decide +kernel
theorem dX0_tell_85 : decode cX0_tell 85 = .ok (.aload_n 0, 1) := by decide +kernel
theorem dX0_tell_86 : decode cX0_tell 86 = .ok (.aload_n 0, 1) := by decide +kernel
theorem dX0_tell_87 : decode cX0_tell 87 = .ok (.getfield 9, 3) := by decide +kernel
theorem dX0_tell_90 : decode cX0_tell 90 = .ok (.iconst 0, 1) := by decide +kernel
theorem dX0_tell_91 : decode cX0_tell 91 = .ok (.invokevirtual 58, 3) := by decide +kernel
theorem dX0_tell_94 : decode cX0_tell 94 = .ok (.invokevirtual 80, 3) := by decide +kernel
theorem dX0_tell_97 : decode cX0_tell 97 = .ok (.isub, 1) := by decide +kernel
theorem dX0_tell_98 : decode cX0_tell 98 = .ok (.ireturn, 1) := by decide +kernel
theorem dX0_tell_99 : decode cX0_tell 99 = .ok (.aload_n 0, 1) := by decide +kernel
theorem dX0_tell_100 : decode cX0_tell 100 = .ok (.invokevirtual 83, 3) := by decide +kernel
theorem dX0_tell_103 : decode cX0_tell 103 = .ok (.ireturn, 1) := by decide +kernel
theorem dX0_tell_104 : decode cX0_tell 104 = .ok (.aload_n 0, 1) := by decide +kernel
theorem dX0_tell_105 : decode cX0_tell 105 = .ok (.getfield 45, 3) := by decide +kernel
theorem dX0_tell_108 : decode cX0_tell 108 = .ok (.ireturn, 1) := by decide +kernel
theorem dX0_tell_109 : decode cX0_tell 109 = .ok (.aload_n 0, 1) := by decide +kernel
theorem dX0_tell_110 : decode cX0_tell 110 = .ok (.getfield 34, 3) := by decide +kernel
theorem dX0_tell_113 : decode cX0_tell 113 = .ok (.ireturn, 1) := by decide +kernel
set_option maxRecDepth 20000 in
theorem ggX0_keptForAll_X0_widowAt : GoodIn wsX0_keptForAll wsX0_widowAt := goodIn_r _ [7, 8, 35, 36, 37, 38, 39, 40, 41] (by decide +kernel) (by decide +kernel)
set_option maxRecDepth 20000 in
theorem gX0_keptForAll_X0_widowAt : GoodIn wsX0_keptForAll (wsV RX0 26 RX0 yX0_widowAt wsX0_widowAt) := goodIn_app (goodIn_of _ (by decide +kernel)) ggX0_keptForAll_X0_widowAt
set_option maxRecDepth 20000 in
theorem ggX0_keptForAll_X1_keptWith : GoodIn wsX0_keptForAll wsX1_keptWith := goodIn_r _ [13, 14, 15, 16, 17, 18, 19, 20, 21, 22, 23, 24, 25, 12, 26, 27, 28, 29, 30, 31, 32, 33, 34, 42, 43, 44, 45, 46, 47, 48, 49, 50] (by decide +kernel) (by decide +kernel)
set_option maxRecDepth 20000 in
theorem gX0_keptForAll_X1_keptWith : GoodIn wsX0_keptForAll (wsV RX0 86 RX1 yX1_keptWith wsX1_keptWith) := goodIn_app (goodIn_of _ (by decide +kernel)) ggX0_keptForAll_X1_keptWith
theorem dX0_keptForAll_0 : decode cX0_keptForAll 0 = .ok (.iconst 0, 1) := by decide +kernel
theorem dX0_keptForAll_1 : decode cX0_keptForAll 1 = .ok (.istore_n 2, 1) := by decide +kernel
theorem dX0_keptForAll_2 : decode cX0_keptForAll 2 = .ok (.iconst 0, 1) := by decide +kernel
theorem dX0_keptForAll_3 : decode cX0_keptForAll 3 = .ok (.istore_n 3, 1) := by decide +kernel
theorem dX0_keptForAll_4 : decode cX0_keptForAll 4 = .ok (.iload_n 3, 1) := by decide +kernel
theorem dX0_keptForAll_5 : decode cX0_keptForAll 5 = .ok (.aload_n 0, 1) := by decide +kernel
theorem dX0_keptForAll_6 : decode cX0_keptForAll 6 = .ok (.getfield 22, 3) := by decide +kernel
theorem dX0_keptForAll_9 : decode cX0_keptForAll 9 = .ok (.if_icmp .ge 25, 3) := by decide +kernel
theorem dX0_keptForAll_12 : decode cX0_keptForAll 12 = .ok (.iload_n 2, 1) := by decide +kernel
theorem dX0_keptForAll_13 : decode cX0_keptForAll 13 = .ok (.aload_n 0, 1) := by decide +kernel
theorem dX0_keptForAll_14 : decode cX0_keptForAll 14 = .ok (.getfield 9, 3) := by decide +kernel
theorem dX0_keptForAll_17 : decode cX0_keptForAll 17 = .ok (.aload_n 0, 1) := by decide +kernel
theorem dX0_keptForAll_18 : decode cX0_keptForAll 18 = .ok (.iload_n 3, 1) := by decide +kernel
theorem dX0_keptForAll_19 : decode cX0_keptForAll 19 = .ok (.invokevirtual 26, 3) := by decide +kernel
theorem dX0_keptForAll_22 : decode cX0_keptForAll 22 = .ok (.iload_n 1, 1) := by decide +kernel
theorem dX0_keptForAll_23 : decode cX0_keptForAll 23 = .ok (.invokevirtual 86, 3) := by decide +kernel
theorem dX0_keptForAll_26 : decode cX0_keptForAll 26 = .ok (.iadd, 1) := by decide +kernel
theorem dX0_keptForAll_27 : decode cX0_keptForAll 27 = .ok (.istore_n 2, 1) := by decide +kernel
theorem dX0_keptForAll_28 : decode cX0_keptForAll 28 = .ok (.iinc 3 1, 3) := by decide +kernel
theorem dX0_keptForAll_31 : decode cX0_keptForAll 31 = .ok (.goto (-27), 3) := by decide +kernel
theorem dX0_keptForAll_34 : decode cX0_keptForAll 34 = .ok (.iload_n 2, 1) := by decide +kernel
theorem dX0_keptForAll_35 : decode cX0_keptForAll 35 = .ok (.ireturn, 1) := by decide +kernel
set_option maxRecDepth 20000 in
theorem ggX0_living_X0_widowAt : GoodIn wsX0_living wsX0_widowAt := goodIn_r _ [6, 7, 14, 15, 16, 17, 18, 19, 20] (by decide +kernel) (by decide +kernel)
set_option maxRecDepth 20000 in
theorem gX0_living_X0_widowAt : GoodIn wsX0_living (wsV RX0 26 RX0 yX0_widowAt wsX0_widowAt) := goodIn_app (goodIn_of _ (by decide +kernel)) ggX0_living_X0_widowAt
set_option maxRecDepth 20000 in
theorem ggX0_living_X2_lives : GoodIn wsX0_living wsX2_lives := goodIn_r _ [12, 13, 21, 22, 23, 24, 25, 26, 27] (by decide +kernel) (by decide +kernel)
set_option maxRecDepth 20000 in
theorem gX0_living_X2_lives : GoodIn wsX0_living (wsV RX0 66 RX2 yX2_lives wsX2_lives) := goodIn_app (goodIn_of _ (by decide +kernel)) ggX0_living_X2_lives
theorem dX0_living_0 : decode cX0_living 0 = .ok (.iconst 0, 1) := by decide +kernel
theorem dX0_living_1 : decode cX0_living 1 = .ok (.istore_n 1, 1) := by decide +kernel
theorem dX0_living_2 : decode cX0_living 2 = .ok (.iconst 0, 1) := by decide +kernel
theorem dX0_living_3 : decode cX0_living 3 = .ok (.istore_n 2, 1) := by decide +kernel
theorem dX0_living_4 : decode cX0_living 4 = .ok (.iload_n 2, 1) := by decide +kernel
theorem dX0_living_5 : decode cX0_living 5 = .ok (.aload_n 0, 1) := by decide +kernel
theorem dX0_living_6 : decode cX0_living 6 = .ok (.getfield 22, 3) := by decide +kernel
theorem dX0_living_9 : decode cX0_living 9 = .ok (.if_icmp .ge 23, 3) := by decide +kernel
theorem dX0_living_12 : decode cX0_living 12 = .ok (.aload_n 0, 1) := by decide +kernel
theorem dX0_living_13 : decode cX0_living 13 = .ok (.iload_n 2, 1) := by decide +kernel
theorem dX0_living_14 : decode cX0_living 14 = .ok (.invokevirtual 26, 3) := by decide +kernel
theorem dX0_living_17 : decode cX0_living 17 = .ok (.invokevirtual 66, 3) := by decide +kernel
theorem dX0_living_20 : decode cX0_living 20 = .ok (.ifCond .eq 6, 3) := by decide +kernel
theorem dX0_living_23 : decode cX0_living 23 = .ok (.iinc 1 1, 3) := by decide +kernel
theorem dX0_living_26 : decode cX0_living 26 = .ok (.iinc 2 1, 3) := by decide +kernel
theorem dX0_living_29 : decode cX0_living 29 = .ok (.goto (-25), 3) := by decide +kernel
theorem dX0_living_32 : decode cX0_living 32 = .ok (.iload_n 1, 1) := by decide +kernel
theorem dX0_living_33 : decode cX0_living 33 = .ok (.ireturn, 1) := by decide +kernel
set_option maxRecDepth 20000 in
theorem ggX0_agesOfLiving_X0_widowAt : GoodIn wsX0_agesOfLiving wsX0_widowAt := goodIn_r _ [7, 8, 15, 16, 17, 18, 19, 20, 21] (by decide +kernel) (by decide +kernel)
set_option maxRecDepth 20000 in
theorem gX0_agesOfLiving_X0_widowAt : GoodIn wsX0_agesOfLiving (wsV RX0 26 RX0 yX0_widowAt wsX0_widowAt) := goodIn_app (goodIn_of _ (by decide +kernel)) ggX0_agesOfLiving_X0_widowAt
set_option maxRecDepth 20000 in
theorem ggX0_agesOfLiving_X2_lives : GoodIn wsX0_agesOfLiving wsX2_lives := goodIn_r _ [13, 14, 22, 23, 24, 25, 26, 27, 28] (by decide +kernel) (by decide +kernel)
set_option maxRecDepth 20000 in
theorem gX0_agesOfLiving_X2_lives : GoodIn wsX0_agesOfLiving (wsV RX0 66 RX2 yX2_lives wsX2_lives) := goodIn_app (goodIn_of _ (by decide +kernel)) ggX0_agesOfLiving_X2_lives
theorem dX0_agesOfLiving_0 : decode cX0_agesOfLiving 0 = .ok (.iconst 0, 1) := by decide +kernel
theorem dX0_agesOfLiving_1 : decode cX0_agesOfLiving 1 = .ok (.istore_n 1, 1) := by decide +kernel
theorem dX0_agesOfLiving_2 : decode cX0_agesOfLiving 2 = .ok (.iconst 0, 1) := by decide +kernel
theorem dX0_agesOfLiving_3 : decode cX0_agesOfLiving 3 = .ok (.istore_n 2, 1) := by decide +kernel
theorem dX0_agesOfLiving_4 : decode cX0_agesOfLiving 4 = .ok (.iload_n 2, 1) := by decide +kernel
theorem dX0_agesOfLiving_5 : decode cX0_agesOfLiving 5 = .ok (.aload_n 0, 1) := by decide +kernel
theorem dX0_agesOfLiving_6 : decode cX0_agesOfLiving 6 = .ok (.getfield 22, 3) := by decide +kernel
theorem dX0_agesOfLiving_9 : decode cX0_agesOfLiving 9 = .ok (.if_icmp .ge 29, 3) := by decide +kernel
theorem dX0_agesOfLiving_12 : decode cX0_agesOfLiving 12 = .ok (.aload_n 0, 1) := by decide +kernel
theorem dX0_agesOfLiving_13 : decode cX0_agesOfLiving 13 = .ok (.iload_n 2, 1) := by decide +kernel
theorem dX0_agesOfLiving_14 : decode cX0_agesOfLiving 14 = .ok (.invokevirtual 26, 3) := by decide +kernel
theorem dX0_agesOfLiving_17 : decode cX0_agesOfLiving 17 = .ok (.astore_n 3, 1) := by decide +kernel
theorem dX0_agesOfLiving_18 : decode cX0_agesOfLiving 18 = .ok (.aload_n 3, 1) := by decide +kernel
theorem dX0_agesOfLiving_19 : decode cX0_agesOfLiving 19 = .ok (.invokevirtual 66, 3) := by decide +kernel
theorem dX0_agesOfLiving_22 : decode cX0_agesOfLiving 22 = .ok (.ifCond .eq 10, 3) := by decide +kernel
theorem dX0_agesOfLiving_25 : decode cX0_agesOfLiving 25 = .ok (.iload_n 1, 1) := by decide +kernel
theorem dX0_agesOfLiving_26 : decode cX0_agesOfLiving 26 = .ok (.aload_n 3, 1) := by decide +kernel
theorem dX0_agesOfLiving_27 : decode cX0_agesOfLiving 27 = .ok (.getfield 90, 3) := by decide +kernel
theorem dX0_agesOfLiving_30 : decode cX0_agesOfLiving 30 = .ok (.iadd, 1) := by decide +kernel
theorem dX0_agesOfLiving_31 : decode cX0_agesOfLiving 31 = .ok (.istore_n 1, 1) := by decide +kernel
theorem dX0_agesOfLiving_32 : decode cX0_agesOfLiving 32 = .ok (.iinc 2 1, 3) := by decide +kernel
theorem dX0_agesOfLiving_35 : decode cX0_agesOfLiving 35 = .ok (.goto (-31), 3) := by decide +kernel
theorem dX0_agesOfLiving_38 : decode cX0_agesOfLiving 38 = .ok (.iload_n 1, 1) := by decide +kernel
theorem dX0_agesOfLiving_39 : decode cX0_agesOfLiving 39 = .ok (.ireturn, 1) := by decide +kernel
set_option maxRecDepth 20000 in
theorem ggX0_sumsDue_X0_widowAt : GoodIn wsX0_sumsDue wsX0_widowAt := goodIn_r _ [8, 9, 16, 17, 18, 19, 20, 21, 22] (by decide +kernel) (by decide +kernel)
set_option maxRecDepth 20000 in
theorem gX0_sumsDue_X0_widowAt : GoodIn wsX0_sumsDue (wsV RX0 26 RX0 yX0_widowAt wsX0_widowAt) := goodIn_app (goodIn_of _ (by decide +kernel)) ggX0_sumsDue_X0_widowAt
set_option maxRecDepth 20000 in
theorem ggX0_sumsDue_X2_lives : GoodIn wsX0_sumsDue wsX2_lives := goodIn_r _ [14, 15, 23, 24, 25, 26, 27, 28, 29] (by decide +kernel) (by decide +kernel)
set_option maxRecDepth 20000 in
theorem gX0_sumsDue_X2_lives : GoodIn wsX0_sumsDue (wsV RX0 66 RX2 yX2_lives wsX2_lives) := goodIn_app (goodIn_of _ (by decide +kernel)) ggX0_sumsDue_X2_lives
theorem dX0_sumsDue_0 : decode cX0_sumsDue 0 = .ok (.iconst 0, 1) := by decide +kernel
theorem dX0_sumsDue_1 : decode cX0_sumsDue 1 = .ok (.istore_n 1, 1) := by decide +kernel
theorem dX0_sumsDue_2 : decode cX0_sumsDue 2 = .ok (.iconst 0, 1) := by decide +kernel
theorem dX0_sumsDue_3 : decode cX0_sumsDue 3 = .ok (.istore_n 2, 1) := by decide +kernel
theorem dX0_sumsDue_4 : decode cX0_sumsDue 4 = .ok (.iload_n 2, 1) := by decide +kernel
theorem dX0_sumsDue_5 : decode cX0_sumsDue 5 = .ok (.aload_n 0, 1) := by decide +kernel
theorem dX0_sumsDue_6 : decode cX0_sumsDue 6 = .ok (.getfield 22, 3) := by decide +kernel
theorem dX0_sumsDue_9 : decode cX0_sumsDue 9 = .ok (.if_icmp .ge 36, 3) := by decide +kernel
theorem dX0_sumsDue_12 : decode cX0_sumsDue 12 = .ok (.aload_n 0, 1) := by decide +kernel
theorem dX0_sumsDue_13 : decode cX0_sumsDue 13 = .ok (.iload_n 2, 1) := by decide +kernel
theorem dX0_sumsDue_14 : decode cX0_sumsDue 14 = .ok (.invokevirtual 26, 3) := by decide +kernel
theorem dX0_sumsDue_17 : decode cX0_sumsDue 17 = .ok (.astore_n 3, 1) := by decide +kernel
theorem dX0_sumsDue_18 : decode cX0_sumsDue 18 = .ok (.aload_n 3, 1) := by decide +kernel
theorem dX0_sumsDue_19 : decode cX0_sumsDue 19 = .ok (.invokevirtual 66, 3) := by decide +kernel
theorem dX0_sumsDue_22 : decode cX0_sumsDue 22 = .ok (.ifCond .eq 17, 3) := by decide +kernel
theorem dX0_sumsDue_25 : decode cX0_sumsDue 25 = .ok (.aload_n 3, 1) := by decide +kernel
theorem dX0_sumsDue_26 : decode cX0_sumsDue 26 = .ok (.getfield 93, 3) := by decide +kernel
theorem dX0_sumsDue_29 : decode cX0_sumsDue 29 = .ok (.ifCond .ne 10, 3) := by decide +kernel
theorem dX0_sumsDue_32 : decode cX0_sumsDue 32 = .ok (.iload_n 1, 1) := by decide +kernel
theorem dX0_sumsDue_33 : decode cX0_sumsDue 33 = .ok (.aload_n 3, 1) := by decide +kernel
theorem dX0_sumsDue_34 : decode cX0_sumsDue 34 = .ok (.getfield 96, 3) := by decide +kernel
theorem dX0_sumsDue_37 : decode cX0_sumsDue 37 = .ok (.iadd, 1) := by decide +kernel
theorem dX0_sumsDue_38 : decode cX0_sumsDue 38 = .ok (.istore_n 1, 1) := by decide +kernel
theorem dX0_sumsDue_39 : decode cX0_sumsDue 39 = .ok (.iinc 2 1, 3) := by decide +kernel
theorem dX0_sumsDue_42 : decode cX0_sumsDue 42 = .ok (.goto (-38), 3) := by decide +kernel
theorem dX0_sumsDue_45 : decode cX0_sumsDue 45 = .ok (.iload_n 1, 1) := by decide +kernel
theorem dX0_sumsDue_46 : decode cX0_sumsDue 46 = .ok (.ireturn, 1) := by decide +kernel
theorem dX1_init_0 : decode cX1_init 0 = .ok (.aload_n 0, 1) := by decide +kernel
theorem dX1_init_1 : decode cX1_init 1 = .ok (.invokespecial 3, 3) := by decide +kernel
theorem dX1_init_4 : decode cX1_init 4 = .ok (.aload_n 0, 1) := by decide +kernel
theorem dX1_init_5 : decode cX1_init 5 = .ok (.bipush 50, 2) := by decide +kernel
theorem dX1_init_7 : decode cX1_init 7 = .ok (.newarray .int, 2) := by decide +kernel
theorem dX1_init_9 : decode cX1_init 9 = .ok (.putfield 9, 3) := by decide +kernel
theorem dX1_init_12 : decode cX1_init 12 = .ok (.iconst 0, 1) := by decide +kernel
theorem dX1_init_13 : decode cX1_init 13 = .ok (.istore_n 1, 1) := by decide +kernel
theorem dX1_init_14 : decode cX1_init 14 = .ok (.iload_n 1, 1) := by decide +kernel
theorem dX1_init_15 : decode cX1_init 15 = .ok (.bipush 50, 2) := by decide +kernel
theorem dX1_init_17 : decode cX1_init 17 = .ok (.if_icmp .ge 22, 3) := by decide +kernel
theorem dX1_init_20 : decode cX1_init 20 = .ok (.aload_n 0, 1) := by decide +kernel
theorem dX1_init_21 : decode cX1_init 21 = .ok (.getfield 9, 3) := by decide +kernel
theorem dX1_init_24 : decode cX1_init 24 = .ok (.iload_n 1, 1) := by decide +kernel
theorem dX1_init_25 : decode cX1_init 25 = .ok (.bipush 10, 2) := by decide +kernel
theorem dX1_init_27 : decode cX1_init 27 = .ok (.bipush 8, 2) := by decide +kernel
theorem dX1_init_29 : decode cX1_init 29 = .ok (.iload_n 1, 1) := by decide +kernel
theorem dX1_init_30 : decode cX1_init 30 = .ok (.imul, 1) := by decide +kernel
theorem dX1_init_31 : decode cX1_init 31 = .ok (.iadd, 1) := by decide +kernel
theorem dX1_init_32 : decode cX1_init 32 = .ok (.iastore, 1) := by decide +kernel
theorem dX1_init_33 : decode cX1_init 33 = .ok (.iinc 1 1, 3) := by decide +kernel
theorem dX1_init_36 : decode cX1_init 36 = .ok (.goto (-22), 3) := by decide +kernel
theorem dX1_init_39 : decode cX1_init 39 = .ok (.aload_n 0, 1) := by decide +kernel
theorem dX1_init_40 : decode cX1_init 40 = .ok (.iconst 3, 1) := by decide +kernel
theorem dX1_init_41 : decode cX1_init 41 = .ok (.newarray .int, 2) := by decide +kernel
theorem dX1_init_43 : decode cX1_init 43 = .ok (.putfield 15, 3) := by decide +kernel
theorem dX1_init_46 : decode cX1_init 46 = .ok (.aload_n 0, 1) := by decide +kernel
theorem dX1_init_47 : decode cX1_init 47 = .ok (.getfield 15, 3) := by decide +kernel
theorem dX1_init_50 : decode cX1_init 50 = .ok (.iconst 0, 1) := by decide +kernel
theorem dX1_init_51 : decode cX1_init 51 = .ok (.bipush 40, 2) := by decide +kernel
theorem dX1_init_53 : decode cX1_init 53 = .ok (.iastore, 1) := by decide +kernel
theorem dX1_init_54 : decode cX1_init 54 = .ok (.aload_n 0, 1) := by decide +kernel
theorem dX1_init_55 : decode cX1_init 55 = .ok (.getfield 15, 3) := by decide +kernel
theorem dX1_init_58 : decode cX1_init 58 = .ok (.iconst 1, 1) := by decide +kernel
theorem dX1_init_59 : decode cX1_init 59 = .ok (.iconst 5, 1) := by decide +kernel
theorem dX1_init_60 : decode cX1_init 60 = .ok (.iastore, 1) := by decide +kernel
theorem dX1_init_61 : decode cX1_init 61 = .ok (.aload_n 0, 1) := by decide +kernel
theorem dX1_init_62 : decode cX1_init 62 = .ok (.getfield 15, 3) := by decide +kernel
theorem dX1_init_65 : decode cX1_init 65 = .ok (.iconst 2, 1) := by decide +kernel
theorem dX1_init_66 : decode cX1_init 66 = .ok (.bipush 10, 2) := by decide +kernel
theorem dX1_init_68 : decode cX1_init 68 = .ok (.iastore, 1) := by decide +kernel
theorem dX1_init_69 : decode cX1_init 69 = .ok (.return_, 1) := by decide +kernel
set_option maxRecDepth 20000 in
theorem ggX1_deathsAt_X3_isAge : GoodIn wsX1_deathsAt wsX3_isAge := goodIn_r _ [4] (by decide +kernel) (by decide +kernel)
set_option maxRecDepth 20000 in
theorem gX1_deathsAt_X3_isAge_n18 : GoodIn wsX1_deathsAt (wsX3_isAge) := ggX1_deathsAt_X3_isAge
theorem dX1_deathsAt_0 : decode cX1_deathsAt 0 = .ok (.iload_n 1, 1) := by decide +kernel
theorem dX1_deathsAt_1 : decode cX1_deathsAt 1 = .ok (.invokestatic 18, 3) := by decide +kernel
theorem dX1_deathsAt_4 : decode cX1_deathsAt 4 = .ok (.ifCond .eq 15, 3) := by decide +kernel
theorem dX1_deathsAt_7 : decode cX1_deathsAt 7 = .ok (.aload_n 0, 1) := by decide +kernel
theorem dX1_deathsAt_8 : decode cX1_deathsAt 8 = .ok (.getfield 9, 3) := by decide +kernel
theorem dX1_deathsAt_11 : decode cX1_deathsAt 11 = .ok (.iload_n 1, 1) := by decide +kernel
theorem dX1_deathsAt_12 : decode cX1_deathsAt 12 = .ok (.bipush 50, 2) := by decide +kernel
theorem dX1_deathsAt_14 : decode cX1_deathsAt 14 = .ok (.isub, 1) := by decide +kernel
theorem dX1_deathsAt_15 : decode cX1_deathsAt 15 = .ok (.iaload, 1) := by decide +kernel
theorem dX1_deathsAt_16 : decode cX1_deathsAt 16 = .ok (.goto 6, 3) := by decide +kernel
theorem dX1_deathsAt_19 : decode cX1_deathsAt 19 = .ok (.sipush 1000, 3) := by decide +kernel
theorem dX1_deathsAt_22 : decode cX1_deathsAt 22 = .ok (.ireturn, 1) := by decide +kernel
set_option maxRecDepth 20000 in
theorem ggX1_changeDeaths_X3_isAge : GoodIn wsX1_changeDeaths wsX3_isAge := goodIn_r _ [4] (by decide +kernel) (by decide +kernel)
set_option maxRecDepth 20000 in
theorem gX1_changeDeaths_X3_isAge_n18 : GoodIn wsX1_changeDeaths (wsX3_isAge) := ggX1_changeDeaths_X3_isAge
theorem dX1_changeDeaths_0 : decode cX1_changeDeaths 0 = .ok (.iload_n 1, 1) := by decide +kernel
theorem dX1_changeDeaths_1 : decode cX1_changeDeaths 1 = .ok (.invokestatic 18, 3) := by decide +kernel
theorem dX1_changeDeaths_4 : decode cX1_changeDeaths 4 = .ok (.ifCond .eq 13, 3) := by decide +kernel
theorem dX1_changeDeaths_7 : decode cX1_changeDeaths 7 = .ok (.aload_n 0, 1) := by decide +kernel
theorem dX1_changeDeaths_8 : decode cX1_changeDeaths 8 = .ok (.getfield 9, 3) := by decide +kernel
theorem dX1_changeDeaths_11 : decode cX1_changeDeaths 11 = .ok (.iload_n 1, 1) := by decide +kernel
theorem dX1_changeDeaths_12 : decode cX1_changeDeaths 12 = .ok (.bipush 50, 2) := by decide +kernel
theorem dX1_changeDeaths_14 : decode cX1_changeDeaths 14 = .ok (.isub, 1) := by decide +kernel
theorem dX1_changeDeaths_15 : decode cX1_changeDeaths 15 = .ok (.iload_n 2, 1) := by decide +kernel
theorem dX1_changeDeaths_16 : decode cX1_changeDeaths 16 = .ok (.iastore, 1) := by decide +kernel
theorem dX1_changeDeaths_17 : decode cX1_changeDeaths 17 = .ok (.return_, 1) := by decide +kernel
theorem dX1_rate_0 : decode cX1_rate 0 = .ok (.iload_n 1, 1) := by decide +kernel
theorem dX1_rate_1 : decode cX1_rate 1 = .ok (.ifCond .lt 17, 3) := by decide +kernel
theorem dX1_rate_4 : decode cX1_rate 4 = .ok (.iload_n 1, 1) := by decide +kernel
theorem dX1_rate_5 : decode cX1_rate 5 = .ok (.iconst 3, 1) := by decide +kernel
theorem dX1_rate_6 : decode cX1_rate 6 = .ok (.if_icmp .ge 12, 3) := by decide +kernel
theorem dX1_rate_9 : decode cX1_rate 9 = .ok (.aload_n 0, 1) := by decide +kernel
theorem dX1_rate_10 : decode cX1_rate 10 = .ok (.getfield 15, 3) := by decide +kernel
theorem dX1_rate_13 : decode cX1_rate 13 = .ok (.iload_n 1, 1) := by decide +kernel
theorem dX1_rate_14 : decode cX1_rate 14 = .ok (.iaload, 1) := by decide +kernel
theorem dX1_rate_15 : decode cX1_rate 15 = .ok (.goto 4, 3) := by decide +kernel
theorem dX1_rate_18 : decode cX1_rate 18 = .ok (.iconst 0, 1) := by decide +kernel
theorem dX1_rate_19 : decode cX1_rate 19 = .ok (.ireturn, 1) := by decide +kernel
theorem dX1_changeRate_0 : decode cX1_changeRate 0 = .ok (.iload_n 1, 1) := by decide +kernel
theorem dX1_changeRate_1 : decode cX1_changeRate 1 = .ok (.ifCond .lt 15, 3) := by decide +kernel
theorem dX1_changeRate_4 : decode cX1_changeRate 4 = .ok (.iload_n 1, 1) := by decide +kernel
theorem dX1_changeRate_5 : decode cX1_changeRate 5 = .ok (.iconst 3, 1) := by decide +kernel
theorem dX1_changeRate_6 : decode cX1_changeRate 6 = .ok (.if_icmp .ge 10, 3) := by decide +kernel
theorem dX1_changeRate_9 : decode cX1_changeRate 9 = .ok (.aload_n 0, 1) := by decide +kernel
theorem dX1_changeRate_10 : decode cX1_changeRate 10 = .ok (.getfield 15, 3) := by decide +kernel
theorem dX1_changeRate_13 : decode cX1_changeRate 13 = .ok (.iload_n 1, 1) := by decide +kernel
theorem dX1_changeRate_14 : decode cX1_changeRate 14 = .ok (.iload_n 2, 1) := by decide +kernel
theorem dX1_changeRate_15 : decode cX1_changeRate 15 = .ok (.iastore, 1) := by decide +kernel
theorem dX1_changeRate_16 : decode cX1_changeRate 16 = .ok (.return_, 1) := by decide +kernel
set_option maxRecDepth 20000 in
theorem ggX1_worthNow_X1_worthWith : GoodIn wsX1_worthNow wsX1_worthWith := goodIn_r _ [6, 7, 8, 9, 5, 10, 11, 12, 13, 14, 15, 16] (by decide +kernel) (by decide +kernel)
set_option maxRecDepth 20000 in
theorem gX1_worthNow_X1_worthWith : GoodIn wsX1_worthNow (wsV RX1 22 RX1 yX1_worthWith wsX1_worthWith) := goodIn_app (goodIn_of _ (by decide +kernel)) ggX1_worthNow_X1_worthWith
theorem dX1_worthNow_0 : decode cX1_worthNow 0 = .ok (.aload_n 0, 1) := by decide +kernel
theorem dX1_worthNow_1 : decode cX1_worthNow 1 = .ok (.iload_n 1, 1) := by decide +kernel
theorem dX1_worthNow_2 : decode cX1_worthNow 2 = .ok (.iload_n 2, 1) := by decide +kernel
theorem dX1_worthNow_3 : decode cX1_worthNow 3 = .ok (.aload_n 0, 1) := by decide +kernel
theorem dX1_worthNow_4 : decode cX1_worthNow 4 = .ok (.getfield 15, 3) := by decide +kernel
theorem dX1_worthNow_7 : decode cX1_worthNow 7 = .ok (.iconst 0, 1) := by decide +kernel
theorem dX1_worthNow_8 : decode cX1_worthNow 8 = .ok (.iaload, 1) := by decide +kernel
theorem dX1_worthNow_9 : decode cX1_worthNow 9 = .ok (.invokevirtual 22, 3) := by decide +kernel
theorem dX1_worthNow_12 : decode cX1_worthNow 12 = .ok (.ireturn, 1) := by decide +kernel
set_option maxRecDepth 20000 in
theorem ggX1_worthWith_X1_deathsAt : GoodIn wsX1_worthWith wsX1_deathsAt := goodIn_r _ [5, 6, 7, 8, 9, 10, 11] (by decide +kernel) (by decide +kernel)
set_option maxRecDepth 20000 in
theorem gX1_worthWith_X1_deathsAt : GoodIn wsX1_worthWith (wsV RX1 26 RX1 yX1_deathsAt wsX1_deathsAt) := goodIn_app (goodIn_of _ (by decide +kernel)) ggX1_worthWith_X1_deathsAt
theorem dX1_worthWith_0 : decode cX1_worthWith 0 = .ok (.iload_n 1, 1) := by decide +kernel
theorem dX1_worthWith_1 : decode cX1_worthWith 1 = .ok (.iload_n 2, 1) := by decide +kernel
theorem dX1_worthWith_2 : decode cX1_worthWith 2 = .ok (.iadd, 1) := by decide +kernel
theorem dX1_worthWith_3 : decode cX1_worthWith 3 = .ok (.istore 4, 2) := by decide +kernel
theorem dX1_worthWith_5 : decode cX1_worthWith 5 = .ok (.iload 4, 2) := by decide +kernel
theorem dX1_worthWith_7 : decode cX1_worthWith 7 = .ok (.bipush 99, 2) := by decide +kernel
theorem dX1_worthWith_9 : decode cX1_worthWith 9 = .ok (.if_icmp .gt 7, 3) := by decide +kernel
theorem dX1_worthWith_12 : decode cX1_worthWith 12 = .ok (.iload_n 3, 1) := by decide +kernel
theorem dX1_worthWith_13 : decode cX1_worthWith 13 = .ok (.ifCond .ge 5, 3) := by decide +kernel
theorem dX1_worthWith_16 : decode cX1_worthWith 16 = .ok (.iconst 0, 1) := by decide +kernel
theorem dX1_worthWith_17 : decode cX1_worthWith 17 = .ok (.ireturn, 1) := by decide +kernel
theorem dX1_worthWith_18 : decode cX1_worthWith 18 = .ok (.iconst 0, 1) := by decide +kernel
theorem dX1_worthWith_19 : decode cX1_worthWith 19 = .ok (.istore 5, 2) := by decide +kernel
theorem dX1_worthWith_21 : decode cX1_worthWith 21 = .ok (.bipush 99, 2) := by decide +kernel
theorem dX1_worthWith_23 : decode cX1_worthWith 23 = .ok (.istore 6, 2) := by decide +kernel
theorem dX1_worthWith_25 : decode cX1_worthWith 25 = .ok (.iload 6, 2) := by decide +kernel
theorem dX1_worthWith_27 : decode cX1_worthWith 27 = .ok (.iload_n 1, 1) := by decide +kernel
theorem dX1_worthWith_28 : decode cX1_worthWith 28 = .ok (.if_icmp .lt 49, 3) := by decide +kernel
theorem dX1_worthWith_31 : decode cX1_worthWith 31 = .ok (.iload 6, 2) := by decide +kernel
theorem dX1_worthWith_33 : decode cX1_worthWith 33 = .ok (.iload 4, 2) := by decide +kernel
theorem dX1_worthWith_35 : decode cX1_worthWith 35 = .ok (.if_icmp .lt 9, 3) := by decide +kernel
theorem dX1_worthWith_38 : decode cX1_worthWith 38 = .ok (.sipush 1000, 3) := by decide +kernel
theorem dX1_worthWith_41 : decode cX1_worthWith 41 = .ok (.goto 4, 3) := by decide +kernel
theorem dX1_worthWith_44 : decode cX1_worthWith 44 = .ok (.iconst 0, 1) := by decide +kernel
theorem dX1_worthWith_45 : decode cX1_worthWith 45 = .ok (.istore 7, 2) := by decide +kernel
theorem dX1_worthWith_47 : decode cX1_worthWith 47 = .ok (.sipush 1000, 3) := by decide +kernel
theorem dX1_worthWith_50 : decode cX1_worthWith 50 = .ok (.aload_n 0, 1) := by decide +kernel
theorem dX1_worthWith_51 : decode cX1_worthWith 51 = .ok (.iload 6, 2) := by decide +kernel
theorem dX1_worthWith_53 : decode cX1_worthWith 53 = .ok (.invokevirtual 26, 3) := by decide +kernel
theorem dX1_worthWith_56 : decode cX1_worthWith 56 = .ok (.isub, 1) := by decide +kernel
theorem dX1_worthWith_57 : decode cX1_worthWith 57 = .ok (.iload 7, 2) := by decide +kernel
theorem dX1_worthWith_59 : decode cX1_worthWith 59 = .ok (.iload 5, 2) := by decide +kernel
theorem dX1_worthWith_61 : decode cX1_worthWith 61 = .ok (.iadd, 1) := by decide +kernel
theorem dX1_worthWith_62 : decode cX1_worthWith 62 = .ok (.imul, 1) := by decide +kernel
theorem dX1_worthWith_63 : decode cX1_worthWith 63 = .ok (.sipush 1000, 3) := by decide +kernel
theorem dX1_worthWith_66 : decode cX1_worthWith 66 = .ok (.iload_n 3, 1) := by decide +kernel
theorem dX1_worthWith_67 : decode cX1_worthWith 67 = .ok (.iadd, 1) := by decide +kernel
theorem dX1_worthWith_68 : decode cX1_worthWith 68 = .ok (.idiv, 1) := by decide +kernel
theorem dX1_worthWith_69 : decode cX1_worthWith 69 = .ok (.istore 5, 2) := by decide +kernel
theorem dX1_worthWith_71 : decode cX1_worthWith 71 = .ok (.iinc 6 (-1), 3) := by decide +kernel
theorem dX1_worthWith_74 : decode cX1_worthWith 74 = .ok (.goto (-49), 3) := by decide +kernel
theorem dX1_worthWith_77 : decode cX1_worthWith 77 = .ok (.iload 5, 2) := by decide +kernel
theorem dX1_worthWith_79 : decode cX1_worthWith 79 = .ok (.ireturn, 1) := by decide +kernel
theorem dX1_priceOf_0 : decode cX1_priceOf 0 = .ok (.iload_n 2, 1) := by decide +kernel
theorem dX1_priceOf_1 : decode cX1_priceOf 1 = .ok (.ifCond .ne 5, 3) := by decide +kernel
theorem dX1_priceOf_4 : decode cX1_priceOf 4 = .ok (.iconst 0, 1) := by decide +kernel
theorem dX1_priceOf_5 : decode cX1_priceOf 5 = .ok (.ireturn, 1) := by decide +kernel
theorem dX1_priceOf_6 : decode cX1_priceOf 6 = .ok (.iload_n 1, 1) := by decide +kernel
theorem dX1_priceOf_7 : decode cX1_priceOf 7 = .ok (.iload_n 2, 1) := by decide +kernel
theorem dX1_priceOf_8 : decode cX1_priceOf 8 = .ok (.imul, 1) := by decide +kernel
theorem dX1_priceOf_9 : decode cX1_priceOf 9 = .ok (.sipush 1000, 3) := by decide +kernel
theorem dX1_priceOf_12 : decode cX1_priceOf 12 = .ok (.idiv, 1) := by decide +kernel
theorem dX1_priceOf_13 : decode cX1_priceOf 13 = .ok (.istore_n 3, 1) := by decide +kernel
theorem dX1_priceOf_14 : decode cX1_priceOf 14 = .ok (.iload_n 3, 1) := by decide +kernel
theorem dX1_priceOf_15 : decode cX1_priceOf 15 = .ok (.iload_n 3, 1) := by decide +kernel
theorem dX1_priceOf_16 : decode cX1_priceOf 16 = .ok (.aload_n 0, 1) := by decide +kernel
theorem dX1_priceOf_17 : decode cX1_priceOf 17 = .ok (.getfield 15, 3) := by decide +kernel
theorem dX1_priceOf_20 : decode cX1_priceOf 20 = .ok (.iconst 1, 1) := by decide +kernel
theorem dX1_priceOf_21 : decode cX1_priceOf 21 = .ok (.iaload, 1) := by decide +kernel
theorem dX1_priceOf_22 : decode cX1_priceOf 22 = .ok (.imul, 1) := by decide +kernel
theorem dX1_priceOf_23 : decode cX1_priceOf 23 = .ok (.bipush 100, 2) := by decide +kernel
theorem dX1_priceOf_25 : decode cX1_priceOf 25 = .ok (.idiv, 1) := by decide +kernel
theorem dX1_priceOf_26 : decode cX1_priceOf 26 = .ok (.iadd, 1) := by decide +kernel
theorem dX1_priceOf_27 : decode cX1_priceOf 27 = .ok (.istore 4, 2) := by decide +kernel
theorem dX1_priceOf_29 : decode cX1_priceOf 29 = .ok (.iload 4, 2) := by decide +kernel
theorem dX1_priceOf_31 : decode cX1_priceOf 31 = .ok (.iconst 1, 1) := by decide +kernel
theorem dX1_priceOf_32 : decode cX1_priceOf 32 = .ok (.if_icmp .ge 7, 3) := by decide +kernel
theorem dX1_priceOf_35 : decode cX1_priceOf 35 = .ok (.iconst 1, 1) := by decide +kernel
theorem dX1_priceOf_36 : decode cX1_priceOf 36 = .ok (.goto 5, 3) := by decide +kernel
theorem dX1_priceOf_39 : decode cX1_priceOf 39 = .ok (.iload 4, 2) := by decide +kernel
theorem dX1_priceOf_41 : decode cX1_priceOf 41 = .ok (.ireturn, 1) := by decide +kernel
set_option maxRecDepth 20000 in
theorem ggX1_keptNow_X1_keptWith : GoodIn wsX1_keptNow wsX1_keptWith := goodIn_r _ [6, 7, 8, 9, 10, 11, 12, 13, 14, 15, 16, 17, 18, 5, 19, 20, 21, 22, 23, 24, 25, 26, 27, 30, 31, 32, 33, 34, 35, 36, 28, 29] (by decide +kernel) (by decide +kernel)
set_option maxRecDepth 20000 in
theorem gX1_keptNow_X1_keptWith : GoodIn wsX1_keptNow (wsV RX1 34 RX1 yX1_keptWith wsX1_keptWith) := goodIn_app (goodIn_of _ (by decide +kernel)) ggX1_keptNow_X1_keptWith
theorem dX1_keptNow_0 : decode cX1_keptNow 0 = .ok (.aload_n 0, 1) := by decide +kernel
theorem dX1_keptNow_1 : decode cX1_keptNow 1 = .ok (.aload_n 1, 1) := by decide +kernel
theorem dX1_keptNow_2 : decode cX1_keptNow 2 = .ok (.aload_n 0, 1) := by decide +kernel
theorem dX1_keptNow_3 : decode cX1_keptNow 3 = .ok (.getfield 15, 3) := by decide +kernel
theorem dX1_keptNow_6 : decode cX1_keptNow 6 = .ok (.iconst 0, 1) := by decide +kernel
theorem dX1_keptNow_7 : decode cX1_keptNow 7 = .ok (.iaload, 1) := by decide +kernel
theorem dX1_keptNow_8 : decode cX1_keptNow 8 = .ok (.invokevirtual 34, 3) := by decide +kernel
theorem dX1_keptNow_11 : decode cX1_keptNow 11 = .ok (.ireturn, 1) := by decide +kernel
set_option maxRecDepth 20000 in
theorem ggX1_keptWith_X2_lives : GoodIn wsX1_keptWith wsX2_lives := goodIn_r _ [8, 9, 23, 24, 25, 26, 27, 28, 29] (by decide +kernel) (by decide +kernel)
set_option maxRecDepth 20000 in
theorem gX1_keptWith_X2_lives : GoodIn wsX1_keptWith (wsV RX1 38 RX2 yX2_lives wsX2_lives) := goodIn_app (goodIn_of _ (by decide +kernel)) ggX1_keptWith_X2_lives
set_option maxRecDepth 20000 in
theorem ggX1_keptWith_X1_worthWith : GoodIn wsX1_keptWith wsX1_worthWith := goodIn_r _ [14, 15, 16, 17, 13, 18, 19, 20, 21, 22, 30, 31] (by decide +kernel) (by decide +kernel)
set_option maxRecDepth 20000 in
theorem gX1_keptWith_X1_worthWith : GoodIn wsX1_keptWith (wsV RX1 22 RX1 yX1_worthWith wsX1_worthWith) := goodIn_app (goodIn_of _ (by decide +kernel)) ggX1_keptWith_X1_worthWith
theorem dX1_keptWith_0 : decode cX1_keptWith 0 = .ok (.aload_n 1, 1) := by decide +kernel
theorem dX1_keptWith_1 : decode cX1_keptWith 1 = .ok (.invokevirtual 38, 3) := by decide +kernel
theorem dX1_keptWith_4 : decode cX1_keptWith 4 = .ok (.ifCond .eq 28, 3) := by decide +kernel
theorem dX1_keptWith_7 : decode cX1_keptWith 7 = .ok (.aload_n 1, 1) := by decide +kernel
theorem dX1_keptWith_8 : decode cX1_keptWith 8 = .ok (.getfield 44, 3) := by decide +kernel
theorem dX1_keptWith_11 : decode cX1_keptWith 11 = .ok (.aload_n 0, 1) := by decide +kernel
theorem dX1_keptWith_12 : decode cX1_keptWith 12 = .ok (.aload_n 1, 1) := by decide +kernel
theorem dX1_keptWith_13 : decode cX1_keptWith 13 = .ok (.getfield 48, 3) := by decide +kernel
theorem dX1_keptWith_16 : decode cX1_keptWith 16 = .ok (.aload_n 1, 1) := by decide +kernel
theorem dX1_keptWith_17 : decode cX1_keptWith 17 = .ok (.getfield 51, 3) := by decide +kernel
theorem dX1_keptWith_20 : decode cX1_keptWith 20 = .ok (.iload_n 2, 1) := by decide +kernel
theorem dX1_keptWith_21 : decode cX1_keptWith 21 = .ok (.invokevirtual 22, 3) := by decide +kernel
theorem dX1_keptWith_24 : decode cX1_keptWith 24 = .ok (.imul, 1) := by decide +kernel
theorem dX1_keptWith_25 : decode cX1_keptWith 25 = .ok (.sipush 1000, 3) := by decide +kernel
theorem dX1_keptWith_28 : decode cX1_keptWith 28 = .ok (.idiv, 1) := by decide +kernel
theorem dX1_keptWith_29 : decode cX1_keptWith 29 = .ok (.goto 4, 3) := by decide +kernel
theorem dX1_keptWith_32 : decode cX1_keptWith 32 = .ok (.iconst 0, 1) := by decide +kernel
theorem dX1_keptWith_33 : decode cX1_keptWith 33 = .ok (.ireturn, 1) := by decide +kernel
set_option maxRecDepth 20000 in
theorem ggX1_givenBack_X2_canGiveUp : GoodIn wsX1_givenBack wsX2_canGiveUp := goodIn_r _ [6, 7, 8, 9, 10, 5, 11, 12, 40, 41, 42, 43, 44, 45, 46] (by decide +kernel) (by decide +kernel)
set_option maxRecDepth 20000 in
theorem gX1_givenBack_X2_canGiveUp : GoodIn wsX1_givenBack (wsV RX1 54 RX2 yX2_canGiveUp wsX2_canGiveUp) := goodIn_app (goodIn_of _ (by decide +kernel)) ggX1_givenBack_X2_canGiveUp
set_option maxRecDepth 20000 in
theorem ggX1_givenBack_X1_keptNow : GoodIn wsX1_givenBack wsX1_keptNow := goodIn_r _ [17, 1, 18, 19, 20, 16, 21, 22, 23, 24, 25, 9, 10, 5, 11, 12, 26, 27, 28, 29, 30, 31, 32, 33, 34, 35, 36, 37, 38, 39, 40, 41, 42, 43, 44, 45, 46] (by decide +kernel) (by decide +kernel)
set_option maxRecDepth 20000 in
theorem gX1_givenBack_X1_keptNow : GoodIn wsX1_givenBack (wsV RX1 57 RX1 yX1_keptNow wsX1_keptNow) := goodIn_app (goodIn_of _ (by decide +kernel)) ggX1_givenBack_X1_keptNow
theorem dX1_givenBack_0 : decode cX1_givenBack 0 = .ok (.aload_n 1, 1) := by decide +kernel
theorem dX1_givenBack_1 : decode cX1_givenBack 1 = .ok (.invokevirtual 54, 3) := by decide +kernel
theorem dX1_givenBack_4 : decode cX1_givenBack 4 = .ok (.ifCond .ne 5, 3) := by decide +kernel
theorem dX1_givenBack_7 : decode cX1_givenBack 7 = .ok (.iconst 0, 1) := by decide +kernel
theorem dX1_givenBack_8 : decode cX1_givenBack 8 = .ok (.ireturn, 1) := by decide +kernel
theorem dX1_givenBack_9 : decode cX1_givenBack 9 = .ok (.aload_n 0, 1) := by decide +kernel
theorem dX1_givenBack_10 : decode cX1_givenBack 10 = .ok (.aload_n 1, 1) := by decide +kernel
theorem dX1_givenBack_11 : decode cX1_givenBack 11 = .ok (.invokevirtual 57, 3) := by decide +kernel
theorem dX1_givenBack_14 : decode cX1_givenBack 14 = .ok (.istore_n 2, 1) := by decide +kernel
theorem dX1_givenBack_15 : decode cX1_givenBack 15 = .ok (.iload_n 2, 1) := by decide +kernel
theorem dX1_givenBack_16 : decode cX1_givenBack 16 = .ok (.iload_n 2, 1) := by decide +kernel
theorem dX1_givenBack_17 : decode cX1_givenBack 17 = .ok (.aload_n 0, 1) := by decide +kernel
theorem dX1_givenBack_18 : decode cX1_givenBack 18 = .ok (.getfield 15, 3) := by decide +kernel
theorem dX1_givenBack_21 : decode cX1_givenBack 21 = .ok (.iconst 2, 1) := by decide +kernel
theorem dX1_givenBack_22 : decode cX1_givenBack 22 = .ok (.iaload, 1) := by decide +kernel
theorem dX1_givenBack_23 : decode cX1_givenBack 23 = .ok (.imul, 1) := by decide +kernel
theorem dX1_givenBack_24 : decode cX1_givenBack 24 = .ok (.bipush 100, 2) := by decide +kernel
theorem dX1_givenBack_26 : decode cX1_givenBack 26 = .ok (.idiv, 1) := by decide +kernel
theorem dX1_givenBack_27 : decode cX1_givenBack 27 = .ok (.isub, 1) := by decide +kernel
theorem dX1_givenBack_28 : decode cX1_givenBack 28 = .ok (.ireturn, 1) := by decide +kernel
set_option maxRecDepth 20000 in
theorem ggX1_tellOf_X1_keptNow : GoodIn wsX1_tellOf wsX1_keptNow := goodIn_r _ [12, 13, 14, 15, 16, 11, 17, 2, 1, 3, 18, 19, 20, 21, 22, 23, 24, 25, 26, 27, 28, 29, 30, 31, 32, 33, 34, 35, 53, 54, 46, 47, 48, 49, 50, 51, 52] (by decide +kernel) (by decide +kernel)
set_option maxRecDepth 20000 in
theorem gX1_tellOf_X1_keptNow : GoodIn wsX1_tellOf (wsV RX1 57 RX1 yX1_keptNow wsX1_keptNow) := goodIn_app (goodIn_of _ (by decide +kernel)) ggX1_tellOf_X1_keptNow
set_option maxRecDepth 20000 in
theorem ggX1_tellOf_X1_givenBack : GoodIn wsX1_tellOf wsX1_givenBack := goodIn_r _ [39, 13, 40, 41, 42, 21, 43, 44, 45, 19, 20, 22, 23, 8, 9, 10, 11, 12, 14, 15, 16, 17, 2, 1, 3, 18, 24, 25, 26, 27, 28, 29, 30, 31, 32, 33, 34, 35, 53, 54, 46, 47, 48, 49, 50, 51, 52] (by decide +kernel) (by decide +kernel)
set_option maxRecDepth 20000 in
theorem gX1_tellOf_X1_givenBack : GoodIn wsX1_tellOf (wsV RX1 73 RX1 yX1_givenBack wsX1_givenBack) := goodIn_app (goodIn_of _ (by decide +kernel)) ggX1_tellOf_X1_givenBack
theorem dX1_tellOf_0 : decode cX1_tellOf 0 = .ok (.iload_n 2, 1) := by decide +kernel
theorem dX1_tellOf_1 : decode cX1_tellOf 1 = .ok (.tableswitch 88 0 7 #[47, 52, 57, 62, 67, 72, 78, 83], 47) := by decide +kernel
theorem dX1_tellOf_48 : decode cX1_tellOf 48 = .ok (.aload_n 1, 1) := by decide +kernel
theorem dX1_tellOf_49 : decode cX1_tellOf 49 = .ok (.getfield 48, 3) := by decide +kernel
theorem dX1_tellOf_52 : decode cX1_tellOf 52 = .ok (.ireturn, 1) := by decide +kernel
theorem dX1_tellOf_53 : decode cX1_tellOf 53 = .ok (.aload_n 1, 1) := by decide +kernel
theorem dX1_tellOf_54 : decode cX1_tellOf 54 = .ok (.getfield 44, 3) := by decide +kernel
theorem dX1_tellOf_57 : decode cX1_tellOf 57 = .ok (.ireturn, 1) := by decide +kernel
theorem dX1_tellOf_58 : decode cX1_tellOf 58 = .ok (.aload_n 1, 1) := by decide +kernel
theorem dX1_tellOf_59 : decode cX1_tellOf 59 = .ok (.getfield 51, 3) := by decide +kernel
theorem dX1_tellOf_62 : decode cX1_tellOf 62 = .ok (.ireturn, 1) := by decide +kernel
theorem dX1_tellOf_63 : decode cX1_tellOf 63 = .ok (.aload_n 1, 1) := by decide +kernel
theorem dX1_tellOf_64 : decode cX1_tellOf 64 = .ok (.getfield 61, 3) := by decide +kernel
theorem dX1_tellOf_67 : decode cX1_tellOf 67 = .ok (.ireturn, 1) := by decide +kernel
theorem dX1_tellOf_68 : decode cX1_tellOf 68 = .ok (.aload_n 1, 1) := by decide +kernel
theorem dX1_tellOf_69 : decode cX1_tellOf 69 = .ok (.getfield 64, 3) := by decide +kernel
theorem dX1_tellOf_72 : decode cX1_tellOf 72 = .ok (.ireturn, 1) := by decide +kernel
theorem dX1_tellOf_73 : decode cX1_tellOf 73 = .ok (.aload_n 0, 1) := by decide +kernel
theorem dX1_tellOf_74 : decode cX1_tellOf 74 = .ok (.aload_n 1, 1) := by decide +kernel
theorem dX1_tellOf_75 : decode cX1_tellOf 75 = .ok (.invokevirtual 57, 3) := by decide +kernel
theorem dX1_tellOf_78 : decode cX1_tellOf 78 = .ok (.ireturn, 1) := by decide +kernel
theorem dX1_tellOf_79 : decode cX1_tellOf 79 = .ok (.aload_n 1, 1) := by decide +kernel
theorem dX1_tellOf_80 : decode cX1_tellOf 80 = .ok (.getfield 67, 3) := by decide +kernel
theorem dX1_tellOf_83 : decode cX1_tellOf 83 = .ok (.ireturn, 1) := by decide +kernel
theorem dX1_tellOf_84 : decode cX1_tellOf 84 = .ok (.aload_n 1, 1) := by decide +kernel
theorem dX1_tellOf_85 : decode cX1_tellOf 85 = .ok (.getfield 70, 3) := by decide +kernel
theorem dX1_tellOf_88 : decode cX1_tellOf 88 = .ok (.ireturn, 1) := by decide +kernel
theorem dX1_tellOf_89 : decode cX1_tellOf 89 = .ok (.aload_n 0, 1) := by decide +kernel
theorem dX1_tellOf_90 : decode cX1_tellOf 90 = .ok (.aload_n 1, 1) := by decide +kernel
theorem dX1_tellOf_91 : decode cX1_tellOf 91 = .ok (.invokevirtual 73, 3) := by decide +kernel
theorem dX1_tellOf_94 : decode cX1_tellOf 94 = .ok (.ireturn, 1) := by decide +kernel
theorem dX2_init_0 : decode cX2_init 0 = .ok (.aload_n 0, 1) := by decide +kernel
theorem dX2_init_1 : decode cX2_init 1 = .ok (.invokespecial 3, 3) := by decide +kernel
theorem dX2_init_4 : decode cX2_init 4 = .ok (.return_, 1) := by decide +kernel
theorem dX2_lives_0 : decode cX2_lives 0 = .ok (.aload_n 0, 1) := by decide +kernel
theorem dX2_lives_1 : decode cX2_lives 1 = .ok (.getfield 9, 3) := by decide +kernel
theorem dX2_lives_4 : decode cX2_lives 4 = .ok (.ifCond .ne 7, 3) := by decide +kernel
theorem dX2_lives_7 : decode cX2_lives 7 = .ok (.iconst 1, 1) := by decide +kernel
theorem dX2_lives_8 : decode cX2_lives 8 = .ok (.goto 4, 3) := by decide +kernel
theorem dX2_lives_11 : decode cX2_lives 11 = .ok (.iconst 0, 1) := by decide +kernel
theorem dX2_lives_12 : decode cX2_lives 12 = .ok (.ireturn, 1) := by decide +kernel
set_option maxRecDepth 20000 in
theorem ggX2_canGiveUp_X2_lives : GoodIn wsX2_canGiveUp wsX2_lives := goodIn_r _ [6, 7, 8, 9, 10, 11, 12, 13, 14] (by decide +kernel) (by decide +kernel)
set_option maxRecDepth 20000 in
theorem gX2_canGiveUp_X2_lives : GoodIn wsX2_canGiveUp (wsV RX2 15 RX2 yX2_lives wsX2_lives) := goodIn_app (goodIn_of _ (by decide +kernel)) ggX2_canGiveUp_X2_lives
theorem dX2_canGiveUp_0 : decode cX2_canGiveUp 0 = .ok (.aload_n 0, 1) := by decide +kernel
theorem dX2_canGiveUp_1 : decode cX2_canGiveUp 1 = .ok (.invokevirtual 15, 3) := by decide +kernel
theorem dX2_canGiveUp_4 : decode cX2_canGiveUp 4 = .ok (.ifCond .eq 15, 3) := by decide +kernel
theorem dX2_canGiveUp_7 : decode cX2_canGiveUp 7 = .ok (.aload_n 0, 1) := by decide +kernel
theorem dX2_canGiveUp_8 : decode cX2_canGiveUp 8 = .ok (.getfield 19, 3) := by decide +kernel
theorem dX2_canGiveUp_11 : decode cX2_canGiveUp 11 = .ok (.iconst 2, 1) := by decide +kernel
theorem dX2_canGiveUp_12 : decode cX2_canGiveUp 12 = .ok (.if_icmp .lt 7, 3) := by decide +kernel
theorem dX2_canGiveUp_15 : decode cX2_canGiveUp 15 = .ok (.iconst 1, 1) := by decide +kernel
theorem dX2_canGiveUp_16 : decode cX2_canGiveUp 16 = .ok (.goto 4, 3) := by decide +kernel
theorem dX2_canGiveUp_19 : decode cX2_canGiveUp 19 = .ok (.iconst 0, 1) := by decide +kernel
theorem dX2_canGiveUp_20 : decode cX2_canGiveUp 20 = .ok (.ireturn, 1) := by decide +kernel
theorem dX2_start_0 : decode cX2_start 0 = .ok (.aload_n 0, 1) := by decide +kernel
theorem dX2_start_1 : decode cX2_start 1 = .ok (.iload_n 1, 1) := by decide +kernel
theorem dX2_start_2 : decode cX2_start 2 = .ok (.putfield 22, 3) := by decide +kernel
theorem dX2_start_5 : decode cX2_start 5 = .ok (.aload_n 0, 1) := by decide +kernel
theorem dX2_start_6 : decode cX2_start 6 = .ok (.iload_n 2, 1) := by decide +kernel
theorem dX2_start_7 : decode cX2_start 7 = .ok (.putfield 25, 3) := by decide +kernel
theorem dX2_start_10 : decode cX2_start 10 = .ok (.aload_n 0, 1) := by decide +kernel
theorem dX2_start_11 : decode cX2_start 11 = .ok (.iload_n 3, 1) := by decide +kernel
theorem dX2_start_12 : decode cX2_start 12 = .ok (.putfield 28, 3) := by decide +kernel
theorem dX2_start_15 : decode cX2_start 15 = .ok (.aload_n 0, 1) := by decide +kernel
theorem dX2_start_16 : decode cX2_start 16 = .ok (.iconst 0, 1) := by decide +kernel
theorem dX2_start_17 : decode cX2_start 17 = .ok (.putfield 19, 3) := by decide +kernel
theorem dX2_start_20 : decode cX2_start 20 = .ok (.aload_n 0, 1) := by decide +kernel
theorem dX2_start_21 : decode cX2_start 21 = .ok (.iconst 0, 1) := by decide +kernel
theorem dX2_start_22 : decode cX2_start 22 = .ok (.putfield 9, 3) := by decide +kernel
theorem dX2_start_25 : decode cX2_start 25 = .ok (.aload_n 0, 1) := by decide +kernel
theorem dX2_start_26 : decode cX2_start 26 = .ok (.iconst 0, 1) := by decide +kernel
theorem dX2_start_27 : decode cX2_start 27 = .ok (.putfield 31, 3) := by decide +kernel
theorem dX2_start_30 : decode cX2_start 30 = .ok (.aload_n 0, 1) := by decide +kernel
theorem dX2_start_31 : decode cX2_start 31 = .ok (.iload 4, 2) := by decide +kernel
theorem dX2_start_33 : decode cX2_start 33 = .ok (.putfield 34, 3) := by decide +kernel
theorem dX2_start_36 : decode cX2_start 36 = .ok (.return_, 1) := by decide +kernel
theorem dX2_liveYear_0 : decode cX2_liveYear 0 = .ok (.aload_n 0, 1) := by decide +kernel
theorem dX2_liveYear_1 : decode cX2_liveYear 1 = .ok (.getfield 28, 3) := by decide +kernel
theorem dX2_liveYear_4 : decode cX2_liveYear 4 = .ok (.ifCond .ne 10, 3) := by decide +kernel
theorem dX2_liveYear_7 : decode cX2_liveYear 7 = .ok (.aload_n 0, 1) := by decide +kernel
theorem dX2_liveYear_8 : decode cX2_liveYear 8 = .ok (.getfield 25, 3) := by decide +kernel
theorem dX2_liveYear_11 : decode cX2_liveYear 11 = .ok (.goto 4, 3) := by decide +kernel
theorem dX2_liveYear_14 : decode cX2_liveYear 14 = .ok (.iconst 0, 1) := by decide +kernel
theorem dX2_liveYear_15 : decode cX2_liveYear 15 = .ok (.istore_n 1, 1) := by decide +kernel
theorem dX2_liveYear_16 : decode cX2_liveYear 16 = .ok (.aload_n 0, 1) := by decide +kernel
theorem dX2_liveYear_17 : decode cX2_liveYear 17 = .ok (.getfield 28, 3) := by decide +kernel
theorem dX2_liveYear_20 : decode cX2_liveYear 20 = .ok (.ifCond .le 13, 3) := by decide +kernel
theorem dX2_liveYear_23 : decode cX2_liveYear 23 = .ok (.aload_n 0, 1) := by decide +kernel
theorem dX2_liveYear_24 : decode cX2_liveYear 24 = .ok (.dup, 1) := by decide +kernel
theorem dX2_liveYear_25 : decode cX2_liveYear 25 = .ok (.getfield 28, 3) := by decide +kernel
theorem dX2_liveYear_28 : decode cX2_liveYear 28 = .ok (.iconst 1, 1) := by decide +kernel
theorem dX2_liveYear_29 : decode cX2_liveYear 29 = .ok (.isub, 1) := by decide +kernel
theorem dX2_liveYear_30 : decode cX2_liveYear 30 = .ok (.putfield 28, 3) := by decide +kernel
theorem dX2_liveYear_33 : decode cX2_liveYear 33 = .ok (.aload_n 0, 1) := by decide +kernel
theorem dX2_liveYear_34 : decode cX2_liveYear 34 = .ok (.dup, 1) := by decide +kernel
theorem dX2_liveYear_35 : decode cX2_liveYear 35 = .ok (.getfield 31, 3) := by decide +kernel
theorem dX2_liveYear_38 : decode cX2_liveYear 38 = .ok (.iload_n 1, 1) := by decide +kernel
theorem dX2_liveYear_39 : decode cX2_liveYear 39 = .ok (.iadd, 1) := by decide +kernel
theorem dX2_liveYear_40 : decode cX2_liveYear 40 = .ok (.putfield 31, 3) := by decide +kernel
theorem dX2_liveYear_43 : decode cX2_liveYear 43 = .ok (.aload_n 0, 1) := by decide +kernel
theorem dX2_liveYear_44 : decode cX2_liveYear 44 = .ok (.dup, 1) := by decide +kernel
theorem dX2_liveYear_45 : decode cX2_liveYear 45 = .ok (.getfield 22, 3) := by decide +kernel
theorem dX2_liveYear_48 : decode cX2_liveYear 48 = .ok (.iconst 1, 1) := by decide +kernel
theorem dX2_liveYear_49 : decode cX2_liveYear 49 = .ok (.iadd, 1) := by decide +kernel
theorem dX2_liveYear_50 : decode cX2_liveYear 50 = .ok (.putfield 22, 3) := by decide +kernel
theorem dX2_liveYear_53 : decode cX2_liveYear 53 = .ok (.aload_n 0, 1) := by decide +kernel
theorem dX2_liveYear_54 : decode cX2_liveYear 54 = .ok (.dup, 1) := by decide +kernel
theorem dX2_liveYear_55 : decode cX2_liveYear 55 = .ok (.getfield 19, 3) := by decide +kernel
theorem dX2_liveYear_58 : decode cX2_liveYear 58 = .ok (.iconst 1, 1) := by decide +kernel
theorem dX2_liveYear_59 : decode cX2_liveYear 59 = .ok (.iadd, 1) := by decide +kernel
theorem dX2_liveYear_60 : decode cX2_liveYear 60 = .ok (.putfield 19, 3) := by decide +kernel
theorem dX2_liveYear_63 : decode cX2_liveYear 63 = .ok (.aload_n 0, 1) := by decide +kernel
theorem dX2_liveYear_64 : decode cX2_liveYear 64 = .ok (.getfield 22, 3) := by decide +kernel
theorem dX2_liveYear_67 : decode cX2_liveYear 67 = .ok (.bipush 99, 2) := by decide +kernel
theorem dX2_liveYear_69 : decode cX2_liveYear 69 = .ok (.if_icmp .le 8, 3) := by decide +kernel
theorem dX2_liveYear_72 : decode cX2_liveYear 72 = .ok (.aload_n 0, 1) := by decide +kernel
theorem dX2_liveYear_73 : decode cX2_liveYear 73 = .ok (.iconst 1, 1) := by decide +kernel
theorem dX2_liveYear_74 : decode cX2_liveYear 74 = .ok (.putfield 9, 3) := by decide +kernel
theorem dX2_liveYear_77 : decode cX2_liveYear 77 = .ok (.iload_n 1, 1) := by decide +kernel
theorem dX2_liveYear_78 : decode cX2_liveYear 78 = .ok (.ireturn, 1) := by decide +kernel
set_option maxRecDepth 20000 in
theorem ggX3_init_X1_init : GoodIn wsX3_init wsX1_init := goodIn_r _ [15, 16, 2, 3, 17, 18, 19, 32, 33] (by decide +kernel) (by decide +kernel)
set_option maxRecDepth 20000 in
theorem gX3_init_X1_init : GoodIn wsX3_init (wsX1_init) := ggX3_init_X1_init
set_option maxRecDepth 20000 in
theorem ggX3_init_X0_init : GoodIn wsX3_init wsX0_init := goodIn_r _ [22, 23, 2, 3, 24, 25, 26, 27, 28, 29, 30, 31, 37, 38, 39, 40, 41, 42, 43, 44, 45, 46, 47, 48, 49, 50] (by decide +kernel) (by decide +kernel)
set_option maxRecDepth 20000 in
theorem gX3_init_X0_init : GoodIn wsX3_init (wsX0_init) := ggX3_init_X0_init
theorem dX3_init_0 : decode cX3_init 0 = .ok (.aload_n 0, 1) := by decide +kernel
theorem dX3_init_1 : decode cX3_init 1 = .ok (.invokespecial 3, 3) := by decide +kernel
theorem dX3_init_4 : decode cX3_init 4 = .ok (.aload_n 0, 1) := by decide +kernel
theorem dX3_init_5 : decode cX3_init 5 = .ok (.new 9, 3) := by decide +kernel
theorem dX3_init_8 : decode cX3_init 8 = .ok (.dup, 1) := by decide +kernel
theorem dX3_init_9 : decode cX3_init 9 = .ok (.invokespecial 11, 3) := by decide +kernel
theorem dX3_init_12 : decode cX3_init 12 = .ok (.putfield 12, 3) := by decide +kernel
theorem dX3_init_15 : decode cX3_init 15 = .ok (.aload_n 0, 1) := by decide +kernel
theorem dX3_init_16 : decode cX3_init 16 = .ok (.new 16, 3) := by decide +kernel
theorem dX3_init_19 : decode cX3_init 19 = .ok (.dup, 1) := by decide +kernel
theorem dX3_init_20 : decode cX3_init 20 = .ok (.aload_n 0, 1) := by decide +kernel
theorem dX3_init_21 : decode cX3_init 21 = .ok (.getfield 12, 3) := by decide +kernel
theorem dX3_init_24 : decode cX3_init 24 = .ok (.invokespecial 18, 3) := by decide +kernel
theorem dX3_init_27 : decode cX3_init 27 = .ok (.putfield 21, 3) := by decide +kernel
theorem dX3_init_30 : decode cX3_init 30 = .ok (.aload_n 0, 1) := by decide +kernel
theorem dX3_init_31 : decode cX3_init 31 = .ok (.new 16, 3) := by decide +kernel
theorem dX3_init_34 : decode cX3_init 34 = .ok (.dup, 1) := by decide +kernel
theorem dX3_init_35 : decode cX3_init 35 = .ok (.aload_n 0, 1) := by decide +kernel
theorem dX3_init_36 : decode cX3_init 36 = .ok (.getfield 12, 3) := by decide +kernel
theorem dX3_init_39 : decode cX3_init 39 = .ok (.invokespecial 18, 3) := by decide +kernel
theorem dX3_init_42 : decode cX3_init 42 = .ok (.putfield 25, 3) := by decide +kernel
theorem dX3_init_45 : decode cX3_init 45 = .ok (.return_, 1) := by decide +kernel
set_option maxRecDepth 20000 in
theorem ggX3_setDeaths_X3_isAge : GoodIn wsX3_setDeaths wsX3_isAge := goodIn_r _ [9] (by decide +kernel) (by decide +kernel)
set_option maxRecDepth 20000 in
theorem gX3_setDeaths_X3_isAge : GoodIn wsX3_setDeaths (va_wsS RX3 28 yX3_isAge wsX3_isAge) := goodIn_app (goodIn_of _ (by decide +kernel)) ggX3_setDeaths_X3_isAge
set_option maxRecDepth 20000 in
theorem ggX3_setDeaths_X1_deathsAt : GoodIn wsX3_setDeaths wsX1_deathsAt := goodIn_r _ [14, 15, 7, 8, 9, 23, 24] (by decide +kernel) (by decide +kernel)
set_option maxRecDepth 20000 in
theorem gX3_setDeaths_X1_deathsAt : GoodIn wsX3_setDeaths (wsV RX3 44 RX1 yX1_deathsAt wsX1_deathsAt) := goodIn_app (goodIn_of _ (by decide +kernel)) ggX3_setDeaths_X1_deathsAt
set_option maxRecDepth 20000 in
theorem ggX3_setDeaths_X1_changeDeaths : GoodIn wsX3_setDeaths wsX1_changeDeaths := goodIn_r _ [19, 15, 7, 8, 9, 23, 24] (by decide +kernel) (by decide +kernel)
set_option maxRecDepth 20000 in
theorem gX3_setDeaths_X1_changeDeaths : GoodIn wsX3_setDeaths (wsV RX3 48 RX1 yX1_changeDeaths wsX1_changeDeaths) := goodIn_app (goodIn_of _ (by decide +kernel)) ggX3_setDeaths_X1_changeDeaths
theorem dX3_setDeaths_0 : decode cX3_setDeaths 0 = .ok (.iload_n 1, 1) := by decide +kernel
theorem dX3_setDeaths_1 : decode cX3_setDeaths 1 = .ok (.invokestatic 28, 3) := by decide +kernel
theorem dX3_setDeaths_4 : decode cX3_setDeaths 4 = .ok (.ifCond .ne 13, 3) := by decide +kernel
theorem dX3_setDeaths_7 : decode cX3_setDeaths 7 = .ok (.new 32, 3) := by decide +kernel
theorem dX3_setDeaths_10 : decode cX3_setDeaths 10 = .ok (.dup, 1) := by decide +kernel
theorem dX3_setDeaths_11 : decode cX3_setDeaths 11 = .ok (.ldc 34, 2) := by decide +kernel
theorem dX3_setDeaths_13 : decode cX3_setDeaths 13 = .ok (.invokespecial 36, 3) := by decide +kernel
theorem dX3_setDeaths_16 : decode cX3_setDeaths 16 = .ok (.athrow, 1) := by decide +kernel
theorem dX3_setDeaths_17 : decode cX3_setDeaths 17 = .ok (.iload_n 2, 1) := by decide +kernel
theorem dX3_setDeaths_18 : decode cX3_setDeaths 18 = .ok (.ifCond .lt 10, 3) := by decide +kernel
theorem dX3_setDeaths_21 : decode cX3_setDeaths 21 = .ok (.iload_n 2, 1) := by decide +kernel
theorem dX3_setDeaths_22 : decode cX3_setDeaths 22 = .ok (.sipush 1000, 3) := by decide +kernel
theorem dX3_setDeaths_25 : decode cX3_setDeaths 25 = .ok (.if_icmp .le 13, 3) := by decide +kernel
theorem dX3_setDeaths_28 : decode cX3_setDeaths 28 = .ok (.new 39, 3) := by decide +kernel
theorem dX3_setDeaths_31 : decode cX3_setDeaths 31 = .ok (.dup, 1) := by decide +kernel
theorem dX3_setDeaths_32 : decode cX3_setDeaths 32 = .ok (.ldc 41, 2) := by decide +kernel
theorem dX3_setDeaths_34 : decode cX3_setDeaths 34 = .ok (.invokespecial 43, 3) := by decide +kernel
theorem dX3_setDeaths_37 : decode cX3_setDeaths 37 = .ok (.athrow, 1) := by decide +kernel
theorem dX3_setDeaths_38 : decode cX3_setDeaths 38 = .ok (.aload_n 0, 1) := by decide +kernel
theorem dX3_setDeaths_39 : decode cX3_setDeaths 39 = .ok (.getfield 12, 3) := by decide +kernel
theorem dX3_setDeaths_42 : decode cX3_setDeaths 42 = .ok (.iload_n 1, 1) := by decide +kernel
theorem dX3_setDeaths_43 : decode cX3_setDeaths 43 = .ok (.invokevirtual 44, 3) := by decide +kernel
theorem dX3_setDeaths_46 : decode cX3_setDeaths 46 = .ok (.istore_n 3, 1) := by decide +kernel
theorem dX3_setDeaths_47 : decode cX3_setDeaths 47 = .ok (.aload_n 0, 1) := by decide +kernel
theorem dX3_setDeaths_48 : decode cX3_setDeaths 48 = .ok (.getfield 12, 3) := by decide +kernel
end
section
theorem dX3_setDeaths_51 : decode cX3_setDeaths 51 = .ok (.iload_n 1, 1) := by decide +kernel
theorem dX3_setDeaths_52 : decode cX3_setDeaths 52 = .ok (.iload_n 2, 1) := by decide +kernel
theorem dX3_setDeaths_53 : decode cX3_setDeaths 53 = .ok (.invokevirtual 48, 3) := by decide +kernel
theorem dX3_setDeaths_56 : decode cX3_setDeaths 56 = .ok (.iload_n 3, 1) := by decide +kernel
theorem dX3_setDeaths_57 : decode cX3_setDeaths 57 = .ok (.ireturn, 1) := by decide +kernel
set_option maxRecDepth 20000 in
theorem ggX3_setRate_X1_rate : GoodIn wsX3_setRate wsX1_rate := goodIn_r _ [10, 11, 19, 20] (by decide +kernel) (by decide +kernel)
set_option maxRecDepth 20000 in
theorem gX3_setRate_X1_rate : GoodIn wsX3_setRate (wsV RX3 56 RX1 yX1_rate wsX1_rate) := goodIn_app (goodIn_of _ (by decide +kernel)) ggX3_setRate_X1_rate
set_option maxRecDepth 20000 in
theorem ggX3_setRate_X1_changeRate : GoodIn wsX3_setRate wsX1_changeRate := goodIn_r _ [15, 11, 19, 20] (by decide +kernel) (by decide +kernel)
set_option maxRecDepth 20000 in
theorem gX3_setRate_X1_changeRate : GoodIn wsX3_setRate (wsV RX3 59 RX1 yX1_changeRate wsX1_changeRate) := goodIn_app (goodIn_of _ (by decide +kernel)) ggX3_setRate_X1_changeRate
theorem dX3_setRate_0 : decode cX3_setRate 0 = .ok (.iload_n 1, 1) := by decide +kernel
theorem dX3_setRate_1 : decode cX3_setRate 1 = .ok (.ifCond .lt 8, 3) := by decide +kernel
theorem dX3_setRate_4 : decode cX3_setRate 4 = .ok (.iload_n 1, 1) := by decide +kernel
theorem dX3_setRate_5 : decode cX3_setRate 5 = .ok (.iconst 3, 1) := by decide +kernel
theorem dX3_setRate_6 : decode cX3_setRate 6 = .ok (.if_icmp .lt 13, 3) := by decide +kernel
theorem dX3_setRate_9 : decode cX3_setRate 9 = .ok (.new 32, 3) := by decide +kernel
theorem dX3_setRate_12 : decode cX3_setRate 12 = .ok (.dup, 1) := by decide +kernel
theorem dX3_setRate_13 : decode cX3_setRate 13 = .ok (.ldc 52, 2) := by decide +kernel
theorem dX3_setRate_15 : decode cX3_setRate 15 = .ok (.invokespecial 36, 3) := by decide +kernel
theorem dX3_setRate_18 : decode cX3_setRate 18 = .ok (.athrow, 1) := by decide +kernel
theorem dX3_setRate_19 : decode cX3_setRate 19 = .ok (.iload_n 2, 1) := by decide +kernel
theorem dX3_setRate_20 : decode cX3_setRate 20 = .ok (.ifCond .lt 19, 3) := by decide +kernel
theorem dX3_setRate_23 : decode cX3_setRate 23 = .ok (.iload_n 2, 1) := by decide +kernel
theorem dX3_setRate_24 : decode cX3_setRate 24 = .ok (.iload_n 1, 1) := by decide +kernel
theorem dX3_setRate_25 : decode cX3_setRate 25 = .ok (.ifCond .ne 9, 3) := by decide +kernel
theorem dX3_setRate_28 : decode cX3_setRate 28 = .ok (.sipush 200, 3) := by decide +kernel
theorem dX3_setRate_31 : decode cX3_setRate 31 = .ok (.goto 5, 3) := by decide +kernel
theorem dX3_setRate_34 : decode cX3_setRate 34 = .ok (.bipush 50, 2) := by decide +kernel
theorem dX3_setRate_36 : decode cX3_setRate 36 = .ok (.if_icmp .le 13, 3) := by decide +kernel
theorem dX3_setRate_39 : decode cX3_setRate 39 = .ok (.new 39, 3) := by decide +kernel
theorem dX3_setRate_42 : decode cX3_setRate 42 = .ok (.dup, 1) := by decide +kernel
theorem dX3_setRate_43 : decode cX3_setRate 43 = .ok (.ldc 54, 2) := by decide +kernel
theorem dX3_setRate_45 : decode cX3_setRate 45 = .ok (.invokespecial 43, 3) := by decide +kernel
theorem dX3_setRate_48 : decode cX3_setRate 48 = .ok (.athrow, 1) := by decide +kernel
theorem dX3_setRate_49 : decode cX3_setRate 49 = .ok (.aload_n 0, 1) := by decide +kernel
theorem dX3_setRate_50 : decode cX3_setRate 50 = .ok (.getfield 12, 3) := by decide +kernel
theorem dX3_setRate_53 : decode cX3_setRate 53 = .ok (.iload_n 1, 1) := by decide +kernel
theorem dX3_setRate_54 : decode cX3_setRate 54 = .ok (.invokevirtual 56, 3) := by decide +kernel
theorem dX3_setRate_57 : decode cX3_setRate 57 = .ok (.istore_n 3, 1) := by decide +kernel
theorem dX3_setRate_58 : decode cX3_setRate 58 = .ok (.aload_n 0, 1) := by decide +kernel
theorem dX3_setRate_59 : decode cX3_setRate 59 = .ok (.getfield 12, 3) := by decide +kernel
theorem dX3_setRate_62 : decode cX3_setRate 62 = .ok (.iload_n 1, 1) := by decide +kernel
theorem dX3_setRate_63 : decode cX3_setRate 63 = .ok (.iload_n 2, 1) := by decide +kernel
theorem dX3_setRate_64 : decode cX3_setRate 64 = .ok (.invokevirtual 59, 3) := by decide +kernel
theorem dX3_setRate_67 : decode cX3_setRate 67 = .ok (.iload_n 3, 1) := by decide +kernel
theorem dX3_setRate_68 : decode cX3_setRate 68 = .ok (.ireturn, 1) := by decide +kernel
set_option maxRecDepth 20000 in
theorem ggX3_buy_X3_checkAge : GoodIn wsX3_buy wsX3_checkAge := goodIn_ca (goodIn_r _ [8, 9, 10, 11, 12, 7, 13] (by decide +kernel) (by decide +kernel)) (goodIn_sub (fun _ h => List.mem_cons_of_mem _ (List.mem_append_right _ h)) (by decide +kernel))
set_option maxRecDepth 20000 in
theorem gX3_buy_X3_checkAge : GoodIn wsX3_buy (va_wsS RX3 62 yX3_checkAge wsX3_checkAge) := goodIn_app (goodIn_of _ (by decide +kernel)) ggX3_buy_X3_checkAge
set_option maxRecDepth 20000 in
theorem ggX3_buy_X3_checkSum : GoodIn wsX3_buy wsX3_checkSum := goodIn_ca (goodIn_r _ [16, 9, 10] (by decide +kernel) (by decide +kernel)) (goodIn_sub (fun _ h => List.mem_cons_of_mem _ (List.mem_append_right _ h)) (by decide +kernel))
set_option maxRecDepth 20000 in
theorem gX3_buy_X3_checkSum : GoodIn wsX3_buy (va_wsS RX3 66 yX3_checkSum wsX3_checkSum) := goodIn_app (goodIn_of _ (by decide +kernel)) ggX3_buy_X3_checkSum
set_option maxRecDepth 20000 in
theorem ggX3_buy_X3_checkPutOff : GoodIn wsX3_buy wsX3_checkPutOff := goodIn_ca (goodIn_r _ [19, 9, 10] (by decide +kernel) (by decide +kernel)) (goodIn_sub (fun _ h => List.mem_cons_of_mem _ (List.mem_append_right _ h)) (by decide +kernel))
set_option maxRecDepth 20000 in
theorem gX3_buy_X3_checkPutOff : GoodIn wsX3_buy (va_wsS RX3 69 yX3_checkPutOff wsX3_checkPutOff) := goodIn_app (goodIn_of _ (by decide +kernel)) ggX3_buy_X3_checkPutOff
set_option maxRecDepth 20000 in
theorem ggX3_buy_X0_isFull : GoodIn wsX3_buy wsX0_isFull := goodIn_r _ [24, 25, 76, 77, 78, 79, 80, 81, 82] (by decide +kernel) (by decide +kernel)
set_option maxRecDepth 20000 in
theorem gX3_buy_X0_isFull : GoodIn wsX3_buy (wsV RX3 72 RX0 yX0_isFull wsX0_isFull) := goodIn_app (goodIn_of _ (by decide +kernel)) ggX3_buy_X0_isFull
set_option maxRecDepth 20000 in
theorem ggX3_buy_X1_worthNow : GoodIn wsX3_buy wsX1_worthNow := goodIn_r _ [30, 31, 32, 33, 34, 29, 35, 36, 37, 38, 39, 40, 12, 7, 13, 83, 84] (by decide +kernel) (by decide +kernel)
set_option maxRecDepth 20000 in
theorem gX3_buy_X1_worthNow : GoodIn wsX3_buy (wsV RX3 81 RX1 yX1_worthNow wsX1_worthNow) := goodIn_app (goodIn_of _ (by decide +kernel)) ggX3_buy_X1_worthNow
set_option maxRecDepth 20000 in
theorem ggX3_buy_X1_priceOf : GoodIn wsX3_buy wsX1_priceOf := goodIn_r _ [44, 31, 83, 84] (by decide +kernel) (by decide +kernel)
set_option maxRecDepth 20000 in
theorem gX3_buy_X1_priceOf : GoodIn wsX3_buy (wsV RX3 87 RX1 yX1_priceOf wsX1_priceOf) := goodIn_app (goodIn_of _ (by decide +kernel)) ggX3_buy_X1_priceOf
set_option maxRecDepth 20000 in
theorem ggX3_buy_X0_write : GoodIn wsX3_buy wsX0_write := goodIn_r _ [48, 25, 49, 50, 51, 52, 23, 53, 54, 55, 56, 57, 58, 59, 60, 61, 62, 63, 64, 65, 66, 67, 68, 69, 70, 71, 72, 76, 77, 78, 79, 80, 81, 82, 85, 86, 87, 88, 89, 90, 91] (by decide +kernel) (by decide +kernel)
set_option maxRecDepth 20000 in
theorem gX3_buy_X0_write : GoodIn wsX3_buy (wsV RX3 90 RX0 yX0_write wsX0_write) := goodIn_app (goodIn_of _ (by decide +kernel)) ggX3_buy_X0_write
theorem dX3_buy_0 : decode cX3_buy 0 = .ok (.iload_n 1, 1) := by decide +kernel
theorem dX3_buy_1 : decode cX3_buy 1 = .ok (.invokestatic 62, 3) := by decide +kernel
theorem dX3_buy_4 : decode cX3_buy 4 = .ok (.iload_n 2, 1) := by decide +kernel
theorem dX3_buy_5 : decode cX3_buy 5 = .ok (.invokestatic 66, 3) := by decide +kernel
theorem dX3_buy_8 : decode cX3_buy 8 = .ok (.iload_n 3, 1) := by decide +kernel
theorem dX3_buy_9 : decode cX3_buy 9 = .ok (.invokestatic 69, 3) := by decide +kernel
theorem dX3_buy_12 : decode cX3_buy 12 = .ok (.aload_n 0, 1) := by decide +kernel
theorem dX3_buy_13 : decode cX3_buy 13 = .ok (.getfield 21, 3) := by decide +kernel
theorem dX3_buy_16 : decode cX3_buy 16 = .ok (.invokevirtual 72, 3) := by decide +kernel
theorem dX3_buy_19 : decode cX3_buy 19 = .ok (.ifCond .eq 13, 3) := by decide +kernel
theorem dX3_buy_22 : decode cX3_buy 22 = .ok (.new 76, 3) := by decide +kernel
theorem dX3_buy_25 : decode cX3_buy 25 = .ok (.dup, 1) := by decide +kernel
theorem dX3_buy_26 : decode cX3_buy 26 = .ok (.ldc 78, 2) := by decide +kernel
theorem dX3_buy_28 : decode cX3_buy 28 = .ok (.invokespecial 80, 3) := by decide +kernel
theorem dX3_buy_31 : decode cX3_buy 31 = .ok (.athrow, 1) := by decide +kernel
theorem dX3_buy_32 : decode cX3_buy 32 = .ok (.aload_n 0, 1) := by decide +kernel
theorem dX3_buy_33 : decode cX3_buy 33 = .ok (.getfield 12, 3) := by decide +kernel
theorem dX3_buy_36 : decode cX3_buy 36 = .ok (.iload_n 1, 1) := by decide +kernel
theorem dX3_buy_37 : decode cX3_buy 37 = .ok (.iload_n 3, 1) := by decide +kernel
theorem dX3_buy_38 : decode cX3_buy 38 = .ok (.invokevirtual 81, 3) := by decide +kernel
theorem dX3_buy_41 : decode cX3_buy 41 = .ok (.istore 4, 2) := by decide +kernel
theorem dX3_buy_43 : decode cX3_buy 43 = .ok (.iload 4, 2) := by decide +kernel
theorem dX3_buy_45 : decode cX3_buy 45 = .ok (.ifCond .ne 13, 3) := by decide +kernel
theorem dX3_buy_48 : decode cX3_buy 48 = .ok (.new 76, 3) := by decide +kernel
theorem dX3_buy_51 : decode cX3_buy 51 = .ok (.dup, 1) := by decide +kernel
theorem dX3_buy_52 : decode cX3_buy 52 = .ok (.ldc 85, 2) := by decide +kernel
theorem dX3_buy_54 : decode cX3_buy 54 = .ok (.invokespecial 80, 3) := by decide +kernel
theorem dX3_buy_57 : decode cX3_buy 57 = .ok (.athrow, 1) := by decide +kernel
theorem dX3_buy_58 : decode cX3_buy 58 = .ok (.aload_n 0, 1) := by decide +kernel
theorem dX3_buy_59 : decode cX3_buy 59 = .ok (.getfield 21, 3) := by decide +kernel
theorem dX3_buy_62 : decode cX3_buy 62 = .ok (.iload_n 1, 1) := by decide +kernel
theorem dX3_buy_63 : decode cX3_buy 63 = .ok (.iload_n 2, 1) := by decide +kernel
theorem dX3_buy_64 : decode cX3_buy 64 = .ok (.iload_n 3, 1) := by decide +kernel
theorem dX3_buy_65 : decode cX3_buy 65 = .ok (.aload_n 0, 1) := by decide +kernel
theorem dX3_buy_66 : decode cX3_buy 66 = .ok (.getfield 12, 3) := by decide +kernel
theorem dX3_buy_69 : decode cX3_buy 69 = .ok (.iload_n 2, 1) := by decide +kernel
theorem dX3_buy_70 : decode cX3_buy 70 = .ok (.iload 4, 2) := by decide +kernel
theorem dX3_buy_72 : decode cX3_buy 72 = .ok (.invokevirtual 87, 3) := by decide +kernel
theorem dX3_buy_75 : decode cX3_buy 75 = .ok (.invokevirtual 90, 3) := by decide +kernel
theorem dX3_buy_78 : decode cX3_buy 78 = .ok (.ireturn, 1) := by decide +kernel
set_option maxRecDepth 20000 in
theorem ggX3_die_X3_checkWidow : GoodIn wsX3_die wsX3_checkWidow := goodIn_ca (goodIn_r _ [10, 11, 12, 3, 13, 51, 52, 53, 61, 62, 63, 64, 65, 66, 67] (by decide +kernel) (by decide +kernel)) (goodIn_sub (fun _ h => List.mem_cons_of_mem _ (List.mem_append_right _ h)) (by decide +kernel))
set_option maxRecDepth 20000 in
theorem gX3_die_X3_checkWidow : GoodIn wsX3_die (wsV RX3 94 RX3 yX3_checkWidow wsX3_checkWidow) := goodIn_app (goodIn_of _ (by decide +kernel)) ggX3_die_X3_checkWidow
set_option maxRecDepth 20000 in
theorem ggX3_die_X0_widowAt : GoodIn wsX3_die wsX0_widowAt := goodIn_r _ [18, 19, 61, 62, 63, 64, 65, 66, 67] (by decide +kernel) (by decide +kernel)
set_option maxRecDepth 20000 in
theorem gX3_die_X0_widowAt : GoodIn wsX3_die (wsV RX3 97 RX0 yX0_widowAt wsX0_widowAt) := goodIn_app (goodIn_of _ (by decide +kernel)) ggX3_die_X0_widowAt
set_option maxRecDepth 20000 in
theorem ggX3_die_X2_lives : GoodIn wsX3_die wsX2_lives := goodIn_r _ [24, 25, 54, 55, 56, 57, 58, 59, 60] (by decide +kernel) (by decide +kernel)
set_option maxRecDepth 20000 in
theorem gX3_die_X2_lives : GoodIn wsX3_die (wsV RX3 101 RX2 yX2_lives wsX2_lives) := goodIn_app (goodIn_of _ (by decide +kernel)) ggX3_die_X2_lives
set_option maxRecDepth 20000 in
theorem ggX3_die_X1_keptNow : GoodIn wsX3_die wsX1_keptNow := goodIn_r _ [30, 31, 32, 33, 34, 29, 35, 36, 37, 38, 39, 21, 22, 23, 24, 25, 40, 41, 42, 43, 44, 45, 46, 47, 48, 49, 9, 50, 68, 69, 54, 55, 56, 57, 58, 59, 60] (by decide +kernel) (by decide +kernel)
set_option maxRecDepth 20000 in
theorem gX3_die_X1_keptNow : GoodIn wsX3_die (wsV RX3 108 RX1 yX1_keptNow wsX1_keptNow) := goodIn_app (goodIn_of _ (by decide +kernel)) ggX3_die_X1_keptNow
theorem dX3_die_0 : decode cX3_die 0 = .ok (.aload_n 0, 1) := by decide +kernel
theorem dX3_die_1 : decode cX3_die 1 = .ok (.iload_n 1, 1) := by decide +kernel
theorem dX3_die_2 : decode cX3_die 2 = .ok (.invokevirtual 94, 3) := by decide +kernel
theorem dX3_die_5 : decode cX3_die 5 = .ok (.aload_n 0, 1) := by decide +kernel
theorem dX3_die_6 : decode cX3_die 6 = .ok (.getfield 21, 3) := by decide +kernel
theorem dX3_die_9 : decode cX3_die 9 = .ok (.iload_n 1, 1) := by decide +kernel
theorem dX3_die_10 : decode cX3_die 10 = .ok (.invokevirtual 97, 3) := by decide +kernel
theorem dX3_die_13 : decode cX3_die 13 = .ok (.astore_n 2, 1) := by decide +kernel
theorem dX3_die_14 : decode cX3_die 14 = .ok (.aload_n 2, 1) := by decide +kernel
theorem dX3_die_15 : decode cX3_die 15 = .ok (.invokevirtual 101, 3) := by decide +kernel
theorem dX3_die_18 : decode cX3_die 18 = .ok (.ifCond .ne 13, 3) := by decide +kernel
theorem dX3_die_21 : decode cX3_die 21 = .ok (.new 76, 3) := by decide +kernel
theorem dX3_die_24 : decode cX3_die 24 = .ok (.dup, 1) := by decide +kernel
theorem dX3_die_25 : decode cX3_die 25 = .ok (.ldc 106, 2) := by decide +kernel
theorem dX3_die_27 : decode cX3_die 27 = .ok (.invokespecial 80, 3) := by decide +kernel
theorem dX3_die_30 : decode cX3_die 30 = .ok (.athrow, 1) := by decide +kernel
theorem dX3_die_31 : decode cX3_die 31 = .ok (.aload_n 0, 1) := by decide +kernel
theorem dX3_die_32 : decode cX3_die 32 = .ok (.getfield 12, 3) := by decide +kernel
theorem dX3_die_35 : decode cX3_die 35 = .ok (.aload_n 2, 1) := by decide +kernel
theorem dX3_die_36 : decode cX3_die 36 = .ok (.invokevirtual 108, 3) := by decide +kernel
theorem dX3_die_39 : decode cX3_die 39 = .ok (.istore_n 3, 1) := by decide +kernel
theorem dX3_die_40 : decode cX3_die 40 = .ok (.aload_n 2, 1) := by decide +kernel
theorem dX3_die_41 : decode cX3_die 41 = .ok (.iconst 1, 1) := by decide +kernel
theorem dX3_die_42 : decode cX3_die 42 = .ok (.putfield 112, 3) := by decide +kernel
theorem dX3_die_45 : decode cX3_die 45 = .ok (.iload_n 3, 1) := by decide +kernel
theorem dX3_die_46 : decode cX3_die 46 = .ok (.ireturn, 1) := by decide +kernel
set_option maxRecDepth 20000 in
theorem ggX3_giveUp_X3_checkWidow : GoodIn wsX3_giveUp wsX3_checkWidow := goodIn_ca (goodIn_r _ [11, 12, 13, 3, 14, 68, 69, 70, 78, 79, 80, 81, 82, 83, 84] (by decide +kernel) (by decide +kernel)) (goodIn_sub (fun _ h => List.mem_cons_of_mem _ (List.mem_append_right _ h)) (by decide +kernel))
set_option maxRecDepth 20000 in
theorem gX3_giveUp_X3_checkWidow : GoodIn wsX3_giveUp (wsV RX3 94 RX3 yX3_checkWidow wsX3_checkWidow) := goodIn_app (goodIn_of _ (by decide +kernel)) ggX3_giveUp_X3_checkWidow
set_option maxRecDepth 20000 in
theorem ggX3_giveUp_X0_widowAt : GoodIn wsX3_giveUp wsX0_widowAt := goodIn_r _ [19, 20, 78, 79, 80, 81, 82, 83, 84] (by decide +kernel) (by decide +kernel)
set_option maxRecDepth 20000 in
theorem gX3_giveUp_X0_widowAt : GoodIn wsX3_giveUp (wsV RX3 97 RX0 yX0_widowAt wsX0_widowAt) := goodIn_app (goodIn_of _ (by decide +kernel)) ggX3_giveUp_X0_widowAt
set_option maxRecDepth 20000 in
theorem ggX3_giveUp_X2_canGiveUp : GoodIn wsX3_giveUp wsX2_canGiveUp := goodIn_r _ [25, 26, 27, 28, 29, 24, 30, 31, 71, 72, 73, 74, 75, 76, 77] (by decide +kernel) (by decide +kernel)
set_option maxRecDepth 20000 in
theorem gX3_giveUp_X2_canGiveUp : GoodIn wsX3_giveUp (wsV RX3 116 RX2 yX2_canGiveUp wsX2_canGiveUp) := goodIn_app (goodIn_of _ (by decide +kernel)) ggX3_giveUp_X2_canGiveUp
set_option maxRecDepth 20000 in
theorem ggX3_giveUp_X1_givenBack : GoodIn wsX3_giveUp wsX1_givenBack := goodIn_r _ [36, 37, 38, 22, 23, 24, 25, 26, 27, 28, 29, 30, 31, 39, 40, 41, 35, 42, 43, 44, 45, 46, 47, 48, 49, 50, 51, 52, 53, 54, 55, 56, 57, 58, 59, 60, 10, 61, 85, 86, 71, 72, 73, 74, 75, 76, 77] (by decide +kernel) (by decide +kernel)
set_option maxRecDepth 20000 in
theorem gX3_giveUp_X1_givenBack : GoodIn wsX3_giveUp (wsV RX3 121 RX1 yX1_givenBack wsX1_givenBack) := goodIn_app (goodIn_of _ (by decide +kernel)) ggX3_giveUp_X1_givenBack
set_option maxRecDepth 20000 in
theorem ggX3_giveUp_X0_payOut : GoodIn wsX3_giveUp wsX0_payOut := goodIn_r _ [65, 66, 67, 78, 79, 80, 81, 82, 83, 84] (by decide +kernel) (by decide +kernel)
set_option maxRecDepth 20000 in
theorem gX3_giveUp_X0_payOut : GoodIn wsX3_giveUp (wsV RX3 127 RX0 yX0_payOut wsX0_payOut) := goodIn_app (goodIn_of _ (by decide +kernel)) ggX3_giveUp_X0_payOut
theorem dX3_giveUp_0 : decode cX3_giveUp 0 = .ok (.aload_n 0, 1) := by decide +kernel
theorem dX3_giveUp_1 : decode cX3_giveUp 1 = .ok (.iload_n 1, 1) := by decide +kernel
theorem dX3_giveUp_2 : decode cX3_giveUp 2 = .ok (.invokevirtual 94, 3) := by decide +kernel
theorem dX3_giveUp_5 : decode cX3_giveUp 5 = .ok (.aload_n 0, 1) := by decide +kernel
theorem dX3_giveUp_6 : decode cX3_giveUp 6 = .ok (.getfield 21, 3) := by decide +kernel
theorem dX3_giveUp_9 : decode cX3_giveUp 9 = .ok (.iload_n 1, 1) := by decide +kernel
theorem dX3_giveUp_10 : decode cX3_giveUp 10 = .ok (.invokevirtual 97, 3) := by decide +kernel
theorem dX3_giveUp_13 : decode cX3_giveUp 13 = .ok (.astore_n 2, 1) := by decide +kernel
theorem dX3_giveUp_14 : decode cX3_giveUp 14 = .ok (.aload_n 2, 1) := by decide +kernel
theorem dX3_giveUp_15 : decode cX3_giveUp 15 = .ok (.invokevirtual 116, 3) := by decide +kernel
theorem dX3_giveUp_18 : decode cX3_giveUp 18 = .ok (.ifCond .ne 13, 3) := by decide +kernel
theorem dX3_giveUp_21 : decode cX3_giveUp 21 = .ok (.new 76, 3) := by decide +kernel
theorem dX3_giveUp_24 : decode cX3_giveUp 24 = .ok (.dup, 1) := by decide +kernel
theorem dX3_giveUp_25 : decode cX3_giveUp 25 = .ok (.ldc 119, 2) := by decide +kernel
theorem dX3_giveUp_27 : decode cX3_giveUp 27 = .ok (.invokespecial 80, 3) := by decide +kernel
theorem dX3_giveUp_30 : decode cX3_giveUp 30 = .ok (.athrow, 1) := by decide +kernel
theorem dX3_giveUp_31 : decode cX3_giveUp 31 = .ok (.aload_n 0, 1) := by decide +kernel
theorem dX3_giveUp_32 : decode cX3_giveUp 32 = .ok (.getfield 12, 3) := by decide +kernel
theorem dX3_giveUp_35 : decode cX3_giveUp 35 = .ok (.aload_n 2, 1) := by decide +kernel
theorem dX3_giveUp_36 : decode cX3_giveUp 36 = .ok (.invokevirtual 121, 3) := by decide +kernel
theorem dX3_giveUp_39 : decode cX3_giveUp 39 = .ok (.istore_n 3, 1) := by decide +kernel
theorem dX3_giveUp_40 : decode cX3_giveUp 40 = .ok (.aload_n 2, 1) := by decide +kernel
theorem dX3_giveUp_41 : decode cX3_giveUp 41 = .ok (.iconst 2, 1) := by decide +kernel
theorem dX3_giveUp_42 : decode cX3_giveUp 42 = .ok (.putfield 112, 3) := by decide +kernel
theorem dX3_giveUp_45 : decode cX3_giveUp 45 = .ok (.aload_n 2, 1) := by decide +kernel
theorem dX3_giveUp_46 : decode cX3_giveUp 46 = .ok (.dup, 1) := by decide +kernel
theorem dX3_giveUp_47 : decode cX3_giveUp 47 = .ok (.getfield 124, 3) := by decide +kernel
theorem dX3_giveUp_50 : decode cX3_giveUp 50 = .ok (.iload_n 3, 1) := by decide +kernel
theorem dX3_giveUp_51 : decode cX3_giveUp 51 = .ok (.iadd, 1) := by decide +kernel
theorem dX3_giveUp_52 : decode cX3_giveUp 52 = .ok (.putfield 124, 3) := by decide +kernel
theorem dX3_giveUp_55 : decode cX3_giveUp 55 = .ok (.aload_n 0, 1) := by decide +kernel
theorem dX3_giveUp_56 : decode cX3_giveUp 56 = .ok (.getfield 21, 3) := by decide +kernel
theorem dX3_giveUp_59 : decode cX3_giveUp 59 = .ok (.iload_n 3, 1) := by decide +kernel
theorem dX3_giveUp_60 : decode cX3_giveUp 60 = .ok (.invokevirtual 127, 3) := by decide +kernel
theorem dX3_giveUp_63 : decode cX3_giveUp 63 = .ok (.iload_n 3, 1) := by decide +kernel
theorem dX3_giveUp_64 : decode cX3_giveUp 64 = .ok (.ireturn, 1) := by decide +kernel
set_option maxRecDepth 20000 in
theorem ggX3_put_X0_takeIn : GoodIn wsX3_put wsX0_takeIn := goodIn_r _ [11, 12, 13, 17, 18, 19, 20, 21, 22, 23] (by decide +kernel) (by decide +kernel)
set_option maxRecDepth 20000 in
theorem gX3_put_X0_takeIn : GoodIn wsX3_put (wsV RX3 134 RX0 yX0_takeIn wsX0_takeIn) := goodIn_app (goodIn_of _ (by decide +kernel)) ggX3_put_X0_takeIn
theorem dX3_put_0 : decode cX3_put 0 = .ok (.iload_n 1, 1) := by decide +kernel
theorem dX3_put_1 : decode cX3_put 1 = .ok (.ldc 130, 2) := by decide +kernel
theorem dX3_put_3 : decode cX3_put 3 = .ok (.if_icmp .lt 9, 3) := by decide +kernel
theorem dX3_put_6 : decode cX3_put 6 = .ok (.iload_n 1, 1) := by decide +kernel
theorem dX3_put_7 : decode cX3_put 7 = .ok (.ldc 131, 2) := by decide +kernel
theorem dX3_put_9 : decode cX3_put 9 = .ok (.if_icmp .le 13, 3) := by decide +kernel
theorem dX3_put_12 : decode cX3_put 12 = .ok (.new 39, 3) := by decide +kernel
theorem dX3_put_15 : decode cX3_put 15 = .ok (.dup, 1) := by decide +kernel
theorem dX3_put_16 : decode cX3_put 16 = .ok (.ldc 132, 2) := by decide +kernel
theorem dX3_put_18 : decode cX3_put 18 = .ok (.invokespecial 43, 3) := by decide +kernel
theorem dX3_put_21 : decode cX3_put 21 = .ok (.athrow, 1) := by decide +kernel
theorem dX3_put_22 : decode cX3_put 22 = .ok (.aload_n 0, 1) := by decide +kernel
theorem dX3_put_23 : decode cX3_put 23 = .ok (.getfield 21, 3) := by decide +kernel
theorem dX3_put_26 : decode cX3_put 26 = .ok (.iload_n 1, 1) := by decide +kernel
theorem dX3_put_27 : decode cX3_put 27 = .ok (.invokevirtual 134, 3) := by decide +kernel
theorem dX3_put_30 : decode cX3_put 30 = .ok (.aload_n 0, 1) := by decide +kernel
theorem dX3_put_31 : decode cX3_put 31 = .ok (.getfield 21, 3) := by decide +kernel
theorem dX3_put_34 : decode cX3_put 34 = .ok (.getfield 137, 3) := by decide +kernel
theorem dX3_put_37 : decode cX3_put 37 = .ok (.ireturn, 1) := by decide +kernel
set_option maxRecDepth 20000 in
theorem ggX3_price_X3_checkAge : GoodIn wsX3_price wsX3_checkAge := goodIn_ca (goodIn_r _ [5, 6, 7, 8, 9, 4, 10] (by decide +kernel) (by decide +kernel)) (goodIn_sub (fun _ h => List.mem_cons_of_mem _ (List.mem_append_right _ h)) (by decide +kernel))
set_option maxRecDepth 20000 in
theorem gX3_price_X3_checkAge : GoodIn wsX3_price (va_wsS RX3 62 yX3_checkAge wsX3_checkAge) := goodIn_app (goodIn_of _ (by decide +kernel)) ggX3_price_X3_checkAge
set_option maxRecDepth 20000 in
theorem ggX3_price_X3_checkSum : GoodIn wsX3_price wsX3_checkSum := goodIn_ca (goodIn_r _ [13, 6, 7] (by decide +kernel) (by decide +kernel)) (goodIn_sub (fun _ h => List.mem_cons_of_mem _ (List.mem_append_right _ h)) (by decide +kernel))
set_option maxRecDepth 20000 in
theorem gX3_price_X3_checkSum : GoodIn wsX3_price (va_wsS RX3 66 yX3_checkSum wsX3_checkSum) := goodIn_app (goodIn_of _ (by decide +kernel)) ggX3_price_X3_checkSum
set_option maxRecDepth 20000 in
theorem ggX3_price_X3_checkPutOff : GoodIn wsX3_price wsX3_checkPutOff := goodIn_ca (goodIn_r _ [16, 6, 7] (by decide +kernel) (by decide +kernel)) (goodIn_sub (fun _ h => List.mem_cons_of_mem _ (List.mem_append_right _ h)) (by decide +kernel))
set_option maxRecDepth 20000 in
theorem gX3_price_X3_checkPutOff : GoodIn wsX3_price (va_wsS RX3 69 yX3_checkPutOff wsX3_checkPutOff) := goodIn_app (goodIn_of _ (by decide +kernel)) ggX3_price_X3_checkPutOff
set_option maxRecDepth 20000 in
theorem ggX3_price_X1_worthNow : GoodIn wsX3_price wsX1_worthNow := goodIn_r _ [21, 22, 23, 24, 25, 20, 26, 27, 28, 29, 30, 31, 9, 4, 10, 39, 40] (by decide +kernel) (by decide +kernel)
set_option maxRecDepth 20000 in
theorem gX3_price_X1_worthNow : GoodIn wsX3_price (wsV RX3 81 RX1 yX1_worthNow wsX1_worthNow) := goodIn_app (goodIn_of _ (by decide +kernel)) ggX3_price_X1_worthNow
set_option maxRecDepth 20000 in
theorem ggX3_price_X1_priceOf : GoodIn wsX3_price wsX1_priceOf := goodIn_r _ [35, 22, 39, 40] (by decide +kernel) (by decide +kernel)
set_option maxRecDepth 20000 in
theorem gX3_price_X1_priceOf : GoodIn wsX3_price (wsV RX3 87 RX1 yX1_priceOf wsX1_priceOf) := goodIn_app (goodIn_of _ (by decide +kernel)) ggX3_price_X1_priceOf
theorem dX3_price_0 : decode cX3_price 0 = .ok (.iload_n 1, 1) := by decide +kernel
theorem dX3_price_1 : decode cX3_price 1 = .ok (.invokestatic 62, 3) := by decide +kernel
theorem dX3_price_4 : decode cX3_price 4 = .ok (.iload_n 2, 1) := by decide +kernel
theorem dX3_price_5 : decode cX3_price 5 = .ok (.invokestatic 66, 3) := by decide +kernel
theorem dX3_price_8 : decode cX3_price 8 = .ok (.iload_n 3, 1) := by decide +kernel
theorem dX3_price_9 : decode cX3_price 9 = .ok (.invokestatic 69, 3) := by decide +kernel
theorem dX3_price_12 : decode cX3_price 12 = .ok (.aload_n 0, 1) := by decide +kernel
theorem dX3_price_13 : decode cX3_price 13 = .ok (.getfield 12, 3) := by decide +kernel
theorem dX3_price_16 : decode cX3_price 16 = .ok (.iload_n 2, 1) := by decide +kernel
theorem dX3_price_17 : decode cX3_price 17 = .ok (.aload_n 0, 1) := by decide +kernel
theorem dX3_price_18 : decode cX3_price 18 = .ok (.getfield 12, 3) := by decide +kernel
theorem dX3_price_21 : decode cX3_price 21 = .ok (.iload_n 1, 1) := by decide +kernel
theorem dX3_price_22 : decode cX3_price 22 = .ok (.iload_n 3, 1) := by decide +kernel
theorem dX3_price_23 : decode cX3_price 23 = .ok (.invokevirtual 81, 3) := by decide +kernel
theorem dX3_price_26 : decode cX3_price 26 = .ok (.invokevirtual 87, 3) := by decide +kernel
theorem dX3_price_29 : decode cX3_price 29 = .ok (.ireturn, 1) := by decide +kernel
set_option maxRecDepth 20000 in
theorem ggX3_told_X3_checkWidow : GoodIn wsX3_told wsX3_checkWidow := goodIn_ca (goodIn_r _ [9, 1, 2, 4, 10, 65, 66, 67, 68, 69, 70, 71, 72, 73, 74] (by decide +kernel) (by decide +kernel)) (goodIn_sub (fun _ h => List.mem_cons_of_mem _ (List.mem_append_right _ h)) (by decide +kernel))
set_option maxRecDepth 20000 in
theorem gX3_told_X3_checkWidow : GoodIn wsX3_told (wsV RX3 94 RX3 yX3_checkWidow wsX3_checkWidow) := goodIn_app (goodIn_of _ (by decide +kernel)) ggX3_told_X3_checkWidow
set_option maxRecDepth 20000 in
theorem ggX3_told_X0_widowAt : GoodIn wsX3_told wsX0_widowAt := goodIn_r _ [15, 16, 68, 69, 70, 71, 72, 73, 74] (by decide +kernel) (by decide +kernel)
set_option maxRecDepth 20000 in
theorem gX3_told_X0_widowAt : GoodIn wsX3_told (wsV RX3 97 RX0 yX0_widowAt wsX0_widowAt) := goodIn_app (goodIn_of _ (by decide +kernel)) ggX3_told_X0_widowAt
set_option maxRecDepth 20000 in
theorem ggX3_told_X1_tellOf : GoodIn wsX3_told wsX1_tellOf := goodIn_r _ [21, 22, 23, 24, 25, 26, 27, 28, 29, 30, 31, 20, 32, 33, 34, 35, 36, 37, 38, 39, 40, 41, 42, 43, 44, 45, 46, 47, 48, 49, 50, 51, 52, 53, 8, 54, 55, 56, 57, 58, 59, 60, 61, 62, 63, 64, 75, 76, 77, 78, 79, 80, 81, 82, 83] (by decide +kernel) (by decide +kernel)
set_option maxRecDepth 20000 in
theorem gX3_told_X1_tellOf : GoodIn wsX3_told (wsV RX3 142 RX1 yX1_tellOf wsX1_tellOf) := goodIn_app (goodIn_of _ (by decide +kernel)) ggX3_told_X1_tellOf
theorem dX3_told_0 : decode cX3_told 0 = .ok (.aload_n 0, 1) := by decide +kernel
theorem dX3_told_1 : decode cX3_told 1 = .ok (.iload_n 1, 1) := by decide +kernel
theorem dX3_told_2 : decode cX3_told 2 = .ok (.invokevirtual 94, 3) := by decide +kernel
theorem dX3_told_5 : decode cX3_told 5 = .ok (.iload_n 2, 1) := by decide +kernel
theorem dX3_told_6 : decode cX3_told 6 = .ok (.ifCond .lt 9, 3) := by decide +kernel
theorem dX3_told_9 : decode cX3_told 9 = .ok (.iload_n 2, 1) := by decide +kernel
theorem dX3_told_10 : decode cX3_told 10 = .ok (.bipush 9, 2) := by decide +kernel
theorem dX3_told_12 : decode cX3_told 12 = .ok (.if_icmp .lt 13, 3) := by decide +kernel
theorem dX3_told_15 : decode cX3_told 15 = .ok (.new 32, 3) := by decide +kernel
theorem dX3_told_18 : decode cX3_told 18 = .ok (.dup, 1) := by decide +kernel
theorem dX3_told_19 : decode cX3_told 19 = .ok (.ldc 140, 2) := by decide +kernel
theorem dX3_told_21 : decode cX3_told 21 = .ok (.invokespecial 36, 3) := by decide +kernel
theorem dX3_told_24 : decode cX3_told 24 = .ok (.athrow, 1) := by decide +kernel
theorem dX3_told_25 : decode cX3_told 25 = .ok (.aload_n 0, 1) := by decide +kernel
theorem dX3_told_26 : decode cX3_told 26 = .ok (.getfield 12, 3) := by decide +kernel
theorem dX3_told_29 : decode cX3_told 29 = .ok (.aload_n 0, 1) := by decide +kernel
theorem dX3_told_30 : decode cX3_told 30 = .ok (.getfield 21, 3) := by decide +kernel
theorem dX3_told_33 : decode cX3_told 33 = .ok (.iload_n 1, 1) := by decide +kernel
theorem dX3_told_34 : decode cX3_told 34 = .ok (.invokevirtual 97, 3) := by decide +kernel
theorem dX3_told_37 : decode cX3_told 37 = .ok (.iload_n 2, 1) := by decide +kernel
theorem dX3_told_38 : decode cX3_told 38 = .ok (.invokevirtual 142, 3) := by decide +kernel
theorem dX3_told_41 : decode cX3_told 41 = .ok (.ireturn, 1) := by decide +kernel
set_option maxRecDepth 20000 in
theorem ggX3_count_X0_tell : GoodIn wsX3_count wsX0_tell := goodIn_r _ [8, 9, 10, 11, 12, 13, 14, 15, 16, 17, 7, 18, 19, 20, 21, 22, 23, 24, 25, 26, 27, 28, 29, 30, 31, 32, 33, 34, 35, 36, 37, 38, 39, 40, 41, 42, 43, 44, 45, 46, 47, 48, 49, 50, 51, 52, 53, 54, 55, 56, 57, 58, 59, 60, 61, 62, 63, 64, 65, 69, 70, 71, 72, 73, 74, 75, 76, 77, 78, 79, 80, 81, 82, 83, 84] (by decide +kernel) (by decide +kernel)
set_option maxRecDepth 20000 in
theorem gX3_count_X0_tell : GoodIn wsX3_count (wsV RX3 146 RX0 yX0_tell wsX0_tell) := goodIn_app (goodIn_of _ (by decide +kernel)) ggX3_count_X0_tell
theorem dX3_count_0 : decode cX3_count 0 = .ok (.iload_n 1, 1) := by decide +kernel
theorem dX3_count_1 : decode cX3_count 1 = .ok (.ifCond .lt 9, 3) := by decide +kernel
theorem dX3_count_4 : decode cX3_count 4 = .ok (.iload_n 1, 1) := by decide +kernel
theorem dX3_count_5 : decode cX3_count 5 = .ok (.bipush 9, 2) := by decide +kernel
theorem dX3_count_7 : decode cX3_count 7 = .ok (.if_icmp .lt 13, 3) := by decide +kernel
theorem dX3_count_10 : decode cX3_count 10 = .ok (.new 32, 3) := by decide +kernel
theorem dX3_count_13 : decode cX3_count 13 = .ok (.dup, 1) := by decide +kernel
theorem dX3_count_14 : decode cX3_count 14 = .ok (.ldc 140, 2) := by decide +kernel
theorem dX3_count_16 : decode cX3_count 16 = .ok (.invokespecial 36, 3) := by decide +kernel
theorem dX3_count_19 : decode cX3_count 19 = .ok (.athrow, 1) := by decide +kernel
theorem dX3_count_20 : decode cX3_count 20 = .ok (.aload_n 0, 1) := by decide +kernel
theorem dX3_count_21 : decode cX3_count 21 = .ok (.getfield 21, 3) := by decide +kernel
theorem dX3_count_24 : decode cX3_count 24 = .ok (.iload_n 1, 1) := by decide +kernel
theorem dX3_count_25 : decode cX3_count 25 = .ok (.invokevirtual 146, 3) := by decide +kernel
theorem dX3_count_28 : decode cX3_count 28 = .ok (.ireturn, 1) := by decide +kernel
set_option maxRecDepth 20000 in
theorem ggX3_pass_X3_checkYearsPassing : GoodIn wsX3_pass wsX3_checkYearsPassing := goodIn_ca (goodIn_r _ [6, 7, 8] (by decide +kernel) (by decide +kernel)) (goodIn_sub (fun _ h => List.mem_cons_of_mem _ (List.mem_append_right _ h)) (by decide +kernel))
set_option maxRecDepth 20000 in
theorem gX3_pass_X3_checkYearsPassing : GoodIn wsX3_pass (va_wsS RX3 154 yX3_checkYearsPassing wsX3_checkYearsPassing) := goodIn_app (goodIn_of _ (by decide +kernel)) ggX3_pass_X3_checkYearsPassing
set_option maxRecDepth 20000 in
theorem ggX3_pass_X0_passYears : GoodIn wsX3_pass wsX0_passYears := goodIn_r _ [13, 14, 15, 16, 12, 17, 18, 19, 20, 21, 22, 23, 24, 25, 26, 27, 28, 29, 30, 31, 32, 33, 34, 35, 36, 37, 38, 39, 40, 41, 42, 43, 44, 45, 46, 47, 48, 49, 50, 51, 52, 53, 54, 55, 56, 57, 58, 62, 63, 64, 65, 66, 67, 68, 69, 70, 71, 72, 73, 74, 75, 76, 77] (by decide +kernel) (by decide +kernel)
set_option maxRecDepth 20000 in
theorem gX3_pass_X0_passYears : GoodIn wsX3_pass (wsV RX3 160 RX0 yX0_passYears wsX0_passYears) := goodIn_app (goodIn_of _ (by decide +kernel)) ggX3_pass_X0_passYears
theorem dX3_pass_0 : decode cX3_pass 0 = .ok (.iload_n 1, 1) := by decide +kernel
theorem dX3_pass_1 : decode cX3_pass 1 = .ok (.invokestatic 154, 3) := by decide +kernel
theorem dX3_pass_4 : decode cX3_pass 4 = .ok (.aload_n 0, 1) := by decide +kernel
theorem dX3_pass_5 : decode cX3_pass 5 = .ok (.getfield 21, 3) := by decide +kernel
theorem dX3_pass_8 : decode cX3_pass 8 = .ok (.getfield 157, 3) := by decide +kernel
theorem dX3_pass_11 : decode cX3_pass 11 = .ok (.istore_n 2, 1) := by decide +kernel
theorem dX3_pass_12 : decode cX3_pass 12 = .ok (.aload_n 0, 1) := by decide +kernel
theorem dX3_pass_13 : decode cX3_pass 13 = .ok (.getfield 21, 3) := by decide +kernel
theorem dX3_pass_16 : decode cX3_pass 16 = .ok (.iload_n 1, 1) := by decide +kernel
theorem dX3_pass_17 : decode cX3_pass 17 = .ok (.invokevirtual 160, 3) := by decide +kernel
theorem dX3_pass_20 : decode cX3_pass 20 = .ok (.aload_n 0, 1) := by decide +kernel
theorem dX3_pass_21 : decode cX3_pass 21 = .ok (.getfield 21, 3) := by decide +kernel
theorem dX3_pass_24 : decode cX3_pass 24 = .ok (.getfield 157, 3) := by decide +kernel
theorem dX3_pass_27 : decode cX3_pass 27 = .ok (.iload_n 2, 1) := by decide +kernel
theorem dX3_pass_28 : decode cX3_pass 28 = .ok (.isub, 1) := by decide +kernel
theorem dX3_pass_29 : decode cX3_pass 29 = .ok (.ireturn, 1) := by decide +kernel
set_option maxRecDepth 20000 in
theorem ggX3_mean_X0_living : GoodIn wsX3_mean wsX0_living := goodIn_r _ [6, 7, 8, 9, 10, 5, 11, 12, 13, 14, 15, 16, 17, 18, 27, 28, 29, 30, 31, 32, 33, 34, 35, 36, 37, 38, 39, 40] (by decide +kernel) (by decide +kernel)
set_option maxRecDepth 20000 in
theorem gX3_mean_X0_living : GoodIn wsX3_mean (wsV RX3 180 RX0 yX0_living wsX0_living) := goodIn_app (goodIn_of _ (by decide +kernel)) ggX3_mean_X0_living
set_option maxRecDepth 20000 in
theorem ggX3_mean_X0_agesOfLiving : GoodIn wsX3_mean wsX0_agesOfLiving := goodIn_r _ [22, 7, 23, 8, 9, 10, 5, 11, 12, 13, 14, 15, 16, 17, 18, 27, 28, 29, 30, 31, 32, 33, 34, 35, 36, 37, 38, 39, 40] (by decide +kernel) (by decide +kernel)
set_option maxRecDepth 20000 in
theorem gX3_mean_X0_agesOfLiving : GoodIn wsX3_mean (wsV RX3 184 RX0 yX0_agesOfLiving wsX0_agesOfLiving) := goodIn_app (goodIn_of _ (by decide +kernel)) ggX3_mean_X0_agesOfLiving
theorem dX3_mean_0 : decode cX3_mean 0 = .ok (.aload_n 0, 1) := by decide +kernel
theorem dX3_mean_1 : decode cX3_mean 1 = .ok (.getfield 21, 3) := by decide +kernel
theorem dX3_mean_4 : decode cX3_mean 4 = .ok (.invokevirtual 180, 3) := by decide +kernel
theorem dX3_mean_7 : decode cX3_mean 7 = .ok (.istore_n 1, 1) := by decide +kernel
theorem dX3_mean_8 : decode cX3_mean 8 = .ok (.iload_n 1, 1) := by decide +kernel
theorem dX3_mean_9 : decode cX3_mean 9 = .ok (.ifCond .ne 7, 3) := by decide +kernel
theorem dX3_mean_12 : decode cX3_mean 12 = .ok (.dconst 0, 1) := by decide +kernel
theorem dX3_mean_13 : decode cX3_mean 13 = .ok (.goto 14, 3) := by decide +kernel
theorem dX3_mean_16 : decode cX3_mean 16 = .ok (.aload_n 0, 1) := by decide +kernel
theorem dX3_mean_17 : decode cX3_mean 17 = .ok (.getfield 21, 3) := by decide +kernel
theorem dX3_mean_20 : decode cX3_mean 20 = .ok (.invokevirtual 184, 3) := by decide +kernel
theorem dX3_mean_23 : decode cX3_mean 23 = .ok (.i2d, 1) := by decide +kernel
theorem dX3_mean_24 : decode cX3_mean 24 = .ok (.iload_n 1, 1) := by decide +kernel
theorem dX3_mean_25 : decode cX3_mean 25 = .ok (.i2d, 1) := by decide +kernel
theorem dX3_mean_26 : decode cX3_mean 26 = .ok (.ddiv, 1) := by decide +kernel
theorem dX3_mean_27 : decode cX3_mean 27 = .ok (.dreturn, 1) := by decide +kernel
theorem dX3_isAge_0 : decode cX3_isAge 0 = .ok (.iload_n 0, 1) := by decide +kernel
theorem dX3_isAge_1 : decode cX3_isAge 1 = .ok (.bipush 50, 2) := by decide +kernel
theorem dX3_isAge_3 : decode cX3_isAge 3 = .ok (.if_icmp .lt 13, 3) := by decide +kernel
theorem dX3_isAge_6 : decode cX3_isAge 6 = .ok (.iload_n 0, 1) := by decide +kernel
theorem dX3_isAge_7 : decode cX3_isAge 7 = .ok (.bipush 99, 2) := by decide +kernel
theorem dX3_isAge_9 : decode cX3_isAge 9 = .ok (.if_icmp .gt 7, 3) := by decide +kernel
theorem dX3_isAge_12 : decode cX3_isAge 12 = .ok (.iconst 1, 1) := by decide +kernel
theorem dX3_isAge_13 : decode cX3_isAge 13 = .ok (.goto 4, 3) := by decide +kernel
theorem dX3_isAge_16 : decode cX3_isAge 16 = .ok (.iconst 0, 1) := by decide +kernel
theorem dX3_isAge_17 : decode cX3_isAge 17 = .ok (.ireturn, 1) := by decide +kernel
set_option maxRecDepth 20000 in
theorem ggX3_checkAge_X3_isAge : GoodIn wsX3_checkAge wsX3_isAge := goodIn_r _ [6] (by decide +kernel) (by decide +kernel)
set_option maxRecDepth 20000 in
theorem gX3_checkAge_X3_isAge : GoodIn wsX3_checkAge (va_wsS RX3 28 yX3_isAge wsX3_isAge) := goodIn_app (goodIn_of _ (by decide +kernel)) ggX3_checkAge_X3_isAge
theorem dX3_checkAge_0 : decode cX3_checkAge 0 = .ok (.iload_n 0, 1) := by decide +kernel
theorem dX3_checkAge_1 : decode cX3_checkAge 1 = .ok (.invokestatic 28, 3) := by decide +kernel
theorem dX3_checkAge_4 : decode cX3_checkAge 4 = .ok (.ifCond .ne 13, 3) := by decide +kernel
theorem dX3_checkAge_7 : decode cX3_checkAge 7 = .ok (.new 39, 3) := by decide +kernel
theorem dX3_checkAge_10 : decode cX3_checkAge 10 = .ok (.dup, 1) := by decide +kernel
theorem dX3_checkAge_11 : decode cX3_checkAge 11 = .ok (.ldc 34, 2) := by decide +kernel
theorem dX3_checkAge_13 : decode cX3_checkAge 13 = .ok (.invokespecial 43, 3) := by decide +kernel
theorem dX3_checkAge_16 : decode cX3_checkAge 16 = .ok (.athrow, 1) := by decide +kernel
theorem dX3_checkAge_17 : decode cX3_checkAge 17 = .ok (.return_, 1) := by decide +kernel
theorem dX3_checkSum_0 : decode cX3_checkSum 0 = .ok (.iload_n 0, 1) := by decide +kernel
theorem dX3_checkSum_1 : decode cX3_checkSum 1 = .ok (.iconst 1, 1) := by decide +kernel
theorem dX3_checkSum_2 : decode cX3_checkSum 2 = .ok (.if_icmp .lt 10, 3) := by decide +kernel
theorem dX3_checkSum_5 : decode cX3_checkSum 5 = .ok (.iload_n 0, 1) := by decide +kernel
theorem dX3_checkSum_6 : decode cX3_checkSum 6 = .ok (.sipush 999, 3) := by decide +kernel
theorem dX3_checkSum_9 : decode cX3_checkSum 9 = .ok (.if_icmp .le 13, 3) := by decide +kernel
theorem dX3_checkSum_12 : decode cX3_checkSum 12 = .ok (.new 39, 3) := by decide +kernel
theorem dX3_checkSum_15 : decode cX3_checkSum 15 = .ok (.dup, 1) := by decide +kernel
theorem dX3_checkSum_16 : decode cX3_checkSum 16 = .ok (.ldc 194, 2) := by decide +kernel
theorem dX3_checkSum_18 : decode cX3_checkSum 18 = .ok (.invokespecial 43, 3) := by decide +kernel
theorem dX3_checkSum_21 : decode cX3_checkSum 21 = .ok (.athrow, 1) := by decide +kernel
theorem dX3_checkSum_22 : decode cX3_checkSum 22 = .ok (.return_, 1) := by decide +kernel
theorem dX3_checkPutOff_0 : decode cX3_checkPutOff 0 = .ok (.iload_n 0, 1) := by decide +kernel
theorem dX3_checkPutOff_1 : decode cX3_checkPutOff 1 = .ok (.ifCond .lt 9, 3) := by decide +kernel
theorem dX3_checkPutOff_4 : decode cX3_checkPutOff 4 = .ok (.iload_n 0, 1) := by decide +kernel
theorem dX3_checkPutOff_5 : decode cX3_checkPutOff 5 = .ok (.bipush 30, 2) := by decide +kernel
theorem dX3_checkPutOff_7 : decode cX3_checkPutOff 7 = .ok (.if_icmp .le 13, 3) := by decide +kernel
theorem dX3_checkPutOff_10 : decode cX3_checkPutOff 10 = .ok (.new 39, 3) := by decide +kernel
theorem dX3_checkPutOff_13 : decode cX3_checkPutOff 13 = .ok (.dup, 1) := by decide +kernel
theorem dX3_checkPutOff_14 : decode cX3_checkPutOff 14 = .ok (.ldc 196, 2) := by decide +kernel
theorem dX3_checkPutOff_16 : decode cX3_checkPutOff 16 = .ok (.invokespecial 43, 3) := by decide +kernel
theorem dX3_checkPutOff_19 : decode cX3_checkPutOff 19 = .ok (.athrow, 1) := by decide +kernel
theorem dX3_checkPutOff_20 : decode cX3_checkPutOff 20 = .ok (.return_, 1) := by decide +kernel
theorem dX3_checkYearsPassing_0 : decode cX3_checkYearsPassing 0 = .ok (.iload_n 0, 1) := by decide +kernel
theorem dX3_checkYearsPassing_1 : decode cX3_checkYearsPassing 1 = .ok (.iconst 1, 1) := by decide +kernel
theorem dX3_checkYearsPassing_2 : decode cX3_checkYearsPassing 2 = .ok (.if_icmp .lt 9, 3) := by decide +kernel
theorem dX3_checkYearsPassing_5 : decode cX3_checkYearsPassing 5 = .ok (.iload_n 0, 1) := by decide +kernel
theorem dX3_checkYearsPassing_6 : decode cX3_checkYearsPassing 6 = .ok (.bipush 50, 2) := by decide +kernel
theorem dX3_checkYearsPassing_8 : decode cX3_checkYearsPassing 8 = .ok (.if_icmp .le 13, 3) := by decide +kernel
theorem dX3_checkYearsPassing_11 : decode cX3_checkYearsPassing 11 = .ok (.new 39, 3) := by decide +kernel
theorem dX3_checkYearsPassing_14 : decode cX3_checkYearsPassing 14 = .ok (.dup, 1) := by decide +kernel
theorem dX3_checkYearsPassing_15 : decode cX3_checkYearsPassing 15 = .ok (.ldc 198, 2) := by decide +kernel
theorem dX3_checkYearsPassing_17 : decode cX3_checkYearsPassing 17 = .ok (.invokespecial 43, 3) := by decide +kernel
theorem dX3_checkYearsPassing_20 : decode cX3_checkYearsPassing 20 = .ok (.athrow, 1) := by decide +kernel
theorem dX3_checkYearsPassing_21 : decode cX3_checkYearsPassing 21 = .ok (.return_, 1) := by decide +kernel
theorem dX3_checkWidow_0 : decode cX3_checkWidow 0 = .ok (.iload_n 1, 1) := by decide +kernel
theorem dX3_checkWidow_1 : decode cX3_checkWidow 1 = .ok (.ifCond .lt 14, 3) := by decide +kernel
theorem dX3_checkWidow_4 : decode cX3_checkWidow 4 = .ok (.iload_n 1, 1) := by decide +kernel
theorem dX3_checkWidow_5 : decode cX3_checkWidow 5 = .ok (.aload_n 0, 1) := by decide +kernel
theorem dX3_checkWidow_6 : decode cX3_checkWidow 6 = .ok (.getfield 21, 3) := by decide +kernel
theorem dX3_checkWidow_9 : decode cX3_checkWidow 9 = .ok (.getfield 191, 3) := by decide +kernel
theorem dX3_checkWidow_12 : decode cX3_checkWidow 12 = .ok (.if_icmp .lt 13, 3) := by decide +kernel
theorem dX3_checkWidow_15 : decode cX3_checkWidow 15 = .ok (.new 32, 3) := by decide +kernel
theorem dX3_checkWidow_18 : decode cX3_checkWidow 18 = .ok (.dup, 1) := by decide +kernel
theorem dX3_checkWidow_19 : decode cX3_checkWidow 19 = .ok (.ldc 200, 2) := by decide +kernel
theorem dX3_checkWidow_21 : decode cX3_checkWidow 21 = .ok (.invokespecial 36, 3) := by decide +kernel
theorem dX3_checkWidow_24 : decode cX3_checkWidow 24 = .ok (.athrow, 1) := by decide +kernel
theorem dX3_checkWidow_25 : decode cX3_checkWidow 25 = .ok (.return_, 1) := by decide +kernel
theorem dX4_init_0 : decode cX4_init 0 = .ok (.aload_n 0, 1) := by decide +kernel
theorem dX4_init_1 : decode cX4_init 1 = .ok (.invokespecial 1, 3) := by decide +kernel
theorem dX4_init_4 : decode cX4_init 4 = .ok (.aload_n 0, 1) := by decide +kernel
theorem dX4_init_5 : decode cX4_init 5 = .ok (.iconst 3, 1) := by decide +kernel
theorem dX4_init_6 : decode cX4_init 6 = .ok (.newarray .int, 2) := by decide +kernel
theorem dX4_init_8 : decode cX4_init 8 = .ok (.dup, 1) := by decide +kernel
theorem dX4_init_9 : decode cX4_init 9 = .ok (.iconst 0, 1) := by decide +kernel
theorem dX4_init_10 : decode cX4_init 10 = .ok (.bipush 40, 2) := by decide +kernel
theorem dX4_init_12 : decode cX4_init 12 = .ok (.iastore, 1) := by decide +kernel
theorem dX4_init_13 : decode cX4_init 13 = .ok (.dup, 1) := by decide +kernel
theorem dX4_init_14 : decode cX4_init 14 = .ok (.iconst 1, 1) := by decide +kernel
theorem dX4_init_15 : decode cX4_init 15 = .ok (.iconst 5, 1) := by decide +kernel
theorem dX4_init_16 : decode cX4_init 16 = .ok (.iastore, 1) := by decide +kernel
theorem dX4_init_17 : decode cX4_init 17 = .ok (.dup, 1) := by decide +kernel
theorem dX4_init_18 : decode cX4_init 18 = .ok (.iconst 2, 1) := by decide +kernel
theorem dX4_init_19 : decode cX4_init 19 = .ok (.bipush 10, 2) := by decide +kernel
theorem dX4_init_21 : decode cX4_init 21 = .ok (.iastore, 1) := by decide +kernel
theorem dX4_init_22 : decode cX4_init 22 = .ok (.putfield 7, 3) := by decide +kernel
theorem dX4_init_25 : decode cX4_init 25 = .ok (.aload_n 0, 1) := by decide +kernel
theorem dX4_init_26 : decode cX4_init 26 = .ok (.bipush 50, 2) := by decide +kernel
theorem dX4_init_28 : decode cX4_init 28 = .ok (.newarray .int, 2) := by decide +kernel
theorem dX4_init_30 : decode cX4_init 30 = .ok (.putfield 13, 3) := by decide +kernel
theorem dX4_init_33 : decode cX4_init 33 = .ok (.aload_n 0, 1) := by decide +kernel
theorem dX4_init_34 : decode cX4_init 34 = .ok (.iconst 0, 1) := by decide +kernel
theorem dX4_init_35 : decode cX4_init 35 = .ok (.anewarray 16, 3) := by decide +kernel
theorem dX4_init_38 : decode cX4_init 38 = .ok (.putfield 18, 3) := by decide +kernel
theorem dX4_init_41 : decode cX4_init 41 = .ok (.iconst 0, 1) := by decide +kernel
theorem dX4_init_42 : decode cX4_init 42 = .ok (.istore_n 1, 1) := by decide +kernel
theorem dX4_init_43 : decode cX4_init 43 = .ok (.iload_n 1, 1) := by decide +kernel
theorem dX4_init_44 : decode cX4_init 44 = .ok (.bipush 50, 2) := by decide +kernel
theorem dX4_init_46 : decode cX4_init 46 = .ok (.if_icmp .ge 22, 3) := by decide +kernel
theorem dX4_init_49 : decode cX4_init 49 = .ok (.aload_n 0, 1) := by decide +kernel
theorem dX4_init_50 : decode cX4_init 50 = .ok (.getfield 13, 3) := by decide +kernel
theorem dX4_init_53 : decode cX4_init 53 = .ok (.iload_n 1, 1) := by decide +kernel
theorem dX4_init_54 : decode cX4_init 54 = .ok (.bipush 10, 2) := by decide +kernel
theorem dX4_init_56 : decode cX4_init 56 = .ok (.bipush 8, 2) := by decide +kernel
theorem dX4_init_58 : decode cX4_init 58 = .ok (.iload_n 1, 1) := by decide +kernel
theorem dX4_init_59 : decode cX4_init 59 = .ok (.imul, 1) := by decide +kernel
theorem dX4_init_60 : decode cX4_init 60 = .ok (.iadd, 1) := by decide +kernel
theorem dX4_init_61 : decode cX4_init 61 = .ok (.iastore, 1) := by decide +kernel
theorem dX4_init_62 : decode cX4_init 62 = .ok (.iinc 1 1, 3) := by decide +kernel
theorem dX4_init_65 : decode cX4_init 65 = .ok (.goto (-22), 3) := by decide +kernel
theorem dX4_init_68 : decode cX4_init 68 = .ok (.return_, 1) := by decide +kernel
theorem dX4_worth_0 : decode cX4_worth 0 = .ok (.iload_n 1, 1) := by decide +kernel
theorem dX4_worth_1 : decode cX4_worth 1 = .ok (.iload_n 2, 1) := by decide +kernel
theorem dX4_worth_2 : decode cX4_worth 2 = .ok (.iadd, 1) := by decide +kernel
theorem dX4_worth_3 : decode cX4_worth 3 = .ok (.istore_n 3, 1) := by decide +kernel
theorem dX4_worth_4 : decode cX4_worth 4 = .ok (.iload_n 3, 1) := by decide +kernel
theorem dX4_worth_5 : decode cX4_worth 5 = .ok (.bipush 99, 2) := by decide +kernel
theorem dX4_worth_7 : decode cX4_worth 7 = .ok (.if_icmp .le 5, 3) := by decide +kernel
theorem dX4_worth_10 : decode cX4_worth 10 = .ok (.iconst 0, 1) := by decide +kernel
theorem dX4_worth_11 : decode cX4_worth 11 = .ok (.ireturn, 1) := by decide +kernel
theorem dX4_worth_12 : decode cX4_worth 12 = .ok (.iconst 0, 1) := by decide +kernel
theorem dX4_worth_13 : decode cX4_worth 13 = .ok (.istore 4, 2) := by decide +kernel
theorem dX4_worth_15 : decode cX4_worth 15 = .ok (.bipush 99, 2) := by decide +kernel
theorem dX4_worth_17 : decode cX4_worth 17 = .ok (.istore 5, 2) := by decide +kernel
theorem dX4_worth_19 : decode cX4_worth 19 = .ok (.iload 5, 2) := by decide +kernel
theorem dX4_worth_21 : decode cX4_worth 21 = .ok (.iload_n 3, 1) := by decide +kernel
theorem dX4_worth_22 : decode cX4_worth 22 = .ok (.if_icmp .lt 43, 3) := by decide +kernel
theorem dX4_worth_25 : decode cX4_worth 25 = .ok (.sipush 1000, 3) := by decide +kernel
theorem dX4_worth_28 : decode cX4_worth 28 = .ok (.aload_n 0, 1) := by decide +kernel
theorem dX4_worth_29 : decode cX4_worth 29 = .ok (.getfield 13, 3) := by decide +kernel
theorem dX4_worth_32 : decode cX4_worth 32 = .ok (.iload 5, 2) := by decide +kernel
theorem dX4_worth_34 : decode cX4_worth 34 = .ok (.bipush 50, 2) := by decide +kernel
theorem dX4_worth_36 : decode cX4_worth 36 = .ok (.isub, 1) := by decide +kernel
theorem dX4_worth_37 : decode cX4_worth 37 = .ok (.iaload, 1) := by decide +kernel
theorem dX4_worth_38 : decode cX4_worth 38 = .ok (.isub, 1) := by decide +kernel
theorem dX4_worth_39 : decode cX4_worth 39 = .ok (.sipush 1000, 3) := by decide +kernel
theorem dX4_worth_42 : decode cX4_worth 42 = .ok (.iload 4, 2) := by decide +kernel
theorem dX4_worth_44 : decode cX4_worth 44 = .ok (.iadd, 1) := by decide +kernel
theorem dX4_worth_45 : decode cX4_worth 45 = .ok (.imul, 1) := by decide +kernel
theorem dX4_worth_46 : decode cX4_worth 46 = .ok (.sipush 1000, 3) := by decide +kernel
theorem dX4_worth_49 : decode cX4_worth 49 = .ok (.aload_n 0, 1) := by decide +kernel
theorem dX4_worth_50 : decode cX4_worth 50 = .ok (.getfield 7, 3) := by decide +kernel
theorem dX4_worth_53 : decode cX4_worth 53 = .ok (.iconst 0, 1) := by decide +kernel
theorem dX4_worth_54 : decode cX4_worth 54 = .ok (.iaload, 1) := by decide +kernel
theorem dX4_worth_55 : decode cX4_worth 55 = .ok (.iadd, 1) := by decide +kernel
theorem dX4_worth_56 : decode cX4_worth 56 = .ok (.idiv, 1) := by decide +kernel
theorem dX4_worth_57 : decode cX4_worth 57 = .ok (.istore 4, 2) := by decide +kernel
theorem dX4_worth_59 : decode cX4_worth 59 = .ok (.iinc 5 (-1), 3) := by decide +kernel
theorem dX4_worth_62 : decode cX4_worth 62 = .ok (.goto (-43), 3) := by decide +kernel
theorem dX4_worth_65 : decode cX4_worth 65 = .ok (.iload_n 3, 1) := by decide +kernel
theorem dX4_worth_66 : decode cX4_worth 66 = .ok (.iconst 1, 1) := by decide +kernel
theorem dX4_worth_67 : decode cX4_worth 67 = .ok (.isub, 1) := by decide +kernel
theorem dX4_worth_68 : decode cX4_worth 68 = .ok (.istore 5, 2) := by decide +kernel
theorem dX4_worth_70 : decode cX4_worth 70 = .ok (.iload 5, 2) := by decide +kernel
theorem dX4_worth_72 : decode cX4_worth 72 = .ok (.iload_n 1, 1) := by decide +kernel
theorem dX4_worth_73 : decode cX4_worth 73 = .ok (.if_icmp .lt 39, 3) := by decide +kernel
theorem dX4_worth_76 : decode cX4_worth 76 = .ok (.sipush 1000, 3) := by decide +kernel
theorem dX4_worth_79 : decode cX4_worth 79 = .ok (.aload_n 0, 1) := by decide +kernel
theorem dX4_worth_80 : decode cX4_worth 80 = .ok (.getfield 13, 3) := by decide +kernel
theorem dX4_worth_83 : decode cX4_worth 83 = .ok (.iload 5, 2) := by decide +kernel
theorem dX4_worth_85 : decode cX4_worth 85 = .ok (.bipush 50, 2) := by decide +kernel
theorem dX4_worth_87 : decode cX4_worth 87 = .ok (.isub, 1) := by decide +kernel
theorem dX4_worth_88 : decode cX4_worth 88 = .ok (.iaload, 1) := by decide +kernel
theorem dX4_worth_89 : decode cX4_worth 89 = .ok (.isub, 1) := by decide +kernel
theorem dX4_worth_90 : decode cX4_worth 90 = .ok (.iload 4, 2) := by decide +kernel
theorem dX4_worth_92 : decode cX4_worth 92 = .ok (.imul, 1) := by decide +kernel
theorem dX4_worth_93 : decode cX4_worth 93 = .ok (.sipush 1000, 3) := by decide +kernel
theorem dX4_worth_96 : decode cX4_worth 96 = .ok (.aload_n 0, 1) := by decide +kernel
theorem dX4_worth_97 : decode cX4_worth 97 = .ok (.getfield 7, 3) := by decide +kernel
theorem dX4_worth_100 : decode cX4_worth 100 = .ok (.iconst 0, 1) := by decide +kernel
theorem dX4_worth_101 : decode cX4_worth 101 = .ok (.iaload, 1) := by decide +kernel
theorem dX4_worth_102 : decode cX4_worth 102 = .ok (.iadd, 1) := by decide +kernel
theorem dX4_worth_103 : decode cX4_worth 103 = .ok (.idiv, 1) := by decide +kernel
theorem dX4_worth_104 : decode cX4_worth 104 = .ok (.istore 4, 2) := by decide +kernel
theorem dX4_worth_106 : decode cX4_worth 106 = .ok (.iinc 5 (-1), 3) := by decide +kernel
theorem dX4_worth_109 : decode cX4_worth 109 = .ok (.goto (-39), 3) := by decide +kernel
theorem dX4_worth_112 : decode cX4_worth 112 = .ok (.iload 4, 2) := by decide +kernel
theorem dX4_worth_114 : decode cX4_worth 114 = .ok (.ireturn, 1) := by decide +kernel
set_option maxRecDepth 20000 in
theorem ggX4_price_X4_worth : GoodIn wsX4_price wsX4_worth := goodIn_r _ [6, 7, 1, 8, 9, 10, 11, 12, 13] (by decide +kernel) (by decide +kernel)
set_option maxRecDepth 20000 in
theorem gX4_price_X4_worth : GoodIn wsX4_price (wsV RX4 42 RX4 yX4_worth wsX4_worth) := goodIn_app (goodIn_of _ (by decide +kernel)) ggX4_price_X4_worth
theorem dX4_price_0 : decode cX4_price 0 = .ok (.aload_n 0, 1) := by decide +kernel
theorem dX4_price_1 : decode cX4_price 1 = .ok (.iload_n 1, 1) := by decide +kernel
theorem dX4_price_2 : decode cX4_price 2 = .ok (.iload_n 3, 1) := by decide +kernel
theorem dX4_price_3 : decode cX4_price 3 = .ok (.invokevirtual 42, 3) := by decide +kernel
theorem dX4_price_6 : decode cX4_price 6 = .ok (.istore 4, 2) := by decide +kernel
theorem dX4_price_8 : decode cX4_price 8 = .ok (.iload_n 2, 1) := by decide +kernel
theorem dX4_price_9 : decode cX4_price 9 = .ok (.iload 4, 2) := by decide +kernel
theorem dX4_price_11 : decode cX4_price 11 = .ok (.imul, 1) := by decide +kernel
theorem dX4_price_12 : decode cX4_price 12 = .ok (.sipush 1000, 3) := by decide +kernel
theorem dX4_price_15 : decode cX4_price 15 = .ok (.idiv, 1) := by decide +kernel
theorem dX4_price_16 : decode cX4_price 16 = .ok (.istore 5, 2) := by decide +kernel
theorem dX4_price_18 : decode cX4_price 18 = .ok (.iload 5, 2) := by decide +kernel
theorem dX4_price_20 : decode cX4_price 20 = .ok (.iload 5, 2) := by decide +kernel
theorem dX4_price_22 : decode cX4_price 22 = .ok (.aload_n 0, 1) := by decide +kernel
theorem dX4_price_23 : decode cX4_price 23 = .ok (.getfield 7, 3) := by decide +kernel
theorem dX4_price_26 : decode cX4_price 26 = .ok (.iconst 1, 1) := by decide +kernel
theorem dX4_price_27 : decode cX4_price 27 = .ok (.iaload, 1) := by decide +kernel
theorem dX4_price_28 : decode cX4_price 28 = .ok (.imul, 1) := by decide +kernel
theorem dX4_price_29 : decode cX4_price 29 = .ok (.bipush 100, 2) := by decide +kernel
theorem dX4_price_31 : decode cX4_price 31 = .ok (.idiv, 1) := by decide +kernel
theorem dX4_price_32 : decode cX4_price 32 = .ok (.iadd, 1) := by decide +kernel
theorem dX4_price_33 : decode cX4_price 33 = .ok (.istore 5, 2) := by decide +kernel
theorem dX4_price_35 : decode cX4_price 35 = .ok (.iload 4, 2) := by decide +kernel
theorem dX4_price_37 : decode cX4_price 37 = .ok (.ifCond .ne 7, 3) := by decide +kernel
theorem dX4_price_40 : decode cX4_price 40 = .ok (.iconst 0, 1) := by decide +kernel
theorem dX4_price_41 : decode cX4_price 41 = .ok (.goto 15, 3) := by decide +kernel
theorem dX4_price_44 : decode cX4_price 44 = .ok (.iload 5, 2) := by decide +kernel
theorem dX4_price_46 : decode cX4_price 46 = .ok (.iconst 1, 1) := by decide +kernel
theorem dX4_price_47 : decode cX4_price 47 = .ok (.if_icmp .ge 7, 3) := by decide +kernel
theorem dX4_price_50 : decode cX4_price 50 = .ok (.iconst 1, 1) := by decide +kernel
theorem dX4_price_51 : decode cX4_price 51 = .ok (.goto 5, 3) := by decide +kernel
theorem dX4_price_54 : decode cX4_price 54 = .ok (.iload 5, 2) := by decide +kernel
theorem dX4_price_56 : decode cX4_price 56 = .ok (.ireturn, 1) := by decide +kernel
set_option maxRecDepth 20000 in
theorem ggX4_kept_X4_worth : GoodIn wsX4_kept wsX4_worth := goodIn_r _ [9, 10, 11, 19, 20, 21, 22, 23, 24] (by decide +kernel) (by decide +kernel)
set_option maxRecDepth 20000 in
theorem gX4_kept_X4_worth : GoodIn wsX4_kept (wsV RX4 42 RX4 yX4_worth wsX4_worth) := goodIn_app (goodIn_of _ (by decide +kernel)) ggX4_kept_X4_worth
theorem dX4_kept_0 : decode cX4_kept 0 = .ok (.aload_n 1, 1) := by decide +kernel
theorem dX4_kept_1 : decode cX4_kept 1 = .ok (.getfield 46, 3) := by decide +kernel
theorem dX4_kept_4 : decode cX4_kept 4 = .ok (.ifCond .ne 27, 3) := by decide +kernel
theorem dX4_kept_7 : decode cX4_kept 7 = .ok (.aload_n 1, 1) := by decide +kernel
theorem dX4_kept_8 : decode cX4_kept 8 = .ok (.getfield 49, 3) := by decide +kernel
theorem dX4_kept_11 : decode cX4_kept 11 = .ok (.aload_n 0, 1) := by decide +kernel
theorem dX4_kept_12 : decode cX4_kept 12 = .ok (.aload_n 1, 1) := by decide +kernel
theorem dX4_kept_13 : decode cX4_kept 13 = .ok (.getfield 52, 3) := by decide +kernel
theorem dX4_kept_16 : decode cX4_kept 16 = .ok (.aload_n 1, 1) := by decide +kernel
theorem dX4_kept_17 : decode cX4_kept 17 = .ok (.getfield 55, 3) := by decide +kernel
theorem dX4_kept_20 : decode cX4_kept 20 = .ok (.invokevirtual 42, 3) := by decide +kernel
theorem dX4_kept_23 : decode cX4_kept 23 = .ok (.imul, 1) := by decide +kernel
theorem dX4_kept_24 : decode cX4_kept 24 = .ok (.sipush 1000, 3) := by decide +kernel
theorem dX4_kept_27 : decode cX4_kept 27 = .ok (.idiv, 1) := by decide +kernel
theorem dX4_kept_28 : decode cX4_kept 28 = .ok (.goto 4, 3) := by decide +kernel
theorem dX4_kept_31 : decode cX4_kept 31 = .ok (.iconst 0, 1) := by decide +kernel
theorem dX4_kept_32 : decode cX4_kept 32 = .ok (.ireturn, 1) := by decide +kernel
set_option maxRecDepth 20000 in
theorem ggX4_back_X4_kept : GoodIn wsX4_back wsX4_kept := goodIn_r _ [8, 1, 9, 10, 11, 12, 13, 14, 7, 15, 16, 3, 17, 18, 19, 20, 21, 22, 23, 24, 25, 26, 27, 28, 29] (by decide +kernel) (by decide +kernel)
set_option maxRecDepth 20000 in
theorem gX4_back_X4_kept : GoodIn wsX4_back (wsV RX4 58 RX4 yX4_kept wsX4_kept) := goodIn_app (goodIn_of _ (by decide +kernel)) ggX4_back_X4_kept
theorem dX4_back_0 : decode cX4_back 0 = .ok (.aload_n 0, 1) := by decide +kernel
theorem dX4_back_1 : decode cX4_back 1 = .ok (.aload_n 1, 1) := by decide +kernel
end
section
theorem dX4_back_2 : decode cX4_back 2 = .ok (.invokevirtual 58, 3) := by decide +kernel
theorem dX4_back_5 : decode cX4_back 5 = .ok (.istore_n 2, 1) := by decide +kernel
theorem dX4_back_6 : decode cX4_back 6 = .ok (.aload_n 1, 1) := by decide +kernel
theorem dX4_back_7 : decode cX4_back 7 = .ok (.getfield 46, 3) := by decide +kernel
theorem dX4_back_10 : decode cX4_back 10 = .ok (.ifCond .ne 11, 3) := by decide +kernel
theorem dX4_back_13 : decode cX4_back 13 = .ok (.aload_n 1, 1) := by decide +kernel
theorem dX4_back_14 : decode cX4_back 14 = .ok (.getfield 62, 3) := by decide +kernel
theorem dX4_back_17 : decode cX4_back 17 = .ok (.iconst 2, 1) := by decide +kernel
theorem dX4_back_18 : decode cX4_back 18 = .ok (.if_icmp .ge 7, 3) := by decide +kernel
theorem dX4_back_21 : decode cX4_back 21 = .ok (.iconst 0, 1) := by decide +kernel
theorem dX4_back_22 : decode cX4_back 22 = .ok (.goto 16, 3) := by decide +kernel
theorem dX4_back_25 : decode cX4_back 25 = .ok (.iload_n 2, 1) := by decide +kernel
theorem dX4_back_26 : decode cX4_back 26 = .ok (.iload_n 2, 1) := by decide +kernel
theorem dX4_back_27 : decode cX4_back 27 = .ok (.aload_n 0, 1) := by decide +kernel
theorem dX4_back_28 : decode cX4_back 28 = .ok (.getfield 7, 3) := by decide +kernel
theorem dX4_back_31 : decode cX4_back 31 = .ok (.iconst 2, 1) := by decide +kernel
theorem dX4_back_32 : decode cX4_back 32 = .ok (.iaload, 1) := by decide +kernel
theorem dX4_back_33 : decode cX4_back 33 = .ok (.imul, 1) := by decide +kernel
theorem dX4_back_34 : decode cX4_back 34 = .ok (.bipush 100, 2) := by decide +kernel
theorem dX4_back_36 : decode cX4_back 36 = .ok (.idiv, 1) := by decide +kernel
theorem dX4_back_37 : decode cX4_back 37 = .ok (.isub, 1) := by decide +kernel
theorem dX4_back_38 : decode cX4_back 38 = .ok (.ireturn, 1) := by decide +kernel
set_option maxRecDepth 20000 in
theorem ggX4_keptForAll_X4_kept : GoodIn wsX4_keptForAll wsX4_kept := goodIn_r _ [6, 7, 8, 9, 10, 11, 12, 13, 5, 14, 15, 16, 23, 24, 25, 26, 27, 28, 29, 17, 18, 19, 20, 21, 22] (by decide +kernel) (by decide +kernel)
set_option maxRecDepth 20000 in
theorem gX4_keptForAll_X4_kept : GoodIn wsX4_keptForAll (wsV RX4 58 RX4 yX4_kept wsX4_kept) := goodIn_app (goodIn_of _ (by decide +kernel)) ggX4_keptForAll_X4_kept
theorem dX4_keptForAll_0 : decode cX4_keptForAll 0 = .ok (.iconst 0, 1) := by decide +kernel
theorem dX4_keptForAll_1 : decode cX4_keptForAll 1 = .ok (.istore_n 1, 1) := by decide +kernel
theorem dX4_keptForAll_2 : decode cX4_keptForAll 2 = .ok (.aload_n 0, 1) := by decide +kernel
theorem dX4_keptForAll_3 : decode cX4_keptForAll 3 = .ok (.getfield 18, 3) := by decide +kernel
theorem dX4_keptForAll_6 : decode cX4_keptForAll 6 = .ok (.astore_n 2, 1) := by decide +kernel
theorem dX4_keptForAll_7 : decode cX4_keptForAll 7 = .ok (.aload_n 2, 1) := by decide +kernel
theorem dX4_keptForAll_8 : decode cX4_keptForAll 8 = .ok (.arraylength, 1) := by decide +kernel
theorem dX4_keptForAll_9 : decode cX4_keptForAll 9 = .ok (.istore_n 3, 1) := by decide +kernel
theorem dX4_keptForAll_10 : decode cX4_keptForAll 10 = .ok (.iconst 0, 1) := by decide +kernel
theorem dX4_keptForAll_11 : decode cX4_keptForAll 11 = .ok (.istore 4, 2) := by decide +kernel
theorem dX4_keptForAll_13 : decode cX4_keptForAll 13 = .ok (.iload 4, 2) := by decide +kernel
theorem dX4_keptForAll_15 : decode cX4_keptForAll 15 = .ok (.iload_n 3, 1) := by decide +kernel
theorem dX4_keptForAll_16 : decode cX4_keptForAll 16 = .ok (.if_icmp .ge 24, 3) := by decide +kernel
theorem dX4_keptForAll_19 : decode cX4_keptForAll 19 = .ok (.aload_n 2, 1) := by decide +kernel
theorem dX4_keptForAll_20 : decode cX4_keptForAll 20 = .ok (.iload 4, 2) := by decide +kernel
theorem dX4_keptForAll_22 : decode cX4_keptForAll 22 = .ok (.aaload, 1) := by decide +kernel
theorem dX4_keptForAll_23 : decode cX4_keptForAll 23 = .ok (.astore 5, 2) := by decide +kernel
theorem dX4_keptForAll_25 : decode cX4_keptForAll 25 = .ok (.iload_n 1, 1) := by decide +kernel
theorem dX4_keptForAll_26 : decode cX4_keptForAll 26 = .ok (.aload_n 0, 1) := by decide +kernel
theorem dX4_keptForAll_27 : decode cX4_keptForAll 27 = .ok (.aload 5, 2) := by decide +kernel
theorem dX4_keptForAll_29 : decode cX4_keptForAll 29 = .ok (.invokevirtual 58, 3) := by decide +kernel
theorem dX4_keptForAll_32 : decode cX4_keptForAll 32 = .ok (.iadd, 1) := by decide +kernel
theorem dX4_keptForAll_33 : decode cX4_keptForAll 33 = .ok (.istore_n 1, 1) := by decide +kernel
theorem dX4_keptForAll_34 : decode cX4_keptForAll 34 = .ok (.iinc 4 1, 3) := by decide +kernel
theorem dX4_keptForAll_37 : decode cX4_keptForAll 37 = .ok (.goto (-24), 3) := by decide +kernel
theorem dX4_keptForAll_40 : decode cX4_keptForAll 40 = .ok (.iload_n 1, 1) := by decide +kernel
theorem dX4_keptForAll_41 : decode cX4_keptForAll 41 = .ok (.ireturn, 1) := by decide +kernel
theorem dX4_come_0 : decode cX4_come 0 = .ok (.aload_n 0, 1) := by decide +kernel
theorem dX4_come_1 : decode cX4_come 1 = .ok (.aload_n 0, 1) := by decide +kernel
theorem dX4_come_2 : decode cX4_come 2 = .ok (.getfield 27, 3) := by decide +kernel
theorem dX4_come_5 : decode cX4_come 5 = .ok (.i2l, 1) := by decide +kernel
theorem dX4_come_6 : decode cX4_come 6 = .ok (.lload_n 1, 1) := by decide +kernel
theorem dX4_come_7 : decode cX4_come 7 = .ok (.ladd, 1) := by decide +kernel
theorem dX4_come_8 : decode cX4_come 8 = .ok (.ldc2_w 65, 3) := by decide +kernel
theorem dX4_come_11 : decode cX4_come 11 = .ok (.lcmp, 1) := by decide +kernel
theorem dX4_come_12 : decode cX4_come 12 = .ok (.ifCond .le 8, 3) := by decide +kernel
theorem dX4_come_15 : decode cX4_come 15 = .ok (.ldc 67, 2) := by decide +kernel
theorem dX4_come_17 : decode cX4_come 17 = .ok (.goto 11, 3) := by decide +kernel
theorem dX4_come_20 : decode cX4_come 20 = .ok (.aload_n 0, 1) := by decide +kernel
theorem dX4_come_21 : decode cX4_come 21 = .ok (.getfield 27, 3) := by decide +kernel
theorem dX4_come_24 : decode cX4_come 24 = .ok (.i2l, 1) := by decide +kernel
theorem dX4_come_25 : decode cX4_come 25 = .ok (.lload_n 1, 1) := by decide +kernel
theorem dX4_come_26 : decode cX4_come 26 = .ok (.ladd, 1) := by decide +kernel
theorem dX4_come_27 : decode cX4_come 27 = .ok (.l2i, 1) := by decide +kernel
theorem dX4_come_28 : decode cX4_come 28 = .ok (.putfield 27, 3) := by decide +kernel
theorem dX4_come_31 : decode cX4_come 31 = .ok (.return_, 1) := by decide +kernel
set_option maxRecDepth 20000 in
theorem ggX4_pass_X4_come : GoodIn wsX4_pass wsX4_come := goodIn_r _ [17, 1, 18, 19, 20, 21, 22, 23, 24, 25] (by decide +kernel) (by decide +kernel)
set_option maxRecDepth 20000 in
theorem gX4_pass_X4_come : GoodIn wsX4_pass (wsV RX4 70 RX4 yX4_come wsX4_come) := goodIn_app (goodIn_of _ (by decide +kernel)) ggX4_pass_X4_come
theorem dX4_pass_0 : decode cX4_pass 0 = .ok (.iconst 0, 1) := by decide +kernel
theorem dX4_pass_1 : decode cX4_pass 1 = .ok (.istore_n 1, 1) := by decide +kernel
theorem dX4_pass_2 : decode cX4_pass 2 = .ok (.aload_n 0, 1) := by decide +kernel
theorem dX4_pass_3 : decode cX4_pass 3 = .ok (.getfield 27, 3) := by decide +kernel
theorem dX4_pass_6 : decode cX4_pass 6 = .ok (.ifCond .le 24, 3) := by decide +kernel
theorem dX4_pass_9 : decode cX4_pass 9 = .ok (.aload_n 0, 1) := by decide +kernel
theorem dX4_pass_10 : decode cX4_pass 10 = .ok (.aload_n 0, 1) := by decide +kernel
theorem dX4_pass_11 : decode cX4_pass 11 = .ok (.getfield 27, 3) := by decide +kernel
theorem dX4_pass_14 : decode cX4_pass 14 = .ok (.i2l, 1) := by decide +kernel
theorem dX4_pass_15 : decode cX4_pass 15 = .ok (.aload_n 0, 1) := by decide +kernel
theorem dX4_pass_16 : decode cX4_pass 16 = .ok (.getfield 7, 3) := by decide +kernel
theorem dX4_pass_19 : decode cX4_pass 19 = .ok (.iconst 0, 1) := by decide +kernel
theorem dX4_pass_20 : decode cX4_pass 20 = .ok (.iaload, 1) := by decide +kernel
theorem dX4_pass_21 : decode cX4_pass 21 = .ok (.i2l, 1) := by decide +kernel
theorem dX4_pass_22 : decode cX4_pass 22 = .ok (.lmul, 1) := by decide +kernel
theorem dX4_pass_23 : decode cX4_pass 23 = .ok (.ldc2_w 68, 3) := by decide +kernel
theorem dX4_pass_26 : decode cX4_pass 26 = .ok (.ldiv, 1) := by decide +kernel
theorem dX4_pass_27 : decode cX4_pass 27 = .ok (.invokevirtual 70, 3) := by decide +kernel
theorem dX4_pass_30 : decode cX4_pass 30 = .ok (.aload_n 0, 1) := by decide +kernel
theorem dX4_pass_31 : decode cX4_pass 31 = .ok (.getfield 18, 3) := by decide +kernel
theorem dX4_pass_34 : decode cX4_pass 34 = .ok (.astore_n 2, 1) := by decide +kernel
theorem dX4_pass_35 : decode cX4_pass 35 = .ok (.aload_n 2, 1) := by decide +kernel
theorem dX4_pass_36 : decode cX4_pass 36 = .ok (.arraylength, 1) := by decide +kernel
theorem dX4_pass_37 : decode cX4_pass 37 = .ok (.istore_n 3, 1) := by decide +kernel
theorem dX4_pass_38 : decode cX4_pass 38 = .ok (.iconst 0, 1) := by decide +kernel
theorem dX4_pass_39 : decode cX4_pass 39 = .ok (.istore 4, 2) := by decide +kernel
theorem dX4_pass_41 : decode cX4_pass 41 = .ok (.iload 4, 2) := by decide +kernel
theorem dX4_pass_43 : decode cX4_pass 43 = .ok (.iload_n 3, 1) := by decide +kernel
theorem dX4_pass_44 : decode cX4_pass 44 = .ok (.if_icmp .ge 109, 3) := by decide +kernel
theorem dX4_pass_47 : decode cX4_pass 47 = .ok (.aload_n 2, 1) := by decide +kernel
theorem dX4_pass_48 : decode cX4_pass 48 = .ok (.iload 4, 2) := by decide +kernel
theorem dX4_pass_50 : decode cX4_pass 50 = .ok (.aaload, 1) := by decide +kernel
theorem dX4_pass_51 : decode cX4_pass 51 = .ok (.astore 5, 2) := by decide +kernel
theorem dX4_pass_53 : decode cX4_pass 53 = .ok (.aload 5, 2) := by decide +kernel
theorem dX4_pass_55 : decode cX4_pass 55 = .ok (.getfield 46, 3) := by decide +kernel
theorem dX4_pass_58 : decode cX4_pass 58 = .ok (.ifCond .eq 6, 3) := by decide +kernel
theorem dX4_pass_61 : decode cX4_pass 61 = .ok (.goto 86, 3) := by decide +kernel
theorem dX4_pass_64 : decode cX4_pass 64 = .ok (.aload 5, 2) := by decide +kernel
theorem dX4_pass_66 : decode cX4_pass 66 = .ok (.getfield 55, 3) := by decide +kernel
theorem dX4_pass_69 : decode cX4_pass 69 = .ok (.ifCond .ne 29, 3) := by decide +kernel
theorem dX4_pass_72 : decode cX4_pass 72 = .ok (.aload 5, 2) := by decide +kernel
theorem dX4_pass_74 : decode cX4_pass 74 = .ok (.dup, 1) := by decide +kernel
theorem dX4_pass_75 : decode cX4_pass 75 = .ok (.getfield 74, 3) := by decide +kernel
theorem dX4_pass_78 : decode cX4_pass 78 = .ok (.aload 5, 2) := by decide +kernel
theorem dX4_pass_80 : decode cX4_pass 80 = .ok (.getfield 49, 3) := by decide +kernel
theorem dX4_pass_83 : decode cX4_pass 83 = .ok (.iadd, 1) := by decide +kernel
theorem dX4_pass_84 : decode cX4_pass 84 = .ok (.putfield 74, 3) := by decide +kernel
theorem dX4_pass_87 : decode cX4_pass 87 = .ok (.iload_n 1, 1) := by decide +kernel
theorem dX4_pass_88 : decode cX4_pass 88 = .ok (.aload 5, 2) := by decide +kernel
theorem dX4_pass_90 : decode cX4_pass 90 = .ok (.getfield 49, 3) := by decide +kernel
theorem dX4_pass_93 : decode cX4_pass 93 = .ok (.iadd, 1) := by decide +kernel
theorem dX4_pass_94 : decode cX4_pass 94 = .ok (.istore_n 1, 1) := by decide +kernel
theorem dX4_pass_95 : decode cX4_pass 95 = .ok (.goto 14, 3) := by decide +kernel
theorem dX4_pass_98 : decode cX4_pass 98 = .ok (.aload 5, 2) := by decide +kernel
theorem dX4_pass_100 : decode cX4_pass 100 = .ok (.dup, 1) := by decide +kernel
theorem dX4_pass_101 : decode cX4_pass 101 = .ok (.getfield 55, 3) := by decide +kernel
theorem dX4_pass_104 : decode cX4_pass 104 = .ok (.iconst 1, 1) := by decide +kernel
theorem dX4_pass_105 : decode cX4_pass 105 = .ok (.isub, 1) := by decide +kernel
theorem dX4_pass_106 : decode cX4_pass 106 = .ok (.putfield 55, 3) := by decide +kernel
theorem dX4_pass_109 : decode cX4_pass 109 = .ok (.aload 5, 2) := by decide +kernel
theorem dX4_pass_111 : decode cX4_pass 111 = .ok (.dup, 1) := by decide +kernel
theorem dX4_pass_112 : decode cX4_pass 112 = .ok (.getfield 52, 3) := by decide +kernel
theorem dX4_pass_115 : decode cX4_pass 115 = .ok (.iconst 1, 1) := by decide +kernel
theorem dX4_pass_116 : decode cX4_pass 116 = .ok (.iadd, 1) := by decide +kernel
theorem dX4_pass_117 : decode cX4_pass 117 = .ok (.putfield 52, 3) := by decide +kernel
theorem dX4_pass_120 : decode cX4_pass 120 = .ok (.aload 5, 2) := by decide +kernel
theorem dX4_pass_122 : decode cX4_pass 122 = .ok (.dup, 1) := by decide +kernel
theorem dX4_pass_123 : decode cX4_pass 123 = .ok (.getfield 62, 3) := by decide +kernel
theorem dX4_pass_126 : decode cX4_pass 126 = .ok (.iconst 1, 1) := by decide +kernel
theorem dX4_pass_127 : decode cX4_pass 127 = .ok (.iadd, 1) := by decide +kernel
theorem dX4_pass_128 : decode cX4_pass 128 = .ok (.putfield 62, 3) := by decide +kernel
theorem dX4_pass_131 : decode cX4_pass 131 = .ok (.aload 5, 2) := by decide +kernel
theorem dX4_pass_133 : decode cX4_pass 133 = .ok (.getfield 52, 3) := by decide +kernel
theorem dX4_pass_136 : decode cX4_pass 136 = .ok (.bipush 99, 2) := by decide +kernel
theorem dX4_pass_138 : decode cX4_pass 138 = .ok (.if_icmp .le 9, 3) := by decide +kernel
theorem dX4_pass_141 : decode cX4_pass 141 = .ok (.aload 5, 2) := by decide +kernel
theorem dX4_pass_143 : decode cX4_pass 143 = .ok (.iconst 1, 1) := by decide +kernel
theorem dX4_pass_144 : decode cX4_pass 144 = .ok (.putfield 46, 3) := by decide +kernel
theorem dX4_pass_147 : decode cX4_pass 147 = .ok (.iinc 4 1, 3) := by decide +kernel
theorem dX4_pass_150 : decode cX4_pass 150 = .ok (.goto (-109), 3) := by decide +kernel
theorem dX4_pass_153 : decode cX4_pass 153 = .ok (.aload_n 0, 1) := by decide +kernel
theorem dX4_pass_154 : decode cX4_pass 154 = .ok (.dup, 1) := by decide +kernel
theorem dX4_pass_155 : decode cX4_pass 155 = .ok (.getfield 27, 3) := by decide +kernel
theorem dX4_pass_158 : decode cX4_pass 158 = .ok (.iload_n 1, 1) := by decide +kernel
theorem dX4_pass_159 : decode cX4_pass 159 = .ok (.isub, 1) := by decide +kernel
theorem dX4_pass_160 : decode cX4_pass 160 = .ok (.putfield 27, 3) := by decide +kernel
theorem dX4_pass_163 : decode cX4_pass 163 = .ok (.aload_n 0, 1) := by decide +kernel
theorem dX4_pass_164 : decode cX4_pass 164 = .ok (.dup, 1) := by decide +kernel
theorem dX4_pass_165 : decode cX4_pass 165 = .ok (.getfield 30, 3) := by decide +kernel
theorem dX4_pass_168 : decode cX4_pass 168 = .ok (.iload_n 1, 1) := by decide +kernel
theorem dX4_pass_169 : decode cX4_pass 169 = .ok (.iadd, 1) := by decide +kernel
theorem dX4_pass_170 : decode cX4_pass 170 = .ok (.putfield 30, 3) := by decide +kernel
theorem dX4_pass_173 : decode cX4_pass 173 = .ok (.aload_n 0, 1) := by decide +kernel
theorem dX4_pass_174 : decode cX4_pass 174 = .ok (.dup, 1) := by decide +kernel
theorem dX4_pass_175 : decode cX4_pass 175 = .ok (.getfield 23, 3) := by decide +kernel
theorem dX4_pass_178 : decode cX4_pass 178 = .ok (.iconst 1, 1) := by decide +kernel
theorem dX4_pass_179 : decode cX4_pass 179 = .ok (.iadd, 1) := by decide +kernel
theorem dX4_pass_180 : decode cX4_pass 180 = .ok (.putfield 23, 3) := by decide +kernel
theorem dX4_pass_183 : decode cX4_pass 183 = .ok (.iload_n 1, 1) := by decide +kernel
theorem dX4_pass_184 : decode cX4_pass 184 = .ok (.ireturn, 1) := by decide +kernel
set_option maxRecDepth 20000 in
theorem ggX4_counted_X4_keptForAll : GoodIn wsX4_counted wsX4_keptForAll := goodIn_r _ [14, 1, 15, 16, 17, 13, 18, 2, 4, 19, 3, 20, 21, 22, 23, 24, 25, 26, 27, 28, 29, 30, 31, 32, 33, 34, 35, 36, 37, 38] (by decide +kernel) (by decide +kernel)
set_option maxRecDepth 20000 in
theorem gX4_counted_X4_keptForAll : GoodIn wsX4_counted (wsV RX4 80 RX4 yX4_keptForAll wsX4_keptForAll) := goodIn_app (goodIn_of _ (by decide +kernel)) ggX4_counted_X4_keptForAll
theorem dX4_counted_0 : decode cX4_counted 0 = .ok (.iconst 0, 1) := by decide +kernel
theorem dX4_counted_1 : decode cX4_counted 1 = .ok (.istore_n 2, 1) := by decide +kernel
theorem dX4_counted_2 : decode cX4_counted 2 = .ok (.iconst 0, 1) := by decide +kernel
theorem dX4_counted_3 : decode cX4_counted 3 = .ok (.istore_n 3, 1) := by decide +kernel
theorem dX4_counted_4 : decode cX4_counted 4 = .ok (.iconst 0, 1) := by decide +kernel
theorem dX4_counted_5 : decode cX4_counted 5 = .ok (.istore 4, 2) := by decide +kernel
theorem dX4_counted_7 : decode cX4_counted 7 = .ok (.aload_n 0, 1) := by decide +kernel
theorem dX4_counted_8 : decode cX4_counted 8 = .ok (.getfield 18, 3) := by decide +kernel
theorem dX4_counted_11 : decode cX4_counted 11 = .ok (.astore 5, 2) := by decide +kernel
theorem dX4_counted_13 : decode cX4_counted 13 = .ok (.aload 5, 2) := by decide +kernel
theorem dX4_counted_15 : decode cX4_counted 15 = .ok (.arraylength, 1) := by decide +kernel
theorem dX4_counted_16 : decode cX4_counted 16 = .ok (.istore 6, 2) := by decide +kernel
theorem dX4_counted_18 : decode cX4_counted 18 = .ok (.iconst 0, 1) := by decide +kernel
theorem dX4_counted_19 : decode cX4_counted 19 = .ok (.istore 7, 2) := by decide +kernel
theorem dX4_counted_21 : decode cX4_counted 21 = .ok (.iload 7, 2) := by decide +kernel
theorem dX4_counted_23 : decode cX4_counted 23 = .ok (.iload 6, 2) := by decide +kernel
theorem dX4_counted_25 : decode cX4_counted 25 = .ok (.if_icmp .ge 70, 3) := by decide +kernel
theorem dX4_counted_28 : decode cX4_counted 28 = .ok (.aload 5, 2) := by decide +kernel
theorem dX4_counted_30 : decode cX4_counted 30 = .ok (.iload 7, 2) := by decide +kernel
theorem dX4_counted_32 : decode cX4_counted 32 = .ok (.aaload, 1) := by decide +kernel
theorem dX4_counted_33 : decode cX4_counted 33 = .ok (.astore 8, 2) := by decide +kernel
theorem dX4_counted_35 : decode cX4_counted 35 = .ok (.iload_n 2, 1) := by decide +kernel
theorem dX4_counted_36 : decode cX4_counted 36 = .ok (.aload 8, 2) := by decide +kernel
theorem dX4_counted_38 : decode cX4_counted 38 = .ok (.getfield 46, 3) := by decide +kernel
theorem dX4_counted_41 : decode cX4_counted 41 = .ok (.ifCond .ne 7, 3) := by decide +kernel
theorem dX4_counted_44 : decode cX4_counted 44 = .ok (.iconst 1, 1) := by decide +kernel
theorem dX4_counted_45 : decode cX4_counted 45 = .ok (.goto 4, 3) := by decide +kernel
theorem dX4_counted_48 : decode cX4_counted 48 = .ok (.iconst 0, 1) := by decide +kernel
theorem dX4_counted_49 : decode cX4_counted 49 = .ok (.iadd, 1) := by decide +kernel
theorem dX4_counted_50 : decode cX4_counted 50 = .ok (.istore_n 2, 1) := by decide +kernel
theorem dX4_counted_51 : decode cX4_counted 51 = .ok (.iload_n 3, 1) := by decide +kernel
theorem dX4_counted_52 : decode cX4_counted 52 = .ok (.aload 8, 2) := by decide +kernel
theorem dX4_counted_54 : decode cX4_counted 54 = .ok (.getfield 46, 3) := by decide +kernel
theorem dX4_counted_57 : decode cX4_counted 57 = .ok (.ifCond .ne 19, 3) := by decide +kernel
theorem dX4_counted_60 : decode cX4_counted 60 = .ok (.aload 8, 2) := by decide +kernel
theorem dX4_counted_62 : decode cX4_counted 62 = .ok (.getfield 55, 3) := by decide +kernel
theorem dX4_counted_65 : decode cX4_counted 65 = .ok (.ifCond .ne 11, 3) := by decide +kernel
theorem dX4_counted_68 : decode cX4_counted 68 = .ok (.aload 8, 2) := by decide +kernel
theorem dX4_counted_70 : decode cX4_counted 70 = .ok (.getfield 49, 3) := by decide +kernel
theorem dX4_counted_73 : decode cX4_counted 73 = .ok (.goto 4, 3) := by decide +kernel
theorem dX4_counted_76 : decode cX4_counted 76 = .ok (.iconst 0, 1) := by decide +kernel
theorem dX4_counted_77 : decode cX4_counted 77 = .ok (.iadd, 1) := by decide +kernel
theorem dX4_counted_78 : decode cX4_counted 78 = .ok (.istore_n 3, 1) := by decide +kernel
theorem dX4_counted_79 : decode cX4_counted 79 = .ok (.iload 4, 2) := by decide +kernel
theorem dX4_counted_81 : decode cX4_counted 81 = .ok (.aload 8, 2) := by decide +kernel
theorem dX4_counted_83 : decode cX4_counted 83 = .ok (.getfield 77, 3) := by decide +kernel
theorem dX4_counted_86 : decode cX4_counted 86 = .ok (.iadd, 1) := by decide +kernel
theorem dX4_counted_87 : decode cX4_counted 87 = .ok (.istore 4, 2) := by decide +kernel
theorem dX4_counted_89 : decode cX4_counted 89 = .ok (.iinc 7 1, 3) := by decide +kernel
theorem dX4_counted_92 : decode cX4_counted 92 = .ok (.goto (-71), 3) := by decide +kernel
theorem dX4_counted_95 : decode cX4_counted 95 = .ok (.aload_n 0, 1) := by decide +kernel
theorem dX4_counted_96 : decode cX4_counted 96 = .ok (.invokevirtual 80, 3) := by decide +kernel
theorem dX4_counted_99 : decode cX4_counted 99 = .ok (.istore 5, 2) := by decide +kernel
theorem dX4_counted_101 : decode cX4_counted 101 = .ok (.bipush 9, 2) := by decide +kernel
theorem dX4_counted_103 : decode cX4_counted 103 = .ok (.newarray .int, 2) := by decide +kernel
theorem dX4_counted_105 : decode cX4_counted 105 = .ok (.dup, 1) := by decide +kernel
theorem dX4_counted_106 : decode cX4_counted 106 = .ok (.iconst 0, 1) := by decide +kernel
theorem dX4_counted_107 : decode cX4_counted 107 = .ok (.aload_n 0, 1) := by decide +kernel
theorem dX4_counted_108 : decode cX4_counted 108 = .ok (.getfield 23, 3) := by decide +kernel
theorem dX4_counted_111 : decode cX4_counted 111 = .ok (.iastore, 1) := by decide +kernel
theorem dX4_counted_112 : decode cX4_counted 112 = .ok (.dup, 1) := by decide +kernel
theorem dX4_counted_113 : decode cX4_counted 113 = .ok (.iconst 1, 1) := by decide +kernel
theorem dX4_counted_114 : decode cX4_counted 114 = .ok (.aload_n 0, 1) := by decide +kernel
theorem dX4_counted_115 : decode cX4_counted 115 = .ok (.getfield 18, 3) := by decide +kernel
theorem dX4_counted_118 : decode cX4_counted 118 = .ok (.arraylength, 1) := by decide +kernel
theorem dX4_counted_119 : decode cX4_counted 119 = .ok (.iastore, 1) := by decide +kernel
theorem dX4_counted_120 : decode cX4_counted 120 = .ok (.dup, 1) := by decide +kernel
theorem dX4_counted_121 : decode cX4_counted 121 = .ok (.iconst 2, 1) := by decide +kernel
theorem dX4_counted_122 : decode cX4_counted 122 = .ok (.iload_n 2, 1) := by decide +kernel
theorem dX4_counted_123 : decode cX4_counted 123 = .ok (.iastore, 1) := by decide +kernel
theorem dX4_counted_124 : decode cX4_counted 124 = .ok (.dup, 1) := by decide +kernel
theorem dX4_counted_125 : decode cX4_counted 125 = .ok (.iconst 3, 1) := by decide +kernel
theorem dX4_counted_126 : decode cX4_counted 126 = .ok (.aload_n 0, 1) := by decide +kernel
theorem dX4_counted_127 : decode cX4_counted 127 = .ok (.getfield 27, 3) := by decide +kernel
theorem dX4_counted_130 : decode cX4_counted 130 = .ok (.iastore, 1) := by decide +kernel
theorem dX4_counted_131 : decode cX4_counted 131 = .ok (.dup, 1) := by decide +kernel
theorem dX4_counted_132 : decode cX4_counted 132 = .ok (.iconst 4, 1) := by decide +kernel
theorem dX4_counted_133 : decode cX4_counted 133 = .ok (.iload 5, 2) := by decide +kernel
theorem dX4_counted_135 : decode cX4_counted 135 = .ok (.iastore, 1) := by decide +kernel
theorem dX4_counted_136 : decode cX4_counted 136 = .ok (.dup, 1) := by decide +kernel
theorem dX4_counted_137 : decode cX4_counted 137 = .ok (.iconst 5, 1) := by decide +kernel
theorem dX4_counted_138 : decode cX4_counted 138 = .ok (.aload_n 0, 1) := by decide +kernel
theorem dX4_counted_139 : decode cX4_counted 139 = .ok (.getfield 27, 3) := by decide +kernel
theorem dX4_counted_142 : decode cX4_counted 142 = .ok (.iload 5, 2) := by decide +kernel
theorem dX4_counted_144 : decode cX4_counted 144 = .ok (.isub, 1) := by decide +kernel
theorem dX4_counted_145 : decode cX4_counted 145 = .ok (.iastore, 1) := by decide +kernel
theorem dX4_counted_146 : decode cX4_counted 146 = .ok (.dup, 1) := by decide +kernel
theorem dX4_counted_147 : decode cX4_counted 147 = .ok (.bipush 6, 2) := by decide +kernel
theorem dX4_counted_149 : decode cX4_counted 149 = .ok (.iload_n 3, 1) := by decide +kernel
theorem dX4_counted_150 : decode cX4_counted 150 = .ok (.iastore, 1) := by decide +kernel
theorem dX4_counted_151 : decode cX4_counted 151 = .ok (.dup, 1) := by decide +kernel
theorem dX4_counted_152 : decode cX4_counted 152 = .ok (.bipush 7, 2) := by decide +kernel
theorem dX4_counted_154 : decode cX4_counted 154 = .ok (.aload_n 0, 1) := by decide +kernel
theorem dX4_counted_155 : decode cX4_counted 155 = .ok (.getfield 30, 3) := by decide +kernel
theorem dX4_counted_158 : decode cX4_counted 158 = .ok (.iastore, 1) := by decide +kernel
theorem dX4_counted_159 : decode cX4_counted 159 = .ok (.dup, 1) := by decide +kernel
theorem dX4_counted_160 : decode cX4_counted 160 = .ok (.bipush 8, 2) := by decide +kernel
theorem dX4_counted_162 : decode cX4_counted 162 = .ok (.iload 4, 2) := by decide +kernel
theorem dX4_counted_164 : decode cX4_counted 164 = .ok (.iastore, 1) := by decide +kernel
theorem dX4_counted_165 : decode cX4_counted 165 = .ok (.astore 6, 2) := by decide +kernel
theorem dX4_counted_167 : decode cX4_counted 167 = .ok (.aload 6, 2) := by decide +kernel
theorem dX4_counted_169 : decode cX4_counted 169 = .ok (.iload_n 1, 1) := by decide +kernel
theorem dX4_counted_170 : decode cX4_counted 170 = .ok (.iaload, 1) := by decide +kernel
theorem dX4_counted_171 : decode cX4_counted 171 = .ok (.ireturn, 1) := by decide +kernel
set_option maxRecDepth 20000 in
theorem ggX4_isSame_X4_kept : GoodIn wsX4_isSame wsX4_kept := goodIn_r _ [14, 7, 4, 3, 5, 15, 16, 17, 13, 18, 19, 20, 155, 156, 157, 158, 159, 160, 161, 149, 150, 151, 152, 153, 154] (by decide +kernel) (by decide +kernel)
set_option maxRecDepth 20000 in
theorem gX4_isSame_X4_kept : GoodIn wsX4_isSame (wsV RX4 58 RX4 yX4_kept wsX4_kept) := goodIn_app (goodIn_of _ (by decide +kernel)) ggX4_isSame_X4_kept
set_option maxRecDepth 20000 in
theorem ggX4_isSame_X4_back : GoodIn wsX4_isSame wsX4_back := goodIn_r _ [24, 7, 6, 20, 10, 11, 12, 13, 14, 4, 3, 5, 15, 16, 17, 18, 19, 155, 156, 157, 158, 159, 160, 161, 149, 150, 151, 152, 153, 154] (by decide +kernel) (by decide +kernel)
set_option maxRecDepth 20000 in
theorem gX4_isSame_X4_back : GoodIn wsX4_isSame (wsV RX4 84 RX4 yX4_back wsX4_back) := goodIn_app (goodIn_of _ (by decide +kernel)) ggX4_isSame_X4_back
set_option maxRecDepth 20000 in
theorem ggX4_isSame_X3_told : GoodIn wsX4_isSame wsX3_told := goodIn_ca (goodIn_r _ [29, 30, 31, 32, 33, 34, 35, 36, 28, 37, 38, 39, 40, 41, 42, 43, 44, 45, 46, 47, 48, 49, 50, 51, 52, 53, 54, 55, 56, 57, 58, 59, 60, 61, 62, 63, 64, 65, 66, 67, 68, 69, 70, 71, 72, 73, 74, 75, 76, 77, 78, 79, 80, 81, 82, 83, 84, 85, 86, 87, 88, 89, 90, 91, 92, 162, 163, 164, 165, 166, 167, 168, 169, 170, 171, 172, 173, 174, 175, 176, 177, 178, 179, 180] (by decide +kernel) (by decide +kernel)) (goodIn_sub (fun _ h => List.mem_cons_of_mem _ (List.mem_append_right _ h)) (by decide +kernel))
set_option maxRecDepth 20000 in
theorem gX4_isSame_X3_told : GoodIn wsX4_isSame (wsV RX4 87 RX3 yX3_told wsX3_told) := goodIn_app (goodIn_of _ (by decide +kernel)) ggX4_isSame_X3_told
set_option maxRecDepth 20000 in
theorem ggX4_isSame_X3_count : GoodIn wsX4_isSame wsX3_count := goodIn_ca (goodIn_r _ [96, 30, 31, 33, 97, 98, 99, 42, 100, 101, 102, 103, 104, 105, 106, 107, 108, 109, 110, 111, 40, 41, 43, 44, 112, 67, 68, 69, 70, 71, 113, 114, 115, 48, 116, 61, 117, 118, 119, 120, 121, 63, 64, 65, 51, 50, 52, 66, 72, 73, 74, 75, 76, 77, 78, 79, 80, 81, 28, 82, 122, 123, 124, 125, 126, 127, 162, 163, 164, 165, 166, 167, 168, 169, 170, 171, 172, 173, 174, 175, 176, 177, 178, 179, 180] (by decide +kernel) (by decide +kernel)) (goodIn_sub (fun _ h => List.mem_cons_of_mem _ (List.mem_append_right _ h)) (by decide +kernel))
set_option maxRecDepth 20000 in
theorem gX4_isSame_X3_count : GoodIn wsX4_isSame (wsV RX4 92 RX3 yX3_count wsX3_count) := goodIn_app (goodIn_of _ (by decide +kernel)) ggX4_isSame_X3_count
set_option maxRecDepth 20000 in
theorem ggX4_isSame_X4_counted : GoodIn wsX4_isSame wsX4_counted := goodIn_r _ [131, 1, 7, 5, 4, 9, 2, 132, 133, 134, 135, 136, 137, 13, 138, 10, 11, 12, 14, 3, 15, 16, 17, 18, 19, 20, 149, 150, 151, 152, 153, 154, 155, 156, 157, 158, 159, 160, 161] (by decide +kernel) (by decide +kernel)
set_option maxRecDepth 20000 in
theorem gX4_isSame_X4_counted : GoodIn wsX4_isSame (wsV RX4 96 RX4 yX4_counted wsX4_counted) := goodIn_app (goodIn_of _ (by decide +kernel)) ggX4_isSame_X4_counted
set_option maxRecDepth 20000 in
theorem ggX4_isSame_X3_mean : GoodIn wsX4_isSame wsX3_mean := goodIn_r _ [142, 33, 143, 108, 109, 42, 110, 102, 111, 40, 41, 43, 44, 112, 67, 68, 69, 70, 71, 144, 145, 146, 147, 148, 162, 163, 164, 165, 166, 167, 168, 169, 170, 171, 172, 173, 174, 175, 176, 177, 178] (by decide +kernel) (by decide +kernel)
set_option maxRecDepth 20000 in
theorem gX4_isSame_X3_mean : GoodIn wsX4_isSame (wsV RX4 99 RX3 yX3_mean wsX3_mean) := goodIn_app (goodIn_of _ (by decide +kernel)) ggX4_isSame_X3_mean
theorem dX4_isSame_0 : decode cX4_isSame 0 = .ok (.iconst 0, 1) := by decide +kernel
theorem dX4_isSame_1 : decode cX4_isSame 1 = .ok (.istore_n 2, 1) := by decide +kernel
theorem dX4_isSame_2 : decode cX4_isSame 2 = .ok (.iconst 0, 1) := by decide +kernel
theorem dX4_isSame_3 : decode cX4_isSame 3 = .ok (.istore_n 3, 1) := by decide +kernel
theorem dX4_isSame_4 : decode cX4_isSame 4 = .ok (.iload_n 3, 1) := by decide +kernel
theorem dX4_isSame_5 : decode cX4_isSame 5 = .ok (.aload_n 0, 1) := by decide +kernel
theorem dX4_isSame_6 : decode cX4_isSame 6 = .ok (.getfield 18, 3) := by decide +kernel
theorem dX4_isSame_9 : decode cX4_isSame 9 = .ok (.arraylength, 1) := by decide +kernel
theorem dX4_isSame_10 : decode cX4_isSame 10 = .ok (.if_icmp .ge 153, 3) := by decide +kernel
theorem dX4_isSame_13 : decode cX4_isSame 13 = .ok (.aload_n 0, 1) := by decide +kernel
theorem dX4_isSame_14 : decode cX4_isSame 14 = .ok (.getfield 18, 3) := by decide +kernel
theorem dX4_isSame_17 : decode cX4_isSame 17 = .ok (.iload_n 3, 1) := by decide +kernel
theorem dX4_isSame_18 : decode cX4_isSame 18 = .ok (.aaload, 1) := by decide +kernel
theorem dX4_isSame_19 : decode cX4_isSame 19 = .ok (.astore 4, 2) := by decide +kernel
theorem dX4_isSame_21 : decode cX4_isSame 21 = .ok (.bipush 9, 2) := by decide +kernel
theorem dX4_isSame_23 : decode cX4_isSame 23 = .ok (.newarray .int, 2) := by decide +kernel
theorem dX4_isSame_25 : decode cX4_isSame 25 = .ok (.dup, 1) := by decide +kernel
theorem dX4_isSame_26 : decode cX4_isSame 26 = .ok (.iconst 0, 1) := by decide +kernel
theorem dX4_isSame_27 : decode cX4_isSame 27 = .ok (.aload 4, 2) := by decide +kernel
theorem dX4_isSame_29 : decode cX4_isSame 29 = .ok (.getfield 52, 3) := by decide +kernel
theorem dX4_isSame_32 : decode cX4_isSame 32 = .ok (.iastore, 1) := by decide +kernel
theorem dX4_isSame_33 : decode cX4_isSame 33 = .ok (.dup, 1) := by decide +kernel
theorem dX4_isSame_34 : decode cX4_isSame 34 = .ok (.iconst 1, 1) := by decide +kernel
theorem dX4_isSame_35 : decode cX4_isSame 35 = .ok (.aload 4, 2) := by decide +kernel
theorem dX4_isSame_37 : decode cX4_isSame 37 = .ok (.getfield 49, 3) := by decide +kernel
theorem dX4_isSame_40 : decode cX4_isSame 40 = .ok (.iastore, 1) := by decide +kernel
theorem dX4_isSame_41 : decode cX4_isSame 41 = .ok (.dup, 1) := by decide +kernel
theorem dX4_isSame_42 : decode cX4_isSame 42 = .ok (.iconst 2, 1) := by decide +kernel
theorem dX4_isSame_43 : decode cX4_isSame 43 = .ok (.aload 4, 2) := by decide +kernel
theorem dX4_isSame_45 : decode cX4_isSame 45 = .ok (.getfield 55, 3) := by decide +kernel
theorem dX4_isSame_48 : decode cX4_isSame 48 = .ok (.iastore, 1) := by decide +kernel
theorem dX4_isSame_49 : decode cX4_isSame 49 = .ok (.dup, 1) := by decide +kernel
theorem dX4_isSame_50 : decode cX4_isSame 50 = .ok (.iconst 3, 1) := by decide +kernel
theorem dX4_isSame_51 : decode cX4_isSame 51 = .ok (.aload 4, 2) := by decide +kernel
theorem dX4_isSame_53 : decode cX4_isSame 53 = .ok (.getfield 62, 3) := by decide +kernel
theorem dX4_isSame_56 : decode cX4_isSame 56 = .ok (.iastore, 1) := by decide +kernel
theorem dX4_isSame_57 : decode cX4_isSame 57 = .ok (.dup, 1) := by decide +kernel
theorem dX4_isSame_58 : decode cX4_isSame 58 = .ok (.iconst 4, 1) := by decide +kernel
theorem dX4_isSame_59 : decode cX4_isSame 59 = .ok (.aload 4, 2) := by decide +kernel
theorem dX4_isSame_61 : decode cX4_isSame 61 = .ok (.getfield 46, 3) := by decide +kernel
theorem dX4_isSame_64 : decode cX4_isSame 64 = .ok (.iastore, 1) := by decide +kernel
theorem dX4_isSame_65 : decode cX4_isSame 65 = .ok (.dup, 1) := by decide +kernel
theorem dX4_isSame_66 : decode cX4_isSame 66 = .ok (.iconst 5, 1) := by decide +kernel
theorem dX4_isSame_67 : decode cX4_isSame 67 = .ok (.aload_n 0, 1) := by decide +kernel
theorem dX4_isSame_68 : decode cX4_isSame 68 = .ok (.aload 4, 2) := by decide +kernel
theorem dX4_isSame_70 : decode cX4_isSame 70 = .ok (.invokevirtual 58, 3) := by decide +kernel
theorem dX4_isSame_73 : decode cX4_isSame 73 = .ok (.iastore, 1) := by decide +kernel
theorem dX4_isSame_74 : decode cX4_isSame 74 = .ok (.dup, 1) := by decide +kernel
theorem dX4_isSame_75 : decode cX4_isSame 75 = .ok (.bipush 6, 2) := by decide +kernel
theorem dX4_isSame_77 : decode cX4_isSame 77 = .ok (.aload 4, 2) := by decide +kernel
theorem dX4_isSame_79 : decode cX4_isSame 79 = .ok (.getfield 74, 3) := by decide +kernel
theorem dX4_isSame_82 : decode cX4_isSame 82 = .ok (.iastore, 1) := by decide +kernel
theorem dX4_isSame_83 : decode cX4_isSame 83 = .ok (.dup, 1) := by decide +kernel
theorem dX4_isSame_84 : decode cX4_isSame 84 = .ok (.bipush 7, 2) := by decide +kernel
theorem dX4_isSame_86 : decode cX4_isSame 86 = .ok (.aload 4, 2) := by decide +kernel
theorem dX4_isSame_88 : decode cX4_isSame 88 = .ok (.getfield 77, 3) := by decide +kernel
theorem dX4_isSame_91 : decode cX4_isSame 91 = .ok (.iastore, 1) := by decide +kernel
theorem dX4_isSame_92 : decode cX4_isSame 92 = .ok (.dup, 1) := by decide +kernel
theorem dX4_isSame_93 : decode cX4_isSame 93 = .ok (.bipush 8, 2) := by decide +kernel
theorem dX4_isSame_95 : decode cX4_isSame 95 = .ok (.aload_n 0, 1) := by decide +kernel
theorem dX4_isSame_96 : decode cX4_isSame 96 = .ok (.aload 4, 2) := by decide +kernel
theorem dX4_isSame_98 : decode cX4_isSame 98 = .ok (.invokevirtual 84, 3) := by decide +kernel
theorem dX4_isSame_101 : decode cX4_isSame 101 = .ok (.iastore, 1) := by decide +kernel
theorem dX4_isSame_102 : decode cX4_isSame 102 = .ok (.astore 5, 2) := by decide +kernel
theorem dX4_isSame_104 : decode cX4_isSame 104 = .ok (.iconst 0, 1) := by decide +kernel
theorem dX4_isSame_105 : decode cX4_isSame 105 = .ok (.istore 6, 2) := by decide +kernel
theorem dX4_isSame_107 : decode cX4_isSame 107 = .ok (.iload 6, 2) := by decide +kernel
theorem dX4_isSame_109 : decode cX4_isSame 109 = .ok (.bipush 9, 2) := by decide +kernel
theorem dX4_isSame_111 : decode cX4_isSame 111 = .ok (.if_icmp .ge 26, 3) := by decide +kernel
theorem dX4_isSame_114 : decode cX4_isSame 114 = .ok (.aload_n 1, 1) := by decide +kernel
theorem dX4_isSame_115 : decode cX4_isSame 115 = .ok (.iload_n 3, 1) := by decide +kernel
theorem dX4_isSame_116 : decode cX4_isSame 116 = .ok (.iload 6, 2) := by decide +kernel
theorem dX4_isSame_118 : decode cX4_isSame 118 = .ok (.invokevirtual 87, 3) := by decide +kernel
theorem dX4_isSame_121 : decode cX4_isSame 121 = .ok (.aload 5, 2) := by decide +kernel
theorem dX4_isSame_123 : decode cX4_isSame 123 = .ok (.iload 6, 2) := by decide +kernel
theorem dX4_isSame_125 : decode cX4_isSame 125 = .ok (.iaload, 1) := by decide +kernel
theorem dX4_isSame_126 : decode cX4_isSame 126 = .ok (.if_icmp .eq 5, 3) := by decide +kernel
theorem dX4_isSame_129 : decode cX4_isSame 129 = .ok (.iconst 0, 1) := by decide +kernel
theorem dX4_isSame_130 : decode cX4_isSame 130 = .ok (.ireturn, 1) := by decide +kernel
theorem dX4_isSame_131 : decode cX4_isSame 131 = .ok (.iinc 6 1, 3) := by decide +kernel
theorem dX4_isSame_134 : decode cX4_isSame 134 = .ok (.goto (-27), 3) := by decide +kernel
theorem dX4_isSame_137 : decode cX4_isSame 137 = .ok (.iload_n 2, 1) := by decide +kernel
theorem dX4_isSame_138 : decode cX4_isSame 138 = .ok (.aload 4, 2) := by decide +kernel
theorem dX4_isSame_140 : decode cX4_isSame 140 = .ok (.getfield 46, 3) := by decide +kernel
theorem dX4_isSame_143 : decode cX4_isSame 143 = .ok (.ifCond .ne 11, 3) := by decide +kernel
theorem dX4_isSame_146 : decode cX4_isSame 146 = .ok (.aload 4, 2) := by decide +kernel
theorem dX4_isSame_148 : decode cX4_isSame 148 = .ok (.getfield 52, 3) := by decide +kernel
theorem dX4_isSame_151 : decode cX4_isSame 151 = .ok (.goto 4, 3) := by decide +kernel
theorem dX4_isSame_154 : decode cX4_isSame 154 = .ok (.iconst 0, 1) := by decide +kernel
theorem dX4_isSame_155 : decode cX4_isSame 155 = .ok (.iadd, 1) := by decide +kernel
theorem dX4_isSame_156 : decode cX4_isSame 156 = .ok (.istore_n 2, 1) := by decide +kernel
theorem dX4_isSame_157 : decode cX4_isSame 157 = .ok (.iinc 3 1, 3) := by decide +kernel
theorem dX4_isSame_160 : decode cX4_isSame 160 = .ok (.goto (-156), 3) := by decide +kernel
theorem dX4_isSame_163 : decode cX4_isSame 163 = .ok (.iconst 0, 1) := by decide +kernel
theorem dX4_isSame_164 : decode cX4_isSame 164 = .ok (.istore_n 3, 1) := by decide +kernel
theorem dX4_isSame_165 : decode cX4_isSame 165 = .ok (.iload_n 3, 1) := by decide +kernel
theorem dX4_isSame_166 : decode cX4_isSame 166 = .ok (.bipush 9, 2) := by decide +kernel
theorem dX4_isSame_168 : decode cX4_isSame 168 = .ok (.if_icmp .ge 24, 3) := by decide +kernel
theorem dX4_isSame_171 : decode cX4_isSame 171 = .ok (.aload_n 1, 1) := by decide +kernel
theorem dX4_isSame_172 : decode cX4_isSame 172 = .ok (.iload_n 3, 1) := by decide +kernel
theorem dX4_isSame_173 : decode cX4_isSame 173 = .ok (.invokevirtual 92, 3) := by decide +kernel
theorem dX4_isSame_176 : decode cX4_isSame 176 = .ok (.aload_n 0, 1) := by decide +kernel
theorem dX4_isSame_177 : decode cX4_isSame 177 = .ok (.iload_n 3, 1) := by decide +kernel
theorem dX4_isSame_178 : decode cX4_isSame 178 = .ok (.invokevirtual 96, 3) := by decide +kernel
theorem dX4_isSame_181 : decode cX4_isSame 181 = .ok (.if_icmp .eq 5, 3) := by decide +kernel
theorem dX4_isSame_184 : decode cX4_isSame 184 = .ok (.iconst 0, 1) := by decide +kernel
theorem dX4_isSame_185 : decode cX4_isSame 185 = .ok (.ireturn, 1) := by decide +kernel
theorem dX4_isSame_186 : decode cX4_isSame 186 = .ok (.iinc 3 1, 3) := by decide +kernel
theorem dX4_isSame_189 : decode cX4_isSame 189 = .ok (.goto (-24), 3) := by decide +kernel
theorem dX4_isSame_192 : decode cX4_isSame 192 = .ok (.aload_n 0, 1) := by decide +kernel
theorem dX4_isSame_193 : decode cX4_isSame 193 = .ok (.iconst 2, 1) := by decide +kernel
theorem dX4_isSame_194 : decode cX4_isSame 194 = .ok (.invokevirtual 96, 3) := by decide +kernel
theorem dX4_isSame_197 : decode cX4_isSame 197 = .ok (.istore_n 3, 1) := by decide +kernel
theorem dX4_isSame_198 : decode cX4_isSame 198 = .ok (.aload_n 1, 1) := by decide +kernel
theorem dX4_isSame_199 : decode cX4_isSame 199 = .ok (.invokevirtual 99, 3) := by decide +kernel
theorem dX4_isSame_202 : decode cX4_isSame 202 = .ok (.iload_n 3, 1) := by decide +kernel
theorem dX4_isSame_203 : decode cX4_isSame 203 = .ok (.ifCond .ne 7, 3) := by decide +kernel
theorem dX4_isSame_206 : decode cX4_isSame 206 = .ok (.dconst 0, 1) := by decide +kernel
theorem dX4_isSame_207 : decode cX4_isSame 207 = .ok (.goto 8, 3) := by decide +kernel
theorem dX4_isSame_210 : decode cX4_isSame 210 = .ok (.iload_n 2, 1) := by decide +kernel
theorem dX4_isSame_211 : decode cX4_isSame 211 = .ok (.i2d, 1) := by decide +kernel
theorem dX4_isSame_212 : decode cX4_isSame 212 = .ok (.iload_n 3, 1) := by decide +kernel
theorem dX4_isSame_213 : decode cX4_isSame 213 = .ok (.i2d, 1) := by decide +kernel
theorem dX4_isSame_214 : decode cX4_isSame 214 = .ok (.ddiv, 1) := by decide +kernel
theorem dX4_isSame_215 : decode cX4_isSame 215 = .ok (.dcmp .l, 1) := by decide +kernel
theorem dX4_isSame_216 : decode cX4_isSame 216 = .ok (.ifCond .ne 7, 3) := by decide +kernel
theorem dX4_isSame_219 : decode cX4_isSame 219 = .ok (.iconst 1, 1) := by decide +kernel
theorem dX4_isSame_220 : decode cX4_isSame 220 = .ok (.goto 4, 3) := by decide +kernel
theorem dX4_isSame_223 : decode cX4_isSame 223 = .ok (.iconst 0, 1) := by decide +kernel
theorem dX4_isSame_224 : decode cX4_isSame 224 = .ok (.ireturn, 1) := by decide +kernel
theorem dX5_init_0 : decode cX5_init 0 = .ok (.aload_n 0, 1) := by decide +kernel
theorem dX5_init_1 : decode cX5_init 1 = .ok (.invokespecial 1, 3) := by decide +kernel
theorem dX5_init_4 : decode cX5_init 4 = .ok (.return_, 1) := by decide +kernel
theorem dJ9_max_7cf53_0 : decode cJ9_max_7cf53 0 = .ok (.iload_n 0, 1) := by decide +kernel
theorem dJ9_max_7cf53_1 : decode cJ9_max_7cf53 1 = .ok (.iload_n 1, 1) := by decide +kernel
theorem dJ9_max_7cf53_2 : decode cJ9_max_7cf53 2 = .ok (.if_icmp .lt 7, 3) := by decide +kernel
theorem dJ9_max_7cf53_5 : decode cJ9_max_7cf53 5 = .ok (.iload_n 0, 1) := by decide +kernel
theorem dJ9_max_7cf53_6 : decode cJ9_max_7cf53 6 = .ok (.goto 4, 3) := by decide +kernel
theorem dJ9_max_7cf53_9 : decode cJ9_max_7cf53 9 = .ok (.iload_n 1, 1) := by decide +kernel
theorem dJ9_max_7cf53_10 : decode cJ9_max_7cf53 10 = .ok (.ireturn, 1) := by decide +kernel
theorem dJ9_min_f86c9_0 : decode cJ9_min_f86c9 0 = .ok (.lload_n 0, 1) := by decide +kernel
theorem dJ9_min_f86c9_1 : decode cJ9_min_f86c9 1 = .ok (.lload_n 2, 1) := by decide +kernel
theorem dJ9_min_f86c9_2 : decode cJ9_min_f86c9 2 = .ok (.lcmp, 1) := by decide +kernel
theorem dJ9_min_f86c9_3 : decode cJ9_min_f86c9 3 = .ok (.ifCond .gt 7, 3) := by decide +kernel
theorem dJ9_min_f86c9_6 : decode cJ9_min_f86c9 6 = .ok (.lload_n 0, 1) := by decide +kernel
theorem dJ9_min_f86c9_7 : decode cJ9_min_f86c9 7 = .ok (.goto 4, 3) := by decide +kernel
theorem dJ9_min_f86c9_10 : decode cJ9_min_f86c9 10 = .ok (.lload_n 2, 1) := by decide +kernel
theorem dJ9_min_f86c9_11 : decode cJ9_min_f86c9 11 = .ok (.lreturn, 1) := by decide +kernel
theorem dL_below_0 : decode cL_below 0 = .ok (.iload_n 0, 1) := by decide +kernel
theorem dL_below_1 : decode cL_below 1 = .ok (.ldc 7, 2) := by decide +kernel
theorem dL_below_3 : decode cL_below 3 = .ok (.iand, 1) := by decide +kernel
theorem dL_below_4 : decode cL_below 4 = .ok (.iload_n 1, 1) := by decide +kernel
theorem dL_below_5 : decode cL_below 5 = .ok (.irem, 1) := by decide +kernel
theorem dL_below_6 : decode cL_below 6 = .ok (.ireturn, 1) := by decide +kernel
theorem dL_cell_0 : decode cL_cell 0 = .ok (.iload_n 1, 1) := by decide +kernel
theorem dL_cell_1 : decode cL_cell 1 = .ok (.aload_n 0, 1) := by decide +kernel
theorem dL_cell_2 : decode cL_cell 2 = .ok (.arraylength, 1) := by decide +kernel
theorem dL_cell_3 : decode cL_cell 3 = .ok (.if_icmp .ge 9, 3) := by decide +kernel
theorem dL_cell_6 : decode cL_cell 6 = .ok (.aload_n 0, 1) := by decide +kernel
theorem dL_cell_7 : decode cL_cell 7 = .ok (.iload_n 1, 1) := by decide +kernel
theorem dL_cell_8 : decode cL_cell 8 = .ok (.iaload, 1) := by decide +kernel
theorem dL_cell_9 : decode cL_cell 9 = .ok (.goto 9, 3) := by decide +kernel
theorem dL_cell_12 : decode cL_cell 12 = .ok (.ldc 8, 2) := by decide +kernel
theorem dL_cell_14 : decode cL_cell 14 = .ok (.iload_n 1, 1) := by decide +kernel
theorem dL_cell_15 : decode cL_cell 15 = .ok (.iconst 3, 1) := by decide +kernel
theorem dL_cell_16 : decode cL_cell 16 = .ok (.iadd, 1) := by decide +kernel
theorem dL_cell_17 : decode cL_cell 17 = .ok (.imul, 1) := by decide +kernel
theorem dL_cell_18 : decode cL_cell 18 = .ok (.ireturn, 1) := by decide +kernel
set_option maxRecDepth 20000 in
theorem ggL_act_L_below : GoodIn wsL_act wsL_below := goodIn_r _ [21, 22] (by decide +kernel) (by decide +kernel)
set_option maxRecDepth 20000 in
theorem gL_act_L_below : GoodIn wsL_act (va_wsS RL 15 yL_below wsL_below) := goodIn_app (goodIn_of _ (by decide +kernel)) ggL_act_L_below
set_option maxRecDepth 20000 in
theorem ggL_act_X3_setDeaths : GoodIn wsL_act wsX3_setDeaths := goodIn_ca (goodIn_ca (goodIn_r _ [27, 28, 29, 30, 31, 32, 33, 34, 26, 35, 36, 37, 38, 39, 40, 41, 42, 43, 44, 45, 265, 266, 267, 268, 269] (by decide +kernel) (by decide +kernel)) (goodIn_sub (fun _ h => List.mem_cons_of_mem _ (List.mem_append_left _ (List.mem_append_left _ (List.mem_append_right _ h)))) (by decide +kernel))) (goodIn_sub (fun _ h => List.mem_cons_of_mem _ (List.mem_append_left _ (List.mem_append_right _ h))) (by decide +kernel))
set_option maxRecDepth 20000 in
theorem gL_act_X3_setDeaths : GoodIn wsL_act (wsV RL 25 RX3 yX3_setDeaths wsX3_setDeaths) := goodIn_app (goodIn_of _ (by decide +kernel)) ggL_act_X3_setDeaths
set_option maxRecDepth 20000 in
theorem ggL_act_X3_setRate : GoodIn wsL_act wsX3_setRate := goodIn_ca (goodIn_ca (goodIn_r _ [49, 28, 29, 30, 31, 32, 50, 51, 52, 39, 53, 54, 55, 56, 57, 58, 265, 266, 267, 268, 269] (by decide +kernel) (by decide +kernel)) (goodIn_sub (fun _ h => List.mem_cons_of_mem _ (List.mem_append_left _ (List.mem_append_left _ (List.mem_append_right _ h)))) (by decide +kernel))) (goodIn_sub (fun _ h => List.mem_cons_of_mem _ (List.mem_append_left _ (List.mem_append_right _ h))) (by decide +kernel))
set_option maxRecDepth 20000 in
theorem gL_act_X3_setRate : GoodIn wsL_act (wsV RL 33 RX3 yX3_setRate wsX3_setRate) := goodIn_app (goodIn_of _ (by decide +kernel)) ggL_act_X3_setRate
set_option maxRecDepth 20000 in
theorem ggL_act_X4_kept : GoodIn wsL_act wsX4_kept := goodIn_r _ [63, 64, 65, 66, 67, 68, 69, 70, 62, 71, 72, 73, 258, 259, 260, 261, 262, 263, 264, 252, 253, 254, 255, 256, 257] (by decide +kernel) (by decide +kernel)
set_option maxRecDepth 20000 in
theorem gL_act_X4_kept : GoodIn wsL_act (wsV RL 42 RX4 yX4_kept wsX4_kept) := goodIn_app (goodIn_of _ (by decide +kernel)) ggL_act_X4_kept
set_option maxRecDepth 20000 in
theorem ggL_act_X3_die : GoodIn wsL_act wsX3_die := goodIn_ca (goodIn_ca (goodIn_r _ [77, 78, 79, 80, 32, 81, 82, 83, 84, 26, 85, 28, 29, 86, 87, 88, 89, 90, 91, 92, 93, 94, 95, 96, 97, 98, 99, 100, 101, 39, 102, 54, 103, 104, 105, 106, 107, 108, 109, 110, 111, 112, 113, 114, 115, 37, 38, 40, 41, 34, 35, 265, 266, 267, 270, 271, 272, 273, 274, 275, 276, 277, 278, 279, 280, 281, 282, 283, 268, 269] (by decide +kernel) (by decide +kernel)) (goodIn_sub (fun _ h => List.mem_cons_of_mem _ (List.mem_append_right _ h)) (by decide +kernel))) (goodIn_sub (fun _ h => List.mem_cons_of_mem _ (List.mem_append_left _ (List.mem_append_left _ (List.mem_append_right _ h)))) (by decide +kernel))
set_option maxRecDepth 20000 in
theorem gL_act_X3_die : GoodIn wsL_act (wsV RL 46 RX3 yX3_die wsX3_die) := goodIn_app (goodIn_of _ (by decide +kernel)) ggL_act_X3_die
set_option maxRecDepth 20000 in
theorem ggL_act_X4_back : GoodIn wsL_act wsX4_back := goodIn_r _ [119, 64, 120, 73, 121, 60, 61, 62, 63, 65, 66, 67, 68, 69, 70, 71, 72, 258, 259, 260, 261, 262, 263, 264, 252, 253, 254, 255, 256, 257] (by decide +kernel) (by decide +kernel)
set_option maxRecDepth 20000 in
theorem gL_act_X4_back : GoodIn wsL_act (wsV RL 53 RX4 yX4_back wsX4_back) := goodIn_app (goodIn_of _ (by decide +kernel)) ggL_act_X4_back
set_option maxRecDepth 20000 in
theorem ggL_act_X3_giveUp : GoodIn wsL_act wsX3_giveUp := goodIn_ca (goodIn_ca (goodIn_r _ [125, 78, 79, 80, 32, 81, 126, 82, 83, 84, 26, 85, 28, 29, 86, 87, 88, 89, 90, 91, 92, 127, 128, 129, 96, 130, 131, 132, 94, 95, 97, 98, 133, 134, 135, 39, 136, 54, 137, 138, 100, 101, 102, 103, 104, 105, 106, 107, 108, 109, 110, 111, 112, 113, 114, 115, 37, 38, 40, 41, 34, 35, 139, 140, 141, 142, 143, 144, 265, 266, 267, 270, 271, 272, 273, 274, 275, 276, 277, 278, 279, 280, 281, 282, 283, 268, 269] (by decide +kernel) (by decide +kernel)) (goodIn_sub (fun _ h => List.mem_cons_of_mem _ (List.mem_append_right _ h)) (by decide +kernel))) (goodIn_sub (fun _ h => List.mem_cons_of_mem _ (List.mem_append_left _ (List.mem_append_left _ (List.mem_append_right _ h)))) (by decide +kernel))
set_option maxRecDepth 20000 in
theorem gL_act_X3_giveUp : GoodIn wsL_act (wsV RL 65 RX3 yX3_giveUp wsX3_giveUp) := goodIn_app (goodIn_of _ (by decide +kernel)) ggL_act_X3_giveUp
set_option maxRecDepth 20000 in
theorem ggL_act_X4_come : GoodIn wsL_act wsX4_come := goodIn_r _ [148, 149, 150, 151, 252, 253, 254, 255, 256, 257] (by decide +kernel) (by decide +kernel)
set_option maxRecDepth 20000 in
theorem gL_act_X4_come : GoodIn wsL_act (wsV RL 70 RX4 yX4_come wsX4_come) := goodIn_app (goodIn_of _ (by decide +kernel)) ggL_act_X4_come
set_option maxRecDepth 20000 in
theorem ggL_act_X3_put : GoodIn wsL_act wsX3_put := goodIn_ca (goodIn_r _ [155, 30, 31, 156, 157, 80, 158, 159, 160, 161, 90, 162, 143, 163, 265, 266, 267, 277, 278, 279, 280, 281, 282, 283] (by decide +kernel) (by decide +kernel)) (goodIn_sub (fun _ h => List.mem_cons_of_mem _ (List.mem_append_left _ (List.mem_append_right _ h))) (by decide +kernel))
set_option maxRecDepth 20000 in
theorem gL_act_X3_put : GoodIn wsL_act (wsV RL 74 RX3 yX3_put wsX3_put) := goodIn_app (goodIn_of _ (by decide +kernel)) ggL_act_X3_put
set_option maxRecDepth 20000 in
theorem ggL_act_X4_pass : GoodIn wsL_act wsX4_pass := goodIn_r _ [167, 149, 73, 168, 169, 64, 67, 170, 65, 66, 120, 171, 172, 173, 146, 147, 62, 148, 150, 151, 252, 253, 254, 255, 256, 257, 258, 259, 260, 261, 262, 263, 264] (by decide +kernel) (by decide +kernel)
set_option maxRecDepth 20000 in
theorem gL_act_X4_pass : GoodIn wsL_act (wsV RL 77 RX4 yX4_pass wsX4_pass) := goodIn_app (goodIn_of _ (by decide +kernel)) ggL_act_X4_pass
set_option maxRecDepth 20000 in
theorem ggL_act_X3_pass : GoodIn wsL_act wsX3_pass := goodIn_ca (goodIn_r _ [177, 80, 178, 179, 180, 26, 181, 30, 31, 182, 183, 184, 90, 185, 186, 187, 188, 189, 143, 190, 191, 192, 193, 194, 51, 52, 39, 53, 54, 195, 160, 161, 162, 163, 196, 88, 89, 91, 92, 197, 94, 95, 96, 97, 98, 198, 199, 200, 201, 202, 203, 204, 205, 131, 206, 140, 141, 142, 144, 265, 266, 267, 277, 278, 279, 280, 281, 282, 283, 268, 269, 270, 271, 272, 273, 274, 275, 276] (by decide +kernel) (by decide +kernel)) (goodIn_sub (fun _ h => List.mem_cons_of_mem _ (List.mem_append_left _ (List.mem_append_right _ h))) (by decide +kernel))
set_option maxRecDepth 20000 in
theorem gL_act_X3_pass : GoodIn wsL_act (wsV RL 81 RX3 yX3_pass wsX3_pass) := goodIn_app (goodIn_of _ (by decide +kernel)) ggL_act_X3_pass
set_option maxRecDepth 20000 in
theorem ggL_act_X4_worth : GoodIn wsL_act wsX4_worth := goodIn_r _ [71, 72, 73, 252, 253, 254, 255, 256, 257] (by decide +kernel) (by decide +kernel)
set_option maxRecDepth 20000 in
theorem gL_act_X4_worth : GoodIn wsL_act (wsV RL 83 RX4 yX4_worth wsX4_worth) := goodIn_app (goodIn_of _ (by decide +kernel)) ggL_act_X4_worth
set_option maxRecDepth 20000 in
theorem ggL_act_X5_init : GoodIn wsL_act wsX5_init := goodIn_r _ [209, 210, 211, 212] (by decide +kernel) (by decide +kernel)
set_option maxRecDepth 20000 in
theorem gL_act_X5_init_n86 : GoodIn wsL_act (wsX5_init) := ggL_act_X5_init
set_option maxRecDepth 20000 in
theorem ggL_act_X4_price : GoodIn wsL_act wsX4_price := goodIn_r _ [216, 73, 68, 69, 70, 62, 71, 72, 252, 253, 254, 255, 256, 257] (by decide +kernel) (by decide +kernel)
set_option maxRecDepth 20000 in
theorem gL_act_X4_price : GoodIn wsL_act (wsV RL 96 RX4 yX4_price wsX4_price) := goodIn_app (goodIn_of _ (by decide +kernel)) ggL_act_X4_price
set_option maxRecDepth 20000 in
theorem ggL_act_X3_buy : GoodIn wsL_act wsX3_buy := goodIn_ca (goodIn_ca (goodIn_r _ [220, 78, 79, 80, 32, 221, 222, 26, 223, 30, 31, 33, 34, 35, 224, 225, 226, 227, 228, 229, 230, 231, 232, 90, 233, 192, 234, 235, 236, 39, 237, 54, 111, 112, 113, 114, 115, 37, 38, 40, 41, 238, 239, 240, 241, 242, 243, 244, 245, 246, 196, 88, 89, 91, 92, 247, 248, 249, 96, 250, 205, 203, 202, 131, 98, 204, 251, 195, 160, 161, 162, 143, 163, 265, 266, 267, 277, 278, 279, 280, 281, 282, 283, 268, 269, 270, 271, 272, 273, 274, 275, 276] (by decide +kernel) (by decide +kernel)) (goodIn_sub (fun _ h => List.mem_cons_of_mem _ (List.mem_append_right _ h)) (by decide +kernel))) (goodIn_sub (fun _ h => List.mem_cons_of_mem _ (List.mem_append_left _ (List.mem_append_right _ h))) (by decide +kernel))
set_option maxRecDepth 20000 in
theorem gL_act_X3_buy : GoodIn wsL_act (wsV RL 102 RX3 yX3_buy wsX3_buy) := goodIn_app (goodIn_of _ (by decide +kernel)) ggL_act_X3_buy
theorem dL_act_0 : decode cL_act 0 = .ok (.aload_n 1, 1) := by decide +kernel
theorem dL_act_1 : decode cL_act 1 = .ok (.getfield 9, 3) := by decide +kernel
theorem dL_act_4 : decode cL_act 4 = .ok (.arraylength, 1) := by decide +kernel
theorem dL_act_5 : decode cL_act 5 = .ok (.istore_n 3, 1) := by decide +kernel
theorem dL_act_6 : decode cL_act 6 = .ok (.iload_n 3, 1) := by decide +kernel
theorem dL_act_7 : decode cL_act 7 = .ok (.ifCond .ne 7, 3) := by decide +kernel
theorem dL_act_10 : decode cL_act 10 = .ok (.iconst 0, 1) := by decide +kernel
theorem dL_act_11 : decode cL_act 11 = .ok (.goto 10, 3) := by decide +kernel
theorem dL_act_14 : decode cL_act 14 = .ok (.iload_n 2, 1) := by decide +kernel
theorem dL_act_15 : decode cL_act 15 = .ok (.iconst 1, 1) := by decide +kernel
theorem dL_act_16 : decode cL_act 16 = .ok (.ishr, 1) := by decide +kernel
theorem dL_act_17 : decode cL_act 17 = .ok (.iload_n 3, 1) := by decide +kernel
theorem dL_act_18 : decode cL_act 18 = .ok (.invokestatic 15, 3) := by decide +kernel
theorem dL_act_21 : decode cL_act 21 = .ok (.istore 4, 2) := by decide +kernel
theorem dL_act_23 : decode cL_act 23 = .ok (.iload_n 3, 1) := by decide +kernel
theorem dL_act_24 : decode cL_act 24 = .ok (.ifCond .ne 7, 3) := by decide +kernel
theorem dL_act_27 : decode cL_act 27 = .ok (.aconst_null, 1) := by decide +kernel
theorem dL_act_28 : decode cL_act 28 = .ok (.goto 10, 3) := by decide +kernel
theorem dL_act_31 : decode cL_act 31 = .ok (.aload_n 1, 1) := by decide +kernel
theorem dL_act_32 : decode cL_act 32 = .ok (.getfield 9, 3) := by decide +kernel
theorem dL_act_35 : decode cL_act 35 = .ok (.iload 4, 2) := by decide +kernel
theorem dL_act_37 : decode cL_act 37 = .ok (.aaload, 1) := by decide +kernel
theorem dL_act_38 : decode cL_act 38 = .ok (.astore 5, 2) := by decide +kernel
theorem dL_act_40 : decode cL_act 40 = .ok (.iload_n 2, 1) := by decide +kernel
theorem dL_act_41 : decode cL_act 41 = .ok (.bipush 9, 2) := by decide +kernel
theorem dL_act_43 : decode cL_act 43 = .ok (.ishr, 1) := by decide +kernel
theorem dL_act_44 : decode cL_act 44 = .ok (.bipush 16, 2) := by decide +kernel
theorem dL_act_46 : decode cL_act 46 = .ok (.invokestatic 15, 3) := by decide +kernel
theorem dL_act_49 : decode cL_act 49 = .ok (.tableswitch 484 0 9 #[55, 131, 199, 252, 252, 348, 348, 415, 415, 415], 55) := by decide +kernel
theorem dL_act_104 : decode cL_act 104 = .ok (.iload_n 2, 1) := by decide +kernel
theorem dL_act_105 : decode cL_act 105 = .ok (.iconst 1, 1) := by decide +kernel
theorem dL_act_106 : decode cL_act 106 = .ok (.ishr, 1) := by decide +kernel
theorem dL_act_107 : decode cL_act 107 = .ok (.bipush 50, 2) := by decide +kernel
theorem dL_act_109 : decode cL_act 109 = .ok (.invokestatic 15, 3) := by decide +kernel
theorem dL_act_112 : decode cL_act 112 = .ok (.istore 6, 2) := by decide +kernel
theorem dL_act_114 : decode cL_act 114 = .ok (.aload_n 1, 1) := by decide +kernel
theorem dL_act_115 : decode cL_act 115 = .ok (.getfield 21, 3) := by decide +kernel
theorem dL_act_118 : decode cL_act 118 = .ok (.iload 6, 2) := by decide +kernel
theorem dL_act_120 : decode cL_act 120 = .ok (.iaload, 1) := by decide +kernel
theorem dL_act_121 : decode cL_act 121 = .ok (.istore 7, 2) := by decide +kernel
theorem dL_act_123 : decode cL_act 123 = .ok (.aload_n 1, 1) := by decide +kernel
theorem dL_act_124 : decode cL_act 124 = .ok (.getfield 21, 3) := by decide +kernel
theorem dL_act_127 : decode cL_act 127 = .ok (.iload 6, 2) := by decide +kernel
theorem dL_act_129 : decode cL_act 129 = .ok (.iload_n 2, 1) := by decide +kernel
theorem dL_act_130 : decode cL_act 130 = .ok (.iconst 3, 1) := by decide +kernel
theorem dL_act_131 : decode cL_act 131 = .ok (.ishr, 1) := by decide +kernel
theorem dL_act_132 : decode cL_act 132 = .ok (.iload_n 2, 1) := by decide +kernel
theorem dL_act_133 : decode cL_act 133 = .ok (.iconst 4, 1) := by decide +kernel
theorem dL_act_134 : decode cL_act 134 = .ok (.invokestatic 15, 3) := by decide +kernel
theorem dL_act_137 : decode cL_act 137 = .ok (.ifCond .ne 9, 3) := by decide +kernel
theorem dL_act_140 : decode cL_act 140 = .ok (.sipush 1001, 3) := by decide +kernel
theorem dL_act_143 : decode cL_act 143 = .ok (.goto 6, 3) := by decide +kernel
theorem dL_act_146 : decode cL_act 146 = .ok (.sipush 300, 3) := by decide +kernel
theorem dL_act_149 : decode cL_act 149 = .ok (.invokestatic 15, 3) := by decide +kernel
theorem dL_act_152 : decode cL_act 152 = .ok (.iastore, 1) := by decide +kernel
theorem dL_act_153 : decode cL_act 153 = .ok (.aload_n 0, 1) := by decide +kernel
theorem dL_act_154 : decode cL_act 154 = .ok (.iload 6, 2) := by decide +kernel
theorem dL_act_156 : decode cL_act 156 = .ok (.bipush 50, 2) := by decide +kernel
theorem dL_act_158 : decode cL_act 158 = .ok (.iadd, 1) := by decide +kernel
theorem dL_act_159 : decode cL_act 159 = .ok (.aload_n 1, 1) := by decide +kernel
theorem dL_act_160 : decode cL_act 160 = .ok (.getfield 21, 3) := by decide +kernel
theorem dL_act_163 : decode cL_act 163 = .ok (.iload 6, 2) := by decide +kernel
theorem dL_act_165 : decode cL_act 165 = .ok (.iaload, 1) := by decide +kernel
theorem dL_act_166 : decode cL_act 166 = .ok (.invokevirtual 25, 3) := by decide +kernel
theorem dL_act_169 : decode cL_act 169 = .ok (.iload 7, 2) := by decide +kernel
theorem dL_act_171 : decode cL_act 171 = .ok (.if_icmp .ne 7, 3) := by decide +kernel
theorem dL_act_174 : decode cL_act 174 = .ok (.iconst 1, 1) := by decide +kernel
theorem dL_act_175 : decode cL_act 175 = .ok (.goto 4, 3) := by decide +kernel
theorem dL_act_178 : decode cL_act 178 = .ok (.iconst 0, 1) := by decide +kernel
theorem dL_act_179 : decode cL_act 179 = .ok (.ireturn, 1) := by decide +kernel
theorem dL_act_180 : decode cL_act 180 = .ok (.iload_n 2, 1) := by decide +kernel
theorem dL_act_181 : decode cL_act 181 = .ok (.iconst 1, 1) := by decide +kernel
theorem dL_act_182 : decode cL_act 182 = .ok (.ishr, 1) := by decide +kernel
theorem dL_act_183 : decode cL_act 183 = .ok (.iconst 3, 1) := by decide +kernel
theorem dL_act_184 : decode cL_act 184 = .ok (.invokestatic 15, 3) := by decide +kernel
theorem dL_act_187 : decode cL_act 187 = .ok (.istore 8, 2) := by decide +kernel
theorem dL_act_189 : decode cL_act 189 = .ok (.aload_n 1, 1) := by decide +kernel
theorem dL_act_190 : decode cL_act 190 = .ok (.getfield 30, 3) := by decide +kernel
theorem dL_act_193 : decode cL_act 193 = .ok (.iload 8, 2) := by decide +kernel
theorem dL_act_195 : decode cL_act 195 = .ok (.iaload, 1) := by decide +kernel
theorem dL_act_196 : decode cL_act 196 = .ok (.istore 9, 2) := by decide +kernel
theorem dL_act_198 : decode cL_act 198 = .ok (.aload_n 1, 1) := by decide +kernel
theorem dL_act_199 : decode cL_act 199 = .ok (.getfield 30, 3) := by decide +kernel
theorem dL_act_202 : decode cL_act 202 = .ok (.iload 8, 2) := by decide +kernel
end
section
theorem dL_act_204 : decode cL_act 204 = .ok (.iload_n 2, 1) := by decide +kernel
theorem dL_act_205 : decode cL_act 205 = .ok (.iconst 3, 1) := by decide +kernel
theorem dL_act_206 : decode cL_act 206 = .ok (.ishr, 1) := by decide +kernel
theorem dL_act_207 : decode cL_act 207 = .ok (.iload 8, 2) := by decide +kernel
theorem dL_act_209 : decode cL_act 209 = .ok (.ifCond .ne 9, 3) := by decide +kernel
theorem dL_act_212 : decode cL_act 212 = .ok (.sipush 201, 3) := by decide +kernel
theorem dL_act_215 : decode cL_act 215 = .ok (.goto 5, 3) := by decide +kernel
theorem dL_act_218 : decode cL_act 218 = .ok (.bipush 51, 2) := by decide +kernel
theorem dL_act_220 : decode cL_act 220 = .ok (.invokestatic 15, 3) := by decide +kernel
theorem dL_act_223 : decode cL_act 223 = .ok (.iastore, 1) := by decide +kernel
theorem dL_act_224 : decode cL_act 224 = .ok (.aload_n 0, 1) := by decide +kernel
theorem dL_act_225 : decode cL_act 225 = .ok (.iload 8, 2) := by decide +kernel
theorem dL_act_227 : decode cL_act 227 = .ok (.aload_n 1, 1) := by decide +kernel
theorem dL_act_228 : decode cL_act 228 = .ok (.getfield 30, 3) := by decide +kernel
theorem dL_act_231 : decode cL_act 231 = .ok (.iload 8, 2) := by decide +kernel
theorem dL_act_233 : decode cL_act 233 = .ok (.iaload, 1) := by decide +kernel
theorem dL_act_234 : decode cL_act 234 = .ok (.invokevirtual 33, 3) := by decide +kernel
theorem dL_act_237 : decode cL_act 237 = .ok (.iload 9, 2) := by decide +kernel
theorem dL_act_239 : decode cL_act 239 = .ok (.if_icmp .ne 7, 3) := by decide +kernel
theorem dL_act_242 : decode cL_act 242 = .ok (.iconst 1, 1) := by decide +kernel
theorem dL_act_243 : decode cL_act 243 = .ok (.goto 4, 3) := by decide +kernel
theorem dL_act_246 : decode cL_act 246 = .ok (.iconst 0, 1) := by decide +kernel
theorem dL_act_247 : decode cL_act 247 = .ok (.ireturn, 1) := by decide +kernel
theorem dL_act_248 : decode cL_act 248 = .ok (.iload_n 3, 1) := by decide +kernel
theorem dL_act_249 : decode cL_act 249 = .ok (.ifCond .eq 19, 3) := by decide +kernel
theorem dL_act_252 : decode cL_act 252 = .ok (.aload 5, 2) := by decide +kernel
theorem dL_act_254 : decode cL_act 254 = .ok (.getfield 36, 3) := by decide +kernel
theorem dL_act_257 : decode cL_act 257 = .ok (.ifCond .ne 11, 3) := by decide +kernel
theorem dL_act_260 : decode cL_act 260 = .ok (.iload_n 2, 1) := by decide +kernel
theorem dL_act_261 : decode cL_act 261 = .ok (.iconst 2, 1) := by decide +kernel
theorem dL_act_262 : decode cL_act 262 = .ok (.invokestatic 15, 3) := by decide +kernel
theorem dL_act_265 : decode cL_act 265 = .ok (.ifCond .ne 5, 3) := by decide +kernel
theorem dL_act_268 : decode cL_act 268 = .ok (.iconst 1, 1) := by decide +kernel
theorem dL_act_269 : decode cL_act 269 = .ok (.ireturn, 1) := by decide +kernel
theorem dL_act_270 : decode cL_act 270 = .ok (.aload_n 1, 1) := by decide +kernel
theorem dL_act_271 : decode cL_act 271 = .ok (.aload 5, 2) := by decide +kernel
theorem dL_act_273 : decode cL_act 273 = .ok (.invokevirtual 42, 3) := by decide +kernel
theorem dL_act_276 : decode cL_act 276 = .ok (.istore 10, 2) := by decide +kernel
theorem dL_act_278 : decode cL_act 278 = .ok (.aload 5, 2) := by decide +kernel
theorem dL_act_280 : decode cL_act 280 = .ok (.iconst 1, 1) := by decide +kernel
theorem dL_act_281 : decode cL_act 281 = .ok (.putfield 36, 3) := by decide +kernel
theorem dL_act_284 : decode cL_act 284 = .ok (.aload_n 0, 1) := by decide +kernel
theorem dL_act_285 : decode cL_act 285 = .ok (.iload 4, 2) := by decide +kernel
theorem dL_act_287 : decode cL_act 287 = .ok (.invokevirtual 46, 3) := by decide +kernel
theorem dL_act_290 : decode cL_act 290 = .ok (.iload 10, 2) := by decide +kernel
theorem dL_act_292 : decode cL_act 292 = .ok (.if_icmp .ne 7, 3) := by decide +kernel
theorem dL_act_295 : decode cL_act 295 = .ok (.iconst 1, 1) := by decide +kernel
theorem dL_act_296 : decode cL_act 296 = .ok (.goto 4, 3) := by decide +kernel
theorem dL_act_299 : decode cL_act 299 = .ok (.iconst 0, 1) := by decide +kernel
theorem dL_act_300 : decode cL_act 300 = .ok (.ireturn, 1) := by decide +kernel
theorem dL_act_301 : decode cL_act 301 = .ok (.iload_n 3, 1) := by decide +kernel
theorem dL_act_302 : decode cL_act 302 = .ok (.ifCond .eq 28, 3) := by decide +kernel
theorem dL_act_305 : decode cL_act 305 = .ok (.aload 5, 2) := by decide +kernel
theorem dL_act_307 : decode cL_act 307 = .ok (.getfield 36, 3) := by decide +kernel
theorem dL_act_310 : decode cL_act 310 = .ok (.ifCond .ne 20, 3) := by decide +kernel
theorem dL_act_313 : decode cL_act 313 = .ok (.aload 5, 2) := by decide +kernel
theorem dL_act_315 : decode cL_act 315 = .ok (.getfield 50, 3) := by decide +kernel
theorem dL_act_318 : decode cL_act 318 = .ok (.iconst 2, 1) := by decide +kernel
theorem dL_act_319 : decode cL_act 319 = .ok (.if_icmp .lt 11, 3) := by decide +kernel
theorem dL_act_322 : decode cL_act 322 = .ok (.iload_n 2, 1) := by decide +kernel
theorem dL_act_323 : decode cL_act 323 = .ok (.iconst 3, 1) := by decide +kernel
theorem dL_act_324 : decode cL_act 324 = .ok (.invokestatic 15, 3) := by decide +kernel
theorem dL_act_327 : decode cL_act 327 = .ok (.ifCond .le 5, 3) := by decide +kernel
theorem dL_act_330 : decode cL_act 330 = .ok (.iconst 1, 1) := by decide +kernel
theorem dL_act_331 : decode cL_act 331 = .ok (.ireturn, 1) := by decide +kernel
theorem dL_act_332 : decode cL_act 332 = .ok (.aload_n 1, 1) := by decide +kernel
theorem dL_act_333 : decode cL_act 333 = .ok (.aload 5, 2) := by decide +kernel
theorem dL_act_335 : decode cL_act 335 = .ok (.invokevirtual 53, 3) := by decide +kernel
theorem dL_act_338 : decode cL_act 338 = .ok (.istore 11, 2) := by decide +kernel
theorem dL_act_340 : decode cL_act 340 = .ok (.aload_n 1, 1) := by decide +kernel
theorem dL_act_341 : decode cL_act 341 = .ok (.dup, 1) := by decide +kernel
theorem dL_act_342 : decode cL_act 342 = .ok (.getfield 56, 3) := by decide +kernel
theorem dL_act_345 : decode cL_act 345 = .ok (.iload 11, 2) := by decide +kernel
theorem dL_act_347 : decode cL_act 347 = .ok (.isub, 1) := by decide +kernel
theorem dL_act_348 : decode cL_act 348 = .ok (.putfield 56, 3) := by decide +kernel
theorem dL_act_351 : decode cL_act 351 = .ok (.aload_n 1, 1) := by decide +kernel
theorem dL_act_352 : decode cL_act 352 = .ok (.dup, 1) := by decide +kernel
theorem dL_act_353 : decode cL_act 353 = .ok (.getfield 59, 3) := by decide +kernel
theorem dL_act_356 : decode cL_act 356 = .ok (.iload 11, 2) := by decide +kernel
theorem dL_act_358 : decode cL_act 358 = .ok (.iadd, 1) := by decide +kernel
theorem dL_act_359 : decode cL_act 359 = .ok (.putfield 59, 3) := by decide +kernel
theorem dL_act_362 : decode cL_act 362 = .ok (.aload 5, 2) := by decide +kernel
theorem dL_act_364 : decode cL_act 364 = .ok (.dup, 1) := by decide +kernel
theorem dL_act_365 : decode cL_act 365 = .ok (.getfield 62, 3) := by decide +kernel
theorem dL_act_368 : decode cL_act 368 = .ok (.iload 11, 2) := by decide +kernel
theorem dL_act_370 : decode cL_act 370 = .ok (.iadd, 1) := by decide +kernel
theorem dL_act_371 : decode cL_act 371 = .ok (.putfield 62, 3) := by decide +kernel
theorem dL_act_374 : decode cL_act 374 = .ok (.aload 5, 2) := by decide +kernel
theorem dL_act_376 : decode cL_act 376 = .ok (.iconst 2, 1) := by decide +kernel
theorem dL_act_377 : decode cL_act 377 = .ok (.putfield 36, 3) := by decide +kernel
theorem dL_act_380 : decode cL_act 380 = .ok (.aload_n 0, 1) := by decide +kernel
theorem dL_act_381 : decode cL_act 381 = .ok (.iload 4, 2) := by decide +kernel
theorem dL_act_383 : decode cL_act 383 = .ok (.invokevirtual 65, 3) := by decide +kernel
theorem dL_act_386 : decode cL_act 386 = .ok (.iload 11, 2) := by decide +kernel
theorem dL_act_388 : decode cL_act 388 = .ok (.if_icmp .ne 7, 3) := by decide +kernel
theorem dL_act_391 : decode cL_act 391 = .ok (.iconst 1, 1) := by decide +kernel
theorem dL_act_392 : decode cL_act 392 = .ok (.goto 4, 3) := by decide +kernel
theorem dL_act_395 : decode cL_act 395 = .ok (.iconst 0, 1) := by decide +kernel
theorem dL_act_396 : decode cL_act 396 = .ok (.ireturn, 1) := by decide +kernel
theorem dL_act_397 : decode cL_act 397 = .ok (.iload_n 2, 1) := by decide +kernel
theorem dL_act_398 : decode cL_act 398 = .ok (.iconst 2, 1) := by decide +kernel
theorem dL_act_399 : decode cL_act 399 = .ok (.ishr, 1) := by decide +kernel
theorem dL_act_400 : decode cL_act 400 = .ok (.iload_n 2, 1) := by decide +kernel
theorem dL_act_401 : decode cL_act 401 = .ok (.iconst 4, 1) := by decide +kernel
theorem dL_act_402 : decode cL_act 402 = .ok (.invokestatic 15, 3) := by decide +kernel
theorem dL_act_405 : decode cL_act 405 = .ok (.ifCond .ne 8, 3) := by decide +kernel
theorem dL_act_408 : decode cL_act 408 = .ok (.ldc 68, 2) := by decide +kernel
theorem dL_act_410 : decode cL_act 410 = .ok (.goto 6, 3) := by decide +kernel
theorem dL_act_413 : decode cL_act 413 = .ok (.sipush 9001, 3) := by decide +kernel
theorem dL_act_416 : decode cL_act 416 = .ok (.invokestatic 15, 3) := by decide +kernel
theorem dL_act_419 : decode cL_act 419 = .ok (.iload_n 2, 1) := by decide +kernel
theorem dL_act_420 : decode cL_act 420 = .ok (.iconst 4, 1) := by decide +kernel
theorem dL_act_421 : decode cL_act 421 = .ok (.invokestatic 15, 3) := by decide +kernel
theorem dL_act_424 : decode cL_act 424 = .ok (.ifCond .ne 8, 3) := by decide +kernel
theorem dL_act_427 : decode cL_act 427 = .ok (.ldc 69, 2) := by decide +kernel
theorem dL_act_429 : decode cL_act 429 = .ok (.goto 6, 3) := by decide +kernel
theorem dL_act_432 : decode cL_act 432 = .ok (.sipush 3000, 3) := by decide +kernel
theorem dL_act_435 : decode cL_act 435 = .ok (.isub, 1) := by decide +kernel
theorem dL_act_436 : decode cL_act 436 = .ok (.istore 12, 2) := by decide +kernel
theorem dL_act_438 : decode cL_act 438 = .ok (.aload_n 1, 1) := by decide +kernel
theorem dL_act_439 : decode cL_act 439 = .ok (.iload 12, 2) := by decide +kernel
theorem dL_act_441 : decode cL_act 441 = .ok (.i2l, 1) := by decide +kernel
theorem dL_act_442 : decode cL_act 442 = .ok (.invokevirtual 70, 3) := by decide +kernel
theorem dL_act_445 : decode cL_act 445 = .ok (.aload_n 0, 1) := by decide +kernel
theorem dL_act_446 : decode cL_act 446 = .ok (.iload 12, 2) := by decide +kernel
theorem dL_act_448 : decode cL_act 448 = .ok (.invokevirtual 74, 3) := by decide +kernel
theorem dL_act_451 : decode cL_act 451 = .ok (.aload_n 1, 1) := by decide +kernel
theorem dL_act_452 : decode cL_act 452 = .ok (.getfield 56, 3) := by decide +kernel
theorem dL_act_455 : decode cL_act 455 = .ok (.if_icmp .ne 7, 3) := by decide +kernel
theorem dL_act_458 : decode cL_act 458 = .ok (.iconst 1, 1) := by decide +kernel
theorem dL_act_459 : decode cL_act 459 = .ok (.goto 4, 3) := by decide +kernel
theorem dL_act_462 : decode cL_act 462 = .ok (.iconst 0, 1) := by decide +kernel
theorem dL_act_463 : decode cL_act 463 = .ok (.ireturn, 1) := by decide +kernel
theorem dL_act_464 : decode cL_act 464 = .ok (.iconst 1, 1) := by decide +kernel
theorem dL_act_465 : decode cL_act 465 = .ok (.iload_n 2, 1) := by decide +kernel
theorem dL_act_466 : decode cL_act 466 = .ok (.iconst 2, 1) := by decide +kernel
theorem dL_act_467 : decode cL_act 467 = .ok (.ishr, 1) := by decide +kernel
theorem dL_act_468 : decode cL_act 468 = .ok (.iload_n 2, 1) := by decide +kernel
theorem dL_act_469 : decode cL_act 469 = .ok (.iconst 5, 1) := by decide +kernel
theorem dL_act_470 : decode cL_act 470 = .ok (.invokestatic 15, 3) := by decide +kernel
theorem dL_act_473 : decode cL_act 473 = .ok (.ifCond .ne 8, 3) := by decide +kernel
theorem dL_act_476 : decode cL_act 476 = .ok (.bipush 12, 2) := by decide +kernel
theorem dL_act_478 : decode cL_act 478 = .ok (.goto 4, 3) := by decide +kernel
theorem dL_act_481 : decode cL_act 481 = .ok (.iconst 3, 1) := by decide +kernel
theorem dL_act_482 : decode cL_act 482 = .ok (.invokestatic 15, 3) := by decide +kernel
theorem dL_act_485 : decode cL_act 485 = .ok (.iadd, 1) := by decide +kernel
theorem dL_act_486 : decode cL_act 486 = .ok (.istore 13, 2) := by decide +kernel
theorem dL_act_488 : decode cL_act 488 = .ok (.iconst 0, 1) := by decide +kernel
theorem dL_act_489 : decode cL_act 489 = .ok (.istore 14, 2) := by decide +kernel
theorem dL_act_491 : decode cL_act 491 = .ok (.iconst 0, 1) := by decide +kernel
theorem dL_act_492 : decode cL_act 492 = .ok (.istore 15, 2) := by decide +kernel
theorem dL_act_494 : decode cL_act 494 = .ok (.iload 15, 2) := by decide +kernel
theorem dL_act_496 : decode cL_act 496 = .ok (.iload 13, 2) := by decide +kernel
theorem dL_act_498 : decode cL_act 498 = .ok (.if_icmp .ge 18, 3) := by decide +kernel
theorem dL_act_501 : decode cL_act 501 = .ok (.iload 14, 2) := by decide +kernel
theorem dL_act_503 : decode cL_act 503 = .ok (.aload_n 1, 1) := by decide +kernel
theorem dL_act_504 : decode cL_act 504 = .ok (.invokevirtual 77, 3) := by decide +kernel
theorem dL_act_507 : decode cL_act 507 = .ok (.iadd, 1) := by decide +kernel
theorem dL_act_508 : decode cL_act 508 = .ok (.istore 14, 2) := by decide +kernel
theorem dL_act_510 : decode cL_act 510 = .ok (.iinc 15 1, 3) := by decide +kernel
theorem dL_act_513 : decode cL_act 513 = .ok (.goto (-19), 3) := by decide +kernel
theorem dL_act_516 : decode cL_act 516 = .ok (.aload_n 0, 1) := by decide +kernel
theorem dL_act_517 : decode cL_act 517 = .ok (.iload 13, 2) := by decide +kernel
theorem dL_act_519 : decode cL_act 519 = .ok (.invokevirtual 81, 3) := by decide +kernel
theorem dL_act_522 : decode cL_act 522 = .ok (.iload 14, 2) := by decide +kernel
theorem dL_act_524 : decode cL_act 524 = .ok (.if_icmp .ne 7, 3) := by decide +kernel
theorem dL_act_527 : decode cL_act 527 = .ok (.iconst 1, 1) := by decide +kernel
theorem dL_act_528 : decode cL_act 528 = .ok (.goto 4, 3) := by decide +kernel
theorem dL_act_531 : decode cL_act 531 = .ok (.iconst 0, 1) := by decide +kernel
theorem dL_act_532 : decode cL_act 532 = .ok (.ireturn, 1) := by decide +kernel
theorem dL_act_533 : decode cL_act 533 = .ok (.bipush 50, 2) := by decide +kernel
theorem dL_act_535 : decode cL_act 535 = .ok (.iload_n 2, 1) := by decide +kernel
theorem dL_act_536 : decode cL_act 536 = .ok (.iconst 1, 1) := by decide +kernel
theorem dL_act_537 : decode cL_act 537 = .ok (.ishr, 1) := by decide +kernel
theorem dL_act_538 : decode cL_act 538 = .ok (.bipush 50, 2) := by decide +kernel
theorem dL_act_540 : decode cL_act 540 = .ok (.invokestatic 15, 3) := by decide +kernel
theorem dL_act_543 : decode cL_act 543 = .ok (.iadd, 1) := by decide +kernel
theorem dL_act_544 : decode cL_act 544 = .ok (.istore 15, 2) := by decide +kernel
theorem dL_act_546 : decode cL_act 546 = .ok (.iload_n 2, 1) := by decide +kernel
theorem dL_act_547 : decode cL_act 547 = .ok (.iconst 2, 1) := by decide +kernel
theorem dL_act_548 : decode cL_act 548 = .ok (.ishr, 1) := by decide +kernel
theorem dL_act_549 : decode cL_act 549 = .ok (.iconst 2, 1) := by decide +kernel
theorem dL_act_550 : decode cL_act 550 = .ok (.invokestatic 15, 3) := by decide +kernel
theorem dL_act_553 : decode cL_act 553 = .ok (.ifCond .ne 7, 3) := by decide +kernel
theorem dL_act_556 : decode cL_act 556 = .ok (.iconst 0, 1) := by decide +kernel
theorem dL_act_557 : decode cL_act 557 = .ok (.goto 11, 3) := by decide +kernel
theorem dL_act_560 : decode cL_act 560 = .ok (.iload_n 2, 1) := by decide +kernel
theorem dL_act_561 : decode cL_act 561 = .ok (.iconst 4, 1) := by decide +kernel
theorem dL_act_562 : decode cL_act 562 = .ok (.ishr, 1) := by decide +kernel
theorem dL_act_563 : decode cL_act 563 = .ok (.bipush 31, 2) := by decide +kernel
theorem dL_act_565 : decode cL_act 565 = .ok (.invokestatic 15, 3) := by decide +kernel
theorem dL_act_568 : decode cL_act 568 = .ok (.istore 16, 2) := by decide +kernel
theorem dL_act_570 : decode cL_act 570 = .ok (.iload_n 3, 1) := by decide +kernel
theorem dL_act_571 : decode cL_act 571 = .ok (.bipush 10, 2) := by decide +kernel
theorem dL_act_573 : decode cL_act 573 = .ok (.if_icmp .eq 14, 3) := by decide +kernel
theorem dL_act_576 : decode cL_act 576 = .ok (.aload_n 1, 1) := by decide +kernel
theorem dL_act_577 : decode cL_act 577 = .ok (.iload 15, 2) := by decide +kernel
theorem dL_act_579 : decode cL_act 579 = .ok (.iload 16, 2) := by decide +kernel
theorem dL_act_581 : decode cL_act 581 = .ok (.invokevirtual 83, 3) := by decide +kernel
theorem dL_act_584 : decode cL_act 584 = .ok (.ifCond .ne 5, 3) := by decide +kernel
theorem dL_act_587 : decode cL_act 587 = .ok (.iconst 1, 1) := by decide +kernel
theorem dL_act_588 : decode cL_act 588 = .ok (.ireturn, 1) := by decide +kernel
theorem dL_act_589 : decode cL_act 589 = .ok (.iload_n 3, 1) := by decide +kernel
theorem dL_act_590 : decode cL_act 590 = .ok (.iconst 1, 1) := by decide +kernel
theorem dL_act_591 : decode cL_act 591 = .ok (.iadd, 1) := by decide +kernel
theorem dL_act_592 : decode cL_act 592 = .ok (.anewarray 37, 3) := by decide +kernel
theorem dL_act_595 : decode cL_act 595 = .ok (.astore 17, 2) := by decide +kernel
theorem dL_act_597 : decode cL_act 597 = .ok (.iconst 0, 1) := by decide +kernel
theorem dL_act_598 : decode cL_act 598 = .ok (.istore 18, 2) := by decide +kernel
theorem dL_act_600 : decode cL_act 600 = .ok (.iload 18, 2) := by decide +kernel
theorem dL_act_602 : decode cL_act 602 = .ok (.iload_n 3, 1) := by decide +kernel
theorem dL_act_603 : decode cL_act 603 = .ok (.if_icmp .ge 21, 3) := by decide +kernel
theorem dL_act_606 : decode cL_act 606 = .ok (.aload 17, 2) := by decide +kernel
theorem dL_act_608 : decode cL_act 608 = .ok (.iload 18, 2) := by decide +kernel
theorem dL_act_610 : decode cL_act 610 = .ok (.aload_n 1, 1) := by decide +kernel
theorem dL_act_611 : decode cL_act 611 = .ok (.getfield 9, 3) := by decide +kernel
theorem dL_act_614 : decode cL_act 614 = .ok (.iload 18, 2) := by decide +kernel
theorem dL_act_616 : decode cL_act 616 = .ok (.aaload, 1) := by decide +kernel
theorem dL_act_617 : decode cL_act 617 = .ok (.aastore, 1) := by decide +kernel
theorem dL_act_618 : decode cL_act 618 = .ok (.iinc 18 1, 3) := by decide +kernel
theorem dL_act_621 : decode cL_act 621 = .ok (.goto (-21), 3) := by decide +kernel
theorem dL_act_624 : decode cL_act 624 = .ok (.aload 17, 2) := by decide +kernel
theorem dL_act_626 : decode cL_act 626 = .ok (.iload_n 3, 1) := by decide +kernel
theorem dL_act_627 : decode cL_act 627 = .ok (.new 37, 3) := by decide +kernel
theorem dL_act_630 : decode cL_act 630 = .ok (.dup, 1) := by decide +kernel
theorem dL_act_631 : decode cL_act 631 = .ok (.invokespecial 86, 3) := by decide +kernel
theorem dL_act_634 : decode cL_act 634 = .ok (.aastore, 1) := by decide +kernel
theorem dL_act_635 : decode cL_act 635 = .ok (.aload 17, 2) := by decide +kernel
theorem dL_act_637 : decode cL_act 637 = .ok (.iload_n 3, 1) := by decide +kernel
theorem dL_act_638 : decode cL_act 638 = .ok (.aaload, 1) := by decide +kernel
theorem dL_act_639 : decode cL_act 639 = .ok (.iload 15, 2) := by decide +kernel
theorem dL_act_641 : decode cL_act 641 = .ok (.putfield 87, 3) := by decide +kernel
theorem dL_act_644 : decode cL_act 644 = .ok (.aload 17, 2) := by decide +kernel
theorem dL_act_646 : decode cL_act 646 = .ok (.iload_n 3, 1) := by decide +kernel
theorem dL_act_647 : decode cL_act 647 = .ok (.aaload, 1) := by decide +kernel
theorem dL_act_648 : decode cL_act 648 = .ok (.iconst 1, 1) := by decide +kernel
theorem dL_act_649 : decode cL_act 649 = .ok (.iload_n 2, 1) := by decide +kernel
theorem dL_act_650 : decode cL_act 650 = .ok (.iconst 3, 1) := by decide +kernel
theorem dL_act_651 : decode cL_act 651 = .ok (.ishr, 1) := by decide +kernel
theorem dL_act_652 : decode cL_act 652 = .ok (.iload_n 2, 1) := by decide +kernel
theorem dL_act_653 : decode cL_act 653 = .ok (.iconst 2, 1) := by decide +kernel
theorem dL_act_654 : decode cL_act 654 = .ok (.invokestatic 15, 3) := by decide +kernel
theorem dL_act_657 : decode cL_act 657 = .ok (.ifCond .ne 9, 3) := by decide +kernel
theorem dL_act_660 : decode cL_act 660 = .ok (.sipush 999, 3) := by decide +kernel
theorem dL_act_663 : decode cL_act 663 = .ok (.goto 5, 3) := by decide +kernel
theorem dL_act_666 : decode cL_act 666 = .ok (.bipush 60, 2) := by decide +kernel
theorem dL_act_668 : decode cL_act 668 = .ok (.invokestatic 15, 3) := by decide +kernel
theorem dL_act_671 : decode cL_act 671 = .ok (.iadd, 1) := by decide +kernel
theorem dL_act_672 : decode cL_act 672 = .ok (.putfield 90, 3) := by decide +kernel
theorem dL_act_675 : decode cL_act 675 = .ok (.aload 17, 2) := by decide +kernel
theorem dL_act_677 : decode cL_act 677 = .ok (.iload_n 3, 1) := by decide +kernel
theorem dL_act_678 : decode cL_act 678 = .ok (.aaload, 1) := by decide +kernel
theorem dL_act_679 : decode cL_act 679 = .ok (.iload 16, 2) := by decide +kernel
theorem dL_act_681 : decode cL_act 681 = .ok (.putfield 93, 3) := by decide +kernel
theorem dL_act_684 : decode cL_act 684 = .ok (.aload 17, 2) := by decide +kernel
theorem dL_act_686 : decode cL_act 686 = .ok (.iload_n 3, 1) := by decide +kernel
theorem dL_act_687 : decode cL_act 687 = .ok (.aaload, 1) := by decide +kernel
theorem dL_act_688 : decode cL_act 688 = .ok (.aload_n 1, 1) := by decide +kernel
theorem dL_act_689 : decode cL_act 689 = .ok (.iload 15, 2) := by decide +kernel
theorem dL_act_691 : decode cL_act 691 = .ok (.aload 17, 2) := by decide +kernel
theorem dL_act_693 : decode cL_act 693 = .ok (.iload_n 3, 1) := by decide +kernel
theorem dL_act_694 : decode cL_act 694 = .ok (.aaload, 1) := by decide +kernel
theorem dL_act_695 : decode cL_act 695 = .ok (.getfield 90, 3) := by decide +kernel
theorem dL_act_698 : decode cL_act 698 = .ok (.iload 16, 2) := by decide +kernel
theorem dL_act_700 : decode cL_act 700 = .ok (.invokevirtual 96, 3) := by decide +kernel
theorem dL_act_703 : decode cL_act 703 = .ok (.putfield 100, 3) := by decide +kernel
theorem dL_act_706 : decode cL_act 706 = .ok (.aload_n 1, 1) := by decide +kernel
theorem dL_act_707 : decode cL_act 707 = .ok (.aload 17, 2) := by decide +kernel
theorem dL_act_709 : decode cL_act 709 = .ok (.putfield 9, 3) := by decide +kernel
theorem dL_act_712 : decode cL_act 712 = .ok (.aload_n 1, 1) := by decide +kernel
theorem dL_act_713 : decode cL_act 713 = .ok (.aload 17, 2) := by decide +kernel
theorem dL_act_715 : decode cL_act 715 = .ok (.iload_n 3, 1) := by decide +kernel
theorem dL_act_716 : decode cL_act 716 = .ok (.aaload, 1) := by decide +kernel
theorem dL_act_717 : decode cL_act 717 = .ok (.getfield 100, 3) := by decide +kernel
theorem dL_act_720 : decode cL_act 720 = .ok (.i2l, 1) := by decide +kernel
theorem dL_act_721 : decode cL_act 721 = .ok (.invokevirtual 70, 3) := by decide +kernel
theorem dL_act_724 : decode cL_act 724 = .ok (.aload_n 0, 1) := by decide +kernel
theorem dL_act_725 : decode cL_act 725 = .ok (.iload 15, 2) := by decide +kernel
theorem dL_act_727 : decode cL_act 727 = .ok (.aload 17, 2) := by decide +kernel
theorem dL_act_729 : decode cL_act 729 = .ok (.iload_n 3, 1) := by decide +kernel
theorem dL_act_730 : decode cL_act 730 = .ok (.aaload, 1) := by decide +kernel
theorem dL_act_731 : decode cL_act 731 = .ok (.getfield 90, 3) := by decide +kernel
theorem dL_act_734 : decode cL_act 734 = .ok (.iload 16, 2) := by decide +kernel
theorem dL_act_736 : decode cL_act 736 = .ok (.invokevirtual 102, 3) := by decide +kernel
theorem dL_act_739 : decode cL_act 739 = .ok (.iload_n 3, 1) := by decide +kernel
theorem dL_act_740 : decode cL_act 740 = .ok (.if_icmp .ne 7, 3) := by decide +kernel
theorem dL_act_743 : decode cL_act 743 = .ok (.iconst 1, 1) := by decide +kernel
theorem dL_act_744 : decode cL_act 744 = .ok (.goto 4, 3) := by decide +kernel
theorem dL_act_747 : decode cL_act 747 = .ok (.iconst 0, 1) := by decide +kernel
theorem dL_act_748 : decode cL_act 748 = .ok (.ireturn, 1) := by decide +kernel
set_option maxRecDepth 20000 in
theorem ggL_build_X4_init : GoodIn wsL_build wsX4_init := goodIn_r _ [6, 7, 8, 9, 10, 11, 12, 13, 14, 267, 268, 269, 270, 271, 272] (by decide +kernel) (by decide +kernel)
set_option maxRecDepth 20000 in
theorem gL_build_X4_init : GoodIn wsL_build (wsX4_init) := ggL_build_X4_init
set_option maxRecDepth 20000 in
theorem ggL_build_L_cell : GoodIn wsL_build wsL_cell := goodIn_r _ [18, 19] (by decide +kernel) (by decide +kernel)
set_option maxRecDepth 20000 in
theorem gL_build_L_cell : GoodIn wsL_build (va_wsS RL 106 yL_cell wsL_cell) := goodIn_app (goodIn_of _ (by decide +kernel)) ggL_build_L_cell
set_option maxRecDepth 20000 in
theorem ggL_build_L_below : GoodIn wsL_build wsL_below := goodIn_r _ [22, 23] (by decide +kernel) (by decide +kernel)
set_option maxRecDepth 20000 in
theorem gL_build_L_below : GoodIn wsL_build (va_wsS RL 15 yL_below wsL_below) := goodIn_app (goodIn_of _ (by decide +kernel)) ggL_build_L_below
set_option maxRecDepth 20000 in
theorem ggL_build_L_act : GoodIn wsL_build wsL_act := goodIn_ca (goodIn_ca (goodIn_ca (goodIn_r _ [26, 27, 28, 29, 30, 31, 32, 33, 34, 35, 36, 37, 38, 39, 40, 41, 42, 43, 20, 21, 17, 22, 23, 44, 45, 46, 47, 48, 49, 50, 51, 52, 53, 54, 55, 56, 57, 58, 59, 60, 61, 62, 63, 64, 65, 66, 67, 68, 69, 70, 71, 72, 73, 74, 75, 76, 77, 78, 79, 80, 81, 82, 3, 83, 84, 85, 86, 87, 88, 89, 90, 91, 12, 11, 92, 93, 94, 95, 96, 97, 98, 99, 100, 101, 102, 103, 104, 105, 106, 107, 108, 109, 110, 111, 112, 113, 114, 115, 116, 117, 118, 119, 120, 121, 122, 123, 124, 125, 126, 127, 128, 129, 130, 131, 132, 133, 134, 135, 136, 137, 138, 139, 140, 141, 142, 143, 144, 145, 146, 147, 148, 149, 150, 151, 152, 153, 154, 155, 156, 157, 158, 159, 160, 161, 162, 163, 164, 165, 166, 167, 168, 169, 170, 171, 172, 173, 174, 175, 176, 177, 178, 179, 180, 181, 182, 183, 184, 185, 186, 14, 187, 188, 189, 190, 191, 192, 193, 194, 195, 196, 197, 198, 199, 200, 201, 202, 203, 204, 205, 206, 207, 208, 209, 210, 211, 212, 213, 214, 215, 216, 217, 218, 219, 220, 221, 222, 223, 224, 225, 226, 227, 8, 9, 228, 229, 230, 231, 232, 233, 234, 235, 236, 237, 238, 239, 240, 241, 242, 243, 244, 245, 246, 247, 248, 249, 250, 251, 252, 253, 254, 255, 256, 257, 258, 259, 260, 261, 262, 263, 264, 265, 266, 267, 268, 269, 270, 271, 272, 273, 274, 275, 276, 277, 278, 279, 280, 281, 282, 283, 284, 285, 286, 287, 288, 289, 290, 291, 292, 293, 294, 295, 296, 297, 298] (by decide +kernel) (by decide +kernel)) (goodIn_sub (fun _ h => List.mem_cons_of_mem _ (List.mem_append_left _ (List.mem_append_left _ (List.mem_append_right _ h)))) (by decide +kernel))) (goodIn_sub (fun _ h => List.mem_cons_of_mem _ (List.mem_append_left _ (List.mem_append_right _ h))) (by decide +kernel))) (goodIn_sub (fun _ h => List.mem_cons_of_mem _ (List.mem_append_right _ h)) (by decide +kernel))
set_option maxRecDepth 20000 in
theorem gL_build_L_act : GoodIn wsL_build (va_wsS RL 110 yL_act wsL_act) := goodIn_app (goodIn_of _ (by decide +kernel)) ggL_build_L_act
theorem dL_build_0 : decode cL_build 0 = .ok (.new 10, 3) := by decide +kernel
theorem dL_build_3 : decode cL_build 3 = .ok (.dup, 1) := by decide +kernel
theorem dL_build_4 : decode cL_build 4 = .ok (.invokespecial 105, 3) := by decide +kernel
theorem dL_build_7 : decode cL_build 7 = .ok (.astore_n 2, 1) := by decide +kernel
theorem dL_build_8 : decode cL_build 8 = .ok (.bipush 10, 2) := by decide +kernel
theorem dL_build_10 : decode cL_build 10 = .ok (.aload_n 1, 1) := by decide +kernel
theorem dL_build_11 : decode cL_build 11 = .ok (.iconst 0, 1) := by decide +kernel
theorem dL_build_12 : decode cL_build 12 = .ok (.invokestatic 106, 3) := by decide +kernel
theorem dL_build_15 : decode cL_build 15 = .ok (.bipush 40, 2) := by decide +kernel
theorem dL_build_17 : decode cL_build 17 = .ok (.invokestatic 15, 3) := by decide +kernel
theorem dL_build_20 : decode cL_build 20 = .ok (.iadd, 1) := by decide +kernel
theorem dL_build_21 : decode cL_build 21 = .ok (.istore_n 3, 1) := by decide +kernel
theorem dL_build_22 : decode cL_build 22 = .ok (.iconst 0, 1) := by decide +kernel
theorem dL_build_23 : decode cL_build 23 = .ok (.istore 4, 2) := by decide +kernel
theorem dL_build_25 : decode cL_build 25 = .ok (.iload 4, 2) := by decide +kernel
theorem dL_build_27 : decode cL_build 27 = .ok (.iload_n 3, 1) := by decide +kernel
theorem dL_build_28 : decode cL_build 28 = .ok (.if_icmp .ge 43, 3) := by decide +kernel
theorem dL_build_31 : decode cL_build 31 = .ok (.aload_n 0, 1) := by decide +kernel
theorem dL_build_32 : decode cL_build 32 = .ok (.aload_n 2, 1) := by decide +kernel
theorem dL_build_33 : decode cL_build 33 = .ok (.aload_n 1, 1) := by decide +kernel
theorem dL_build_34 : decode cL_build 34 = .ok (.iload 4, 2) := by decide +kernel
theorem dL_build_36 : decode cL_build 36 = .ok (.bipush 16, 2) := by decide +kernel
theorem dL_build_38 : decode cL_build 38 = .ok (.irem, 1) := by decide +kernel
theorem dL_build_39 : decode cL_build 39 = .ok (.invokestatic 106, 3) := by decide +kernel
theorem dL_build_42 : decode cL_build 42 = .ok (.iload 4, 2) := by decide +kernel
theorem dL_build_44 : decode cL_build 44 = .ok (.bipush 16, 2) := by decide +kernel
theorem dL_build_46 : decode cL_build 46 = .ok (.idiv, 1) := by decide +kernel
theorem dL_build_47 : decode cL_build 47 = .ok (.iconst 3, 1) := by decide +kernel
theorem dL_build_48 : decode cL_build 48 = .ok (.imul, 1) := by decide +kernel
theorem dL_build_49 : decode cL_build 49 = .ok (.ishr, 1) := by decide +kernel
theorem dL_build_50 : decode cL_build 50 = .ok (.sipush 409, 3) := by decide +kernel
theorem dL_build_53 : decode cL_build 53 = .ok (.iload 4, 2) := by decide +kernel
theorem dL_build_55 : decode cL_build 55 = .ok (.imul, 1) := by decide +kernel
theorem dL_build_56 : decode cL_build 56 = .ok (.iadd, 1) := by decide +kernel
theorem dL_build_57 : decode cL_build 57 = .ok (.invokestatic 110, 3) := by decide +kernel
theorem dL_build_60 : decode cL_build 60 = .ok (.ifCond .ne 5, 3) := by decide +kernel
theorem dL_build_63 : decode cL_build 63 = .ok (.aconst_null, 1) := by decide +kernel
theorem dL_build_64 : decode cL_build 64 = .ok (.areturn, 1) := by decide +kernel
theorem dL_build_65 : decode cL_build 65 = .ok (.iinc 4 1, 3) := by decide +kernel
theorem dL_build_68 : decode cL_build 68 = .ok (.goto (-43), 3) := by decide +kernel
theorem dL_build_71 : decode cL_build 71 = .ok (.aload_n 2, 1) := by decide +kernel
theorem dL_build_72 : decode cL_build 72 = .ok (.areturn, 1) := by decide +kernel
set_option maxRecDepth 20000 in
theorem ggL_law_X3_init : GoodIn wsL_law wsX3_init := goodIn_r _ [24, 25, 26, 27, 28, 29, 30, 31, 32, 33, 34, 35, 36, 37, 38, 39, 40, 3, 41, 42, 43, 44, 45, 46, 47, 48, 49, 50, 51, 52, 53, 54, 384, 385, 368, 369, 370, 386, 387, 388, 389, 390, 391, 392, 393, 394, 395, 396, 397, 398, 399] (by decide +kernel) (by decide +kernel)
set_option maxRecDepth 20000 in
theorem gL_law_X3_init : GoodIn wsL_law (wsX3_init) := ggL_law_X3_init
set_option maxRecDepth 20000 in
theorem ggL_law_L_build : GoodIn wsL_law wsL_build := goodIn_ca (goodIn_ca (goodIn_ca (goodIn_r _ [58, 59, 60, 61, 62, 63, 64, 65, 26, 27, 3, 66, 67, 68, 69, 70, 71, 57, 72, 73, 74, 75, 76, 77, 78, 79, 80, 11, 81, 82, 83, 84, 4, 85, 86, 87, 88, 10, 12, 13, 14, 15, 16, 17, 89, 90, 91, 2, 92, 93, 94, 95, 96, 31, 97, 98, 99, 100, 101, 102, 30, 103, 41, 104, 105, 106, 107, 108, 109, 110, 111, 112, 113, 114, 115, 42, 116, 117, 118, 119, 120, 121, 122, 123, 124, 125, 126, 127, 128, 129, 130, 131, 132, 133, 134, 135, 136, 137, 35, 138, 139, 140, 141, 142, 143, 144, 145, 146, 34, 147, 49, 148, 149, 150, 51, 151, 152, 153, 154, 155, 156, 157, 158, 159, 160, 161, 162, 163, 164, 165, 166, 167, 168, 169, 170, 171, 172, 173, 174, 175, 176, 177, 178, 179, 180, 181, 182, 183, 184, 185, 186, 187, 188, 189, 190, 191, 192, 193, 194, 195, 196, 197, 198, 199, 200, 201, 202, 203, 204, 205, 206, 207, 208, 209, 210, 211, 212, 213, 214, 215, 216, 217, 218, 219, 220, 221, 222, 223, 224, 225, 226, 227, 228, 229, 230, 231, 232, 233, 234, 235, 236, 237, 238, 239, 240, 241, 242, 47, 243, 244, 245, 246, 247, 248, 249, 250, 251, 252, 253, 254, 255, 256, 257, 258, 259, 260, 261, 262, 263, 264, 265, 266, 267, 268, 269, 270, 271, 272, 273, 274, 275, 276, 277, 278, 279, 280, 281, 282, 283, 284, 285, 286, 287, 288, 289, 290, 291, 292, 293, 294, 295, 296, 297, 298, 299, 300, 301, 371, 372, 373, 374, 375, 376, 377, 378, 379, 380, 381, 382, 383, 368, 369, 370, 384, 385, 393, 394, 395, 396, 397, 398, 399, 386, 387, 388, 389, 390, 391, 392] (by decide +kernel) (by decide +kernel)) (goodIn_sub (fun _ h => List.mem_append_left _ (List.mem_append_left _ (List.mem_append_right _ h))) (by decide +kernel))) (goodIn_sub (fun _ h => List.mem_append_left _ (List.mem_append_right _ h)) (by decide +kernel))) (goodIn_sub (fun _ h => List.mem_append_right _ h) (by decide +kernel))
set_option maxRecDepth 20000 in
theorem gL_law_L_build : GoodIn wsL_law (va_wsS RL 115 yL_build wsL_build) := goodIn_app (goodIn_of _ (by decide +kernel)) ggL_law_L_build
set_option maxRecDepth 20000 in
theorem ggL_law_L_cell : GoodIn wsL_law wsL_cell := goodIn_r _ [72, 73] (by decide +kernel) (by decide +kernel)
set_option maxRecDepth 20000 in
theorem gL_law_L_cell : GoodIn wsL_law (va_wsS RL 106 yL_cell wsL_cell) := goodIn_app (goodIn_of _ (by decide +kernel)) ggL_law_L_cell
set_option maxRecDepth 20000 in
theorem ggL_law_L_act : GoodIn wsL_law wsL_act := goodIn_ca (goodIn_ca (goodIn_ca (goodIn_r _ [80, 11, 81, 82, 83, 84, 4, 85, 86, 87, 88, 10, 12, 13, 14, 15, 16, 17, 74, 75, 57, 76, 77, 89, 90, 91, 2, 92, 93, 94, 95, 96, 31, 97, 98, 99, 100, 101, 102, 30, 103, 41, 104, 105, 106, 107, 108, 109, 110, 111, 112, 113, 114, 115, 42, 116, 117, 118, 119, 120, 121, 122, 61, 123, 124, 125, 126, 127, 128, 129, 130, 131, 67, 66, 132, 133, 134, 135, 136, 137, 35, 138, 139, 140, 141, 142, 143, 144, 145, 146, 34, 147, 49, 148, 149, 150, 51, 151, 152, 153, 154, 155, 156, 157, 158, 159, 160, 161, 162, 163, 164, 165, 166, 167, 168, 169, 170, 171, 172, 173, 174, 175, 176, 177, 178, 179, 180, 181, 182, 183, 184, 185, 186, 187, 188, 189, 190, 191, 192, 193, 194, 195, 196, 197, 198, 199, 200, 201, 202, 203, 204, 205, 206, 207, 208, 209, 210, 211, 212, 213, 214, 215, 216, 217, 218, 219, 220, 221, 222, 69, 223, 224, 225, 226, 227, 228, 229, 230, 231, 232, 233, 234, 235, 236, 237, 238, 239, 240, 241, 242, 47, 243, 244, 245, 246, 247, 248, 249, 250, 251, 252, 253, 254, 255, 256, 257, 258, 259, 260, 261, 262, 26, 27, 263, 264, 265, 266, 267, 268, 269, 270, 271, 272, 273, 274, 275, 276, 277, 278, 279, 280, 281, 282, 283, 284, 285, 286, 287, 288, 289, 290, 291, 292, 293, 294, 295, 296, 297, 298, 299, 300, 301, 371, 372, 373, 374, 375, 376, 377, 378, 379, 380, 381, 382, 383, 368, 369, 370, 384, 385, 393, 394, 395, 396, 397, 398, 399, 386, 387, 388, 389, 390, 391, 392] (by decide +kernel) (by decide +kernel)) (goodIn_sub (fun _ h => List.mem_append_left _ (List.mem_append_left _ (List.mem_append_right _ h))) (by decide +kernel))) (goodIn_sub (fun _ h => List.mem_append_left _ (List.mem_append_right _ h)) (by decide +kernel))) (goodIn_sub (fun _ h => List.mem_append_right _ h) (by decide +kernel))
set_option maxRecDepth 20000 in
theorem gL_law_L_act : GoodIn wsL_law (va_wsS RL 110 yL_act wsL_act) := goodIn_app (goodIn_of _ (by decide +kernel)) ggL_law_L_act
set_option maxRecDepth 20000 in
theorem ggL_law_X3_count : GoodIn wsL_law wsX3_count := goodIn_ca (goodIn_r _ [305, 93, 94, 35, 306, 307, 308, 34, 309, 245, 244, 197, 47, 198, 296, 310, 311, 312, 313, 248, 145, 146, 147, 49, 249, 149, 150, 51, 151, 152, 246, 113, 114, 30, 115, 42, 314, 315, 316, 317, 318, 158, 159, 160, 161, 162, 163, 164, 165, 166, 167, 168, 169, 101, 102, 103, 41, 98, 2, 99, 319, 320, 321, 322, 323, 324, 368, 369, 370, 386, 387, 388, 389, 390, 391, 392, 393, 394, 395, 396, 397, 398, 399, 384, 385] (by decide +kernel) (by decide +kernel)) (goodIn_sub (fun _ h => List.mem_append_left _ (List.mem_append_left _ (List.mem_append_right _ h))) (by decide +kernel))
set_option maxRecDepth 20000 in
theorem gL_law_X3_count : GoodIn wsL_law (wsV RL 119 RX3 yX3_count wsX3_count) := goodIn_app (goodIn_of _ (by decide +kernel)) ggL_law_X3_count
set_option maxRecDepth 20000 in
theorem ggL_law_X3_told : GoodIn wsL_law wsX3_told := goodIn_ca (goodIn_r _ [328, 93, 94, 31, 35, 139, 140, 141, 2, 142, 143, 144, 145, 146, 34, 147, 49, 329, 330, 331, 30, 332, 162, 161, 163, 333, 334, 335, 336, 192, 154, 155, 156, 42, 157, 158, 159, 160, 164, 149, 150, 51, 151, 152, 165, 166, 167, 168, 169, 101, 102, 103, 41, 98, 99, 337, 188, 189, 190, 191, 182, 183, 184, 185, 186, 368, 369, 370, 386, 387, 388, 389, 390, 391, 392, 393, 394, 395, 396, 397, 398, 399, 384, 385] (by decide +kernel) (by decide +kernel)) (goodIn_sub (fun _ h => List.mem_append_left _ (List.mem_append_left _ (List.mem_append_right _ h))) (by decide +kernel))
set_option maxRecDepth 20000 in
theorem gL_law_X3_told : GoodIn wsL_law (wsV RL 122 RX3 yX3_told wsX3_told) := goodIn_app (goodIn_of _ (by decide +kernel)) ggL_law_X3_told
set_option maxRecDepth 20000 in
theorem ggL_law_L_below : GoodIn wsL_law wsL_below := goodIn_r _ [76, 77] (by decide +kernel) (by decide +kernel)
set_option maxRecDepth 20000 in
theorem gL_law_L_below : GoodIn wsL_law (va_wsS RL 15 yL_below wsL_below) := goodIn_app (goodIn_of _ (by decide +kernel)) ggL_law_L_below
set_option maxRecDepth 20000 in
theorem ggL_law_X3_price : GoodIn wsL_law wsX3_price := goodIn_ca (goodIn_r _ [341, 31, 271, 272, 2, 273, 95, 96, 97, 98, 99, 274, 275, 276, 277, 278, 279, 284, 285, 286, 30, 287, 42, 165, 166, 167, 168, 169, 101, 102, 103, 41, 288, 289, 290, 291, 368, 369, 370, 384, 385] (by decide +kernel) (by decide +kernel)) (goodIn_sub (fun _ h => List.mem_append_left _ (List.mem_append_right _ h)) (by decide +kernel))
set_option maxRecDepth 20000 in
theorem gL_law_X3_price : GoodIn wsL_law (wsV RL 125 RX3 yX3_price wsX3_price) := goodIn_app (goodIn_of _ (by decide +kernel)) ggL_law_X3_price
set_option maxRecDepth 20000 in
theorem ggL_law_X3_buy : GoodIn wsL_law wsX3_buy := goodIn_ca (goodIn_ca (goodIn_r _ [270, 136, 137, 35, 31, 271, 272, 2, 273, 95, 96, 97, 98, 99, 274, 275, 276, 277, 278, 279, 280, 281, 282, 34, 283, 244, 284, 285, 286, 30, 287, 42, 165, 166, 167, 168, 169, 101, 102, 103, 41, 288, 289, 290, 291, 292, 293, 294, 295, 296, 248, 145, 146, 147, 49, 297, 298, 299, 51, 300, 257, 255, 254, 185, 152, 256, 301, 247, 214, 215, 216, 197, 217, 368, 369, 370, 386, 387, 388, 389, 390, 391, 392, 384, 385, 393, 394, 395, 396, 397, 398, 399] (by decide +kernel) (by decide +kernel)) (goodIn_sub (fun _ h => List.mem_append_right _ h) (by decide +kernel))) (goodIn_sub (fun _ h => List.mem_append_left _ (List.mem_append_right _ h)) (by decide +kernel))
set_option maxRecDepth 20000 in
theorem gL_law_X3_buy : GoodIn wsL_law (wsV RL 102 RX3 yX3_buy wsX3_buy) := goodIn_app (goodIn_of _ (by decide +kernel)) ggL_law_X3_buy
set_option maxRecDepth 20000 in
theorem ggL_law_X5_init : GoodIn wsL_law wsX5_init := goodIn_r _ [261, 262, 26, 27] (by decide +kernel) (by decide +kernel)
set_option maxRecDepth 20000 in
theorem gL_law_X5_init_n86 : GoodIn wsL_law (wsX5_init) := ggL_law_X5_init
set_option maxRecDepth 20000 in
theorem ggL_law_X4_come : GoodIn wsL_law wsX4_come := goodIn_r _ [202, 203, 204, 205, 371, 372, 373, 374, 375, 376] (by decide +kernel) (by decide +kernel)
set_option maxRecDepth 20000 in
theorem gL_law_X4_come : GoodIn wsL_law (wsV RL 70 RX4 yX4_come wsX4_come) := goodIn_app (goodIn_of _ (by decide +kernel)) ggL_law_X4_come
set_option maxRecDepth 20000 in
theorem ggL_law_X3_pass : GoodIn wsL_law wsX3_pass := goodIn_ca (goodIn_r _ [230, 35, 231, 232, 233, 2, 234, 95, 96, 235, 236, 237, 34, 238, 239, 240, 241, 242, 197, 47, 243, 244, 245, 246, 113, 114, 30, 115, 42, 247, 214, 215, 216, 217, 248, 145, 146, 147, 49, 249, 149, 150, 51, 151, 152, 250, 251, 252, 253, 254, 255, 256, 257, 185, 258, 194, 195, 196, 198, 368, 369, 370, 386, 387, 388, 389, 390, 391, 392, 384, 385, 393, 394, 395, 396, 397, 398, 399] (by decide +kernel) (by decide +kernel)) (goodIn_sub (fun _ h => List.mem_append_left _ (List.mem_append_right _ h)) (by decide +kernel))
set_option maxRecDepth 20000 in
theorem gL_law_X3_pass : GoodIn wsL_law (wsV RL 81 RX3 yX3_pass wsX3_pass) := goodIn_app (goodIn_of _ (by decide +kernel)) ggL_law_X3_pass
set_option maxRecDepth 20000 in
theorem ggL_law_X4_pass : GoodIn wsL_law wsX4_pass := goodIn_r _ [221, 203, 66, 222, 69, 124, 127, 223, 125, 126, 174, 224, 225, 226, 200, 201, 61, 202, 204, 205, 371, 372, 373, 374, 375, 376, 377, 378, 379, 380, 381, 382, 383] (by decide +kernel) (by decide +kernel)
set_option maxRecDepth 20000 in
theorem gL_law_X4_pass : GoodIn wsL_law (wsV RL 77 RX4 yX4_pass wsX4_pass) := goodIn_app (goodIn_of _ (by decide +kernel)) ggL_law_X4_pass
set_option maxRecDepth 20000 in
theorem ggL_law_X4_isSame : GoodIn wsL_law wsX4_isSame := goodIn_ca (goodIn_r _ [345, 69, 3, 126, 125, 127, 174, 124, 223, 346, 175, 121, 122, 61, 123, 128, 129, 130, 131, 67, 66, 347, 171, 172, 173, 348, 326, 327, 2, 328, 93, 94, 31, 35, 139, 140, 141, 142, 143, 144, 145, 146, 34, 147, 49, 329, 330, 331, 30, 332, 162, 161, 163, 333, 334, 335, 336, 192, 154, 155, 156, 42, 157, 158, 159, 160, 164, 149, 150, 51, 151, 152, 165, 166, 167, 168, 169, 101, 102, 103, 41, 98, 99, 337, 188, 189, 190, 191, 182, 183, 184, 185, 186, 349, 303, 304, 305, 306, 307, 308, 309, 245, 244, 197, 47, 198, 296, 310, 311, 312, 313, 248, 249, 246, 113, 114, 115, 314, 315, 316, 317, 318, 319, 320, 321, 322, 323, 324, 350, 351, 352, 353, 225, 203, 224, 354, 355, 356, 357, 358, 359, 360, 361, 362, 363, 364, 365, 366, 367, 371, 372, 373, 374, 375, 376, 377, 378, 379, 380, 381, 382, 383, 368, 369, 370, 386, 387, 388, 389, 390, 391, 392, 393, 394, 395, 396, 397, 398, 399, 384, 385] (by decide +kernel) (by decide +kernel)) (goodIn_sub (fun _ h => List.mem_append_left _ (List.mem_append_left _ (List.mem_append_right _ h))) (by decide +kernel))
set_option maxRecDepth 20000 in
theorem gL_law_X4_isSame : GoodIn wsL_law (wsV RL 138 RX4 yX4_isSame wsX4_isSame) := goodIn_app (goodIn_of _ (by decide +kernel)) ggL_law_X4_isSame
theorem dL_law_0 : decode cL_law 0 = .ok (.new 26, 3) := by decide +kernel
theorem dL_law_3 : decode cL_law 3 = .ok (.dup, 1) := by decide +kernel
theorem dL_law_4 : decode cL_law 4 = .ok (.invokespecial 114, 3) := by decide +kernel
theorem dL_law_7 : decode cL_law 7 = .ok (.astore_n 1, 1) := by decide +kernel
theorem dL_law_8 : decode cL_law 8 = .ok (.aload_n 1, 1) := by decide +kernel
theorem dL_law_9 : decode cL_law 9 = .ok (.aload_n 0, 1) := by decide +kernel
theorem dL_law_10 : decode cL_law 10 = .ok (.invokestatic 115, 3) := by decide +kernel
theorem dL_law_13 : decode cL_law 13 = .ok (.astore_n 2, 1) := by decide +kernel
theorem dL_law_14 : decode cL_law 14 = .ok (.aload_n 2, 1) := by decide +kernel
theorem dL_law_15 : decode cL_law 15 = .ok (.ifnonnull 5, 3) := by decide +kernel
theorem dL_law_18 : decode cL_law 18 = .ok (.iconst 0, 1) := by decide +kernel
theorem dL_law_19 : decode cL_law 19 = .ok (.ireturn, 1) := by decide +kernel
theorem dL_law_20 : decode cL_law 20 = .ok (.iconst 0, 1) := by decide +kernel
theorem dL_law_21 : decode cL_law 21 = .ok (.istore_n 3, 1) := by decide +kernel
theorem dL_law_22 : decode cL_law 22 = .ok (.iload_n 3, 1) := by decide +kernel
theorem dL_law_23 : decode cL_law 23 = .ok (.bipush 30, 2) := by decide +kernel
theorem dL_law_25 : decode cL_law 25 = .ok (.if_icmp .ge 844, 3) := by decide +kernel
theorem dL_law_28 : decode cL_law 28 = .ok (.aload_n 0, 1) := by decide +kernel
theorem dL_law_29 : decode cL_law 29 = .ok (.iload_n 3, 1) := by decide +kernel
theorem dL_law_30 : decode cL_law 30 = .ok (.bipush 16, 2) := by decide +kernel
theorem dL_law_32 : decode cL_law 32 = .ok (.irem, 1) := by decide +kernel
theorem dL_law_33 : decode cL_law 33 = .ok (.invokestatic 106, 3) := by decide +kernel
theorem dL_law_36 : decode cL_law 36 = .ok (.iload_n 3, 1) := by decide +kernel
theorem dL_law_37 : decode cL_law 37 = .ok (.bipush 16, 2) := by decide +kernel
theorem dL_law_39 : decode cL_law 39 = .ok (.idiv, 1) := by decide +kernel
theorem dL_law_40 : decode cL_law 40 = .ok (.iconst 3, 1) := by decide +kernel
theorem dL_law_41 : decode cL_law 41 = .ok (.imul, 1) := by decide +kernel
theorem dL_law_42 : decode cL_law 42 = .ok (.ishr, 1) := by decide +kernel
theorem dL_law_43 : decode cL_law 43 = .ok (.sipush 409, 3) := by decide +kernel
theorem dL_law_46 : decode cL_law 46 = .ok (.iload_n 3, 1) := by decide +kernel
theorem dL_law_47 : decode cL_law 47 = .ok (.imul, 1) := by decide +kernel
theorem dL_law_48 : decode cL_law 48 = .ok (.iadd, 1) := by decide +kernel
theorem dL_law_49 : decode cL_law 49 = .ok (.istore 4, 2) := by decide +kernel
theorem dL_law_51 : decode cL_law 51 = .ok (.aload_n 1, 1) := by decide +kernel
theorem dL_law_52 : decode cL_law 52 = .ok (.aload_n 2, 1) := by decide +kernel
theorem dL_law_53 : decode cL_law 53 = .ok (.iload 4, 2) := by decide +kernel
theorem dL_law_55 : decode cL_law 55 = .ok (.invokestatic 110, 3) := by decide +kernel
theorem dL_law_58 : decode cL_law 58 = .ok (.ifCond .ne 5, 3) := by decide +kernel
theorem dL_law_61 : decode cL_law 61 = .ok (.iconst 0, 1) := by decide +kernel
theorem dL_law_62 : decode cL_law 62 = .ok (.ireturn, 1) := by decide +kernel
theorem dL_law_63 : decode cL_law 63 = .ok (.aload_n 1, 1) := by decide +kernel
theorem dL_law_64 : decode cL_law 64 = .ok (.iconst 1, 1) := by decide +kernel
theorem dL_law_65 : decode cL_law 65 = .ok (.invokevirtual 119, 3) := by decide +kernel
theorem dL_law_68 : decode cL_law 68 = .ok (.istore 5, 2) := by decide +kernel
theorem dL_law_70 : decode cL_law 70 = .ok (.aload_n 1, 1) := by decide +kernel
theorem dL_law_71 : decode cL_law 71 = .ok (.iconst 3, 1) := by decide +kernel
theorem dL_law_72 : decode cL_law 72 = .ok (.invokevirtual 119, 3) := by decide +kernel
theorem dL_law_75 : decode cL_law 75 = .ok (.istore 6, 2) := by decide +kernel
theorem dL_law_77 : decode cL_law 77 = .ok (.aload_n 1, 1) := by decide +kernel
theorem dL_law_78 : decode cL_law 78 = .ok (.bipush 7, 2) := by decide +kernel
theorem dL_law_80 : decode cL_law 80 = .ok (.invokevirtual 119, 3) := by decide +kernel
theorem dL_law_83 : decode cL_law 83 = .ok (.istore 7, 2) := by decide +kernel
theorem dL_law_85 : decode cL_law 85 = .ok (.aload_n 1, 1) := by decide +kernel
theorem dL_law_86 : decode cL_law 86 = .ok (.iconst 0, 1) := by decide +kernel
theorem dL_law_87 : decode cL_law 87 = .ok (.invokevirtual 119, 3) := by decide +kernel
theorem dL_law_90 : decode cL_law 90 = .ok (.istore 8, 2) := by decide +kernel
theorem dL_law_92 : decode cL_law 92 = .ok (.iload 5, 2) := by decide +kernel
theorem dL_law_94 : decode cL_law 94 = .ok (.newarray .int, 2) := by decide +kernel
theorem dL_law_96 : decode cL_law 96 = .ok (.astore 9, 2) := by decide +kernel
theorem dL_law_98 : decode cL_law 98 = .ok (.iload 5, 2) := by decide +kernel
theorem dL_law_100 : decode cL_law 100 = .ok (.newarray .int, 2) := by decide +kernel
theorem dL_law_102 : decode cL_law 102 = .ok (.astore 10, 2) := by decide +kernel
theorem dL_law_104 : decode cL_law 104 = .ok (.iload 5, 2) := by decide +kernel
theorem dL_law_106 : decode cL_law 106 = .ok (.newarray .int, 2) := by decide +kernel
theorem dL_law_108 : decode cL_law 108 = .ok (.astore 11, 2) := by decide +kernel
theorem dL_law_110 : decode cL_law 110 = .ok (.iload 5, 2) := by decide +kernel
theorem dL_law_112 : decode cL_law 112 = .ok (.newarray .int, 2) := by decide +kernel
theorem dL_law_114 : decode cL_law 114 = .ok (.astore 12, 2) := by decide +kernel
theorem dL_law_116 : decode cL_law 116 = .ok (.iconst 0, 1) := by decide +kernel
theorem dL_law_117 : decode cL_law 117 = .ok (.istore 13, 2) := by decide +kernel
theorem dL_law_119 : decode cL_law 119 = .ok (.iconst 0, 1) := by decide +kernel
theorem dL_law_120 : decode cL_law 120 = .ok (.istore 14, 2) := by decide +kernel
theorem dL_law_122 : decode cL_law 122 = .ok (.iload 14, 2) := by decide +kernel
theorem dL_law_124 : decode cL_law 124 = .ok (.iload 5, 2) := by decide +kernel
theorem dL_law_126 : decode cL_law 126 = .ok (.if_icmp .ge 183, 3) := by decide +kernel
theorem dL_law_129 : decode cL_law 129 = .ok (.aload 11, 2) := by decide +kernel
theorem dL_law_131 : decode cL_law 131 = .ok (.iload 14, 2) := by decide +kernel
theorem dL_law_133 : decode cL_law 133 = .ok (.aload_n 1, 1) := by decide +kernel
theorem dL_law_134 : decode cL_law 134 = .ok (.iload 14, 2) := by decide +kernel
theorem dL_law_136 : decode cL_law 136 = .ok (.iconst 0, 1) := by decide +kernel
theorem dL_law_137 : decode cL_law 137 = .ok (.invokevirtual 122, 3) := by decide +kernel
theorem dL_law_140 : decode cL_law 140 = .ok (.iastore, 1) := by decide +kernel
theorem dL_law_141 : decode cL_law 141 = .ok (.aload 9, 2) := by decide +kernel
theorem dL_law_143 : decode cL_law 143 = .ok (.iload 14, 2) := by decide +kernel
theorem dL_law_145 : decode cL_law 145 = .ok (.aload_n 1, 1) := by decide +kernel
theorem dL_law_146 : decode cL_law 146 = .ok (.iload 14, 2) := by decide +kernel
theorem dL_law_148 : decode cL_law 148 = .ok (.iconst 2, 1) := by decide +kernel
theorem dL_law_149 : decode cL_law 149 = .ok (.invokevirtual 122, 3) := by decide +kernel
theorem dL_law_152 : decode cL_law 152 = .ok (.iastore, 1) := by decide +kernel
theorem dL_law_153 : decode cL_law 153 = .ok (.aload 12, 2) := by decide +kernel
theorem dL_law_155 : decode cL_law 155 = .ok (.iload 14, 2) := by decide +kernel
theorem dL_law_157 : decode cL_law 157 = .ok (.aload_n 1, 1) := by decide +kernel
theorem dL_law_158 : decode cL_law 158 = .ok (.iload 14, 2) := by decide +kernel
theorem dL_law_160 : decode cL_law 160 = .ok (.iconst 4, 1) := by decide +kernel
theorem dL_law_161 : decode cL_law 161 = .ok (.invokevirtual 122, 3) := by decide +kernel
theorem dL_law_164 : decode cL_law 164 = .ok (.iastore, 1) := by decide +kernel
theorem dL_law_165 : decode cL_law 165 = .ok (.aload 10, 2) := by decide +kernel
theorem dL_law_167 : decode cL_law 167 = .ok (.iload 14, 2) := by decide +kernel
theorem dL_law_169 : decode cL_law 169 = .ok (.aload_n 1, 1) := by decide +kernel
theorem dL_law_170 : decode cL_law 170 = .ok (.iload 14, 2) := by decide +kernel
theorem dL_law_172 : decode cL_law 172 = .ok (.bipush 6, 2) := by decide +kernel
theorem dL_law_174 : decode cL_law 174 = .ok (.invokevirtual 122, 3) := by decide +kernel
theorem dL_law_177 : decode cL_law 177 = .ok (.iastore, 1) := by decide +kernel
theorem dL_law_178 : decode cL_law 178 = .ok (.iload 13, 2) := by decide +kernel
theorem dL_law_180 : decode cL_law 180 = .ok (.aload 12, 2) := by decide +kernel
theorem dL_law_182 : decode cL_law 182 = .ok (.iload 14, 2) := by decide +kernel
theorem dL_law_184 : decode cL_law 184 = .ok (.iaload, 1) := by decide +kernel
theorem dL_law_185 : decode cL_law 185 = .ok (.ifCond .ne 21, 3) := by decide +kernel
theorem dL_law_188 : decode cL_law 188 = .ok (.aload 9, 2) := by decide +kernel
theorem dL_law_190 : decode cL_law 190 = .ok (.iload 14, 2) := by decide +kernel
theorem dL_law_192 : decode cL_law 192 = .ok (.iaload, 1) := by decide +kernel
theorem dL_law_193 : decode cL_law 193 = .ok (.ifCond .ne 13, 3) := by decide +kernel
theorem dL_law_196 : decode cL_law 196 = .ok (.aload_n 1, 1) := by decide +kernel
theorem dL_law_197 : decode cL_law 197 = .ok (.iload 14, 2) := by decide +kernel
theorem dL_law_199 : decode cL_law 199 = .ok (.iconst 1, 1) := by decide +kernel
theorem dL_law_200 : decode cL_law 200 = .ok (.invokevirtual 122, 3) := by decide +kernel
theorem dL_law_203 : decode cL_law 203 = .ok (.goto 4, 3) := by decide +kernel
theorem dL_law_206 : decode cL_law 206 = .ok (.iconst 0, 1) := by decide +kernel
theorem dL_law_207 : decode cL_law 207 = .ok (.iadd, 1) := by decide +kernel
theorem dL_law_208 : decode cL_law 208 = .ok (.istore 13, 2) := by decide +kernel
theorem dL_law_210 : decode cL_law 210 = .ok (.aload_n 1, 1) := by decide +kernel
theorem dL_law_211 : decode cL_law 211 = .ok (.iload 14, 2) := by decide +kernel
theorem dL_law_213 : decode cL_law 213 = .ok (.iconst 5, 1) := by decide +kernel
theorem dL_law_214 : decode cL_law 214 = .ok (.invokevirtual 122, 3) := by decide +kernel
theorem dL_law_217 : decode cL_law 217 = .ok (.ifCond .lt 84, 3) := by decide +kernel
theorem dL_law_220 : decode cL_law 220 = .ok (.aload 12, 2) := by decide +kernel
theorem dL_law_222 : decode cL_law 222 = .ok (.iload 14, 2) := by decide +kernel
theorem dL_law_224 : decode cL_law 224 = .ok (.iaload, 1) := by decide +kernel
theorem dL_law_225 : decode cL_law 225 = .ok (.ifCond .eq 13, 3) := by decide +kernel
theorem dL_law_228 : decode cL_law 228 = .ok (.aload_n 1, 1) := by decide +kernel
theorem dL_law_229 : decode cL_law 229 = .ok (.iload 14, 2) := by decide +kernel
theorem dL_law_231 : decode cL_law 231 = .ok (.iconst 5, 1) := by decide +kernel
theorem dL_law_232 : decode cL_law 232 = .ok (.invokevirtual 122, 3) := by decide +kernel
theorem dL_law_235 : decode cL_law 235 = .ok (.ifCond .ne 66, 3) := by decide +kernel
theorem dL_law_238 : decode cL_law 238 = .ok (.aload_n 1, 1) := by decide +kernel
theorem dL_law_239 : decode cL_law 239 = .ok (.iload 14, 2) := by decide +kernel
theorem dL_law_241 : decode cL_law 241 = .ok (.bipush 8, 2) := by decide +kernel
theorem dL_law_243 : decode cL_law 243 = .ok (.invokevirtual 122, 3) := by decide +kernel
theorem dL_law_246 : decode cL_law 246 = .ok (.aload_n 1, 1) := by decide +kernel
theorem dL_law_247 : decode cL_law 247 = .ok (.iload 14, 2) := by decide +kernel
theorem dL_law_249 : decode cL_law 249 = .ok (.iconst 5, 1) := by decide +kernel
theorem dL_law_250 : decode cL_law 250 = .ok (.invokevirtual 122, 3) := by decide +kernel
theorem dL_law_253 : decode cL_law 253 = .ok (.if_icmp .gt 48, 3) := by decide +kernel
theorem dL_law_256 : decode cL_law 256 = .ok (.aload_n 1, 1) := by decide +kernel
theorem dL_law_257 : decode cL_law 257 = .ok (.iload 14, 2) := by decide +kernel
theorem dL_law_259 : decode cL_law 259 = .ok (.bipush 8, 2) := by decide +kernel
theorem dL_law_261 : decode cL_law 261 = .ok (.invokevirtual 122, 3) := by decide +kernel
theorem dL_law_264 : decode cL_law 264 = .ok (.ifCond .lt 37, 3) := by decide +kernel
theorem dL_law_267 : decode cL_law 267 = .ok (.aload_n 1, 1) := by decide +kernel
theorem dL_law_268 : decode cL_law 268 = .ok (.iload 14, 2) := by decide +kernel
theorem dL_law_270 : decode cL_law 270 = .ok (.iconst 3, 1) := by decide +kernel
theorem dL_law_271 : decode cL_law 271 = .ok (.invokevirtual 122, 3) := by decide +kernel
theorem dL_law_274 : decode cL_law 274 = .ok (.iconst 2, 1) := by decide +kernel
theorem dL_law_275 : decode cL_law 275 = .ok (.if_icmp .ge 14, 3) := by decide +kernel
theorem dL_law_278 : decode cL_law 278 = .ok (.aload_n 1, 1) := by decide +kernel
theorem dL_law_279 : decode cL_law 279 = .ok (.iload 14, 2) := by decide +kernel
theorem dL_law_281 : decode cL_law 281 = .ok (.bipush 8, 2) := by decide +kernel
theorem dL_law_283 : decode cL_law 283 = .ok (.invokevirtual 122, 3) := by decide +kernel
theorem dL_law_286 : decode cL_law 286 = .ok (.ifCond .ne 15, 3) := by decide +kernel
theorem dL_law_289 : decode cL_law 289 = .ok (.aload_n 1, 1) := by decide +kernel
theorem dL_law_290 : decode cL_law 290 = .ok (.iload 14, 2) := by decide +kernel
theorem dL_law_292 : decode cL_law 292 = .ok (.bipush 7, 2) := by decide +kernel
theorem dL_law_294 : decode cL_law 294 = .ok (.invokevirtual 122, 3) := by decide +kernel
theorem dL_law_297 : decode cL_law 297 = .ok (.iconst 1, 1) := by decide +kernel
theorem dL_law_298 : decode cL_law 298 = .ok (.if_icmp .ge 5, 3) := by decide +kernel
theorem dL_law_301 : decode cL_law 301 = .ok (.iconst 0, 1) := by decide +kernel
theorem dL_law_302 : decode cL_law 302 = .ok (.ireturn, 1) := by decide +kernel
theorem dL_law_303 : decode cL_law 303 = .ok (.iinc 14 1, 3) := by decide +kernel
theorem dL_law_306 : decode cL_law 306 = .ok (.goto (-184), 3) := by decide +kernel
theorem dL_law_309 : decode cL_law 309 = .ok (.iload 13, 2) := by decide +kernel
theorem dL_law_311 : decode cL_law 311 = .ok (.aload_n 1, 1) := by decide +kernel
theorem dL_law_312 : decode cL_law 312 = .ok (.bipush 6, 2) := by decide +kernel
theorem dL_law_314 : decode cL_law 314 = .ok (.invokevirtual 119, 3) := by decide +kernel
theorem dL_law_317 : decode cL_law 317 = .ok (.if_icmp .eq 5, 3) := by decide +kernel
theorem dL_law_320 : decode cL_law 320 = .ok (.iconst 0, 1) := by decide +kernel
theorem dL_law_321 : decode cL_law 321 = .ok (.ireturn, 1) := by decide +kernel
theorem dL_law_322 : decode cL_law 322 = .ok (.iload_n 3, 1) := by decide +kernel
theorem dL_law_323 : decode cL_law 323 = .ok (.iconst 3, 1) := by decide +kernel
theorem dL_law_324 : decode cL_law 324 = .ok (.irem, 1) := by decide +kernel
theorem dL_law_325 : decode cL_law 325 = .ok (.ifCond .ne 281, 3) := by decide +kernel
theorem dL_law_328 : decode cL_law 328 = .ok (.iload 5, 2) := by decide +kernel
theorem dL_law_330 : decode cL_law 330 = .ok (.bipush 10, 2) := by decide +kernel
theorem dL_law_332 : decode cL_law 332 = .ok (.if_icmp .ge 274, 3) := by decide +kernel
theorem dL_law_335 : decode cL_law 335 = .ok (.bipush 50, 2) := by decide +kernel
theorem dL_law_337 : decode cL_law 337 = .ok (.iload 4, 2) := by decide +kernel
theorem dL_law_339 : decode cL_law 339 = .ok (.iconst 2, 1) := by decide +kernel
theorem dL_law_340 : decode cL_law 340 = .ok (.ishr, 1) := by decide +kernel
theorem dL_law_341 : decode cL_law 341 = .ok (.bipush 50, 2) := by decide +kernel
theorem dL_law_343 : decode cL_law 343 = .ok (.invokestatic 15, 3) := by decide +kernel
theorem dL_law_346 : decode cL_law 346 = .ok (.iadd, 1) := by decide +kernel
theorem dL_law_347 : decode cL_law 347 = .ok (.istore 14, 2) := by decide +kernel
theorem dL_law_349 : decode cL_law 349 = .ok (.iload 4, 2) := by decide +kernel
theorem dL_law_351 : decode cL_law 351 = .ok (.iconst 2, 1) := by decide +kernel
theorem dL_law_352 : decode cL_law 352 = .ok (.invokestatic 15, 3) := by decide +kernel
theorem dL_law_355 : decode cL_law 355 = .ok (.ifCond .ne 7, 3) := by decide +kernel
theorem dL_law_358 : decode cL_law 358 = .ok (.iconst 0, 1) := by decide +kernel
theorem dL_law_359 : decode cL_law 359 = .ok (.goto 12, 3) := by decide +kernel
theorem dL_law_362 : decode cL_law 362 = .ok (.iload 4, 2) := by decide +kernel
theorem dL_law_364 : decode cL_law 364 = .ok (.iconst 3, 1) := by decide +kernel
theorem dL_law_365 : decode cL_law 365 = .ok (.ishr, 1) := by decide +kernel
theorem dL_law_366 : decode cL_law 366 = .ok (.bipush 31, 2) := by decide +kernel
theorem dL_law_368 : decode cL_law 368 = .ok (.invokestatic 15, 3) := by decide +kernel
theorem dL_law_371 : decode cL_law 371 = .ok (.istore 15, 2) := by decide +kernel
theorem dL_law_373 : decode cL_law 373 = .ok (.iconst 1, 1) := by decide +kernel
theorem dL_law_374 : decode cL_law 374 = .ok (.iload 4, 2) := by decide +kernel
theorem dL_law_376 : decode cL_law 376 = .ok (.iconst 1, 1) := by decide +kernel
theorem dL_law_377 : decode cL_law 377 = .ok (.ishr, 1) := by decide +kernel
theorem dL_law_378 : decode cL_law 378 = .ok (.sipush 999, 3) := by decide +kernel
theorem dL_law_381 : decode cL_law 381 = .ok (.invokestatic 15, 3) := by decide +kernel
theorem dL_law_384 : decode cL_law 384 = .ok (.iadd, 1) := by decide +kernel
theorem dL_law_385 : decode cL_law 385 = .ok (.istore 16, 2) := by decide +kernel
theorem dL_law_387 : decode cL_law 387 = .ok (.aload_n 1, 1) := by decide +kernel
theorem dL_law_388 : decode cL_law 388 = .ok (.iload 14, 2) := by decide +kernel
theorem dL_law_390 : decode cL_law 390 = .ok (.iload 16, 2) := by decide +kernel
theorem dL_law_392 : decode cL_law 392 = .ok (.iload 15, 2) := by decide +kernel
theorem dL_law_394 : decode cL_law 394 = .ok (.invokevirtual 125, 3) := by decide +kernel
end
section
theorem dL_law_397 : decode cL_law 397 = .ok (.istore 17, 2) := by decide +kernel
theorem dL_law_399 : decode cL_law 399 = .ok (.iload 17, 2) := by decide +kernel
theorem dL_law_401 : decode cL_law 401 = .ok (.ifCond .le 462, 3) := by decide +kernel
theorem dL_law_404 : decode cL_law 404 = .ok (.aload_n 1, 1) := by decide +kernel
theorem dL_law_405 : decode cL_law 405 = .ok (.iload 14, 2) := by decide +kernel
theorem dL_law_407 : decode cL_law 407 = .ok (.iload 16, 2) := by decide +kernel
theorem dL_law_409 : decode cL_law 409 = .ok (.iload 15, 2) := by decide +kernel
theorem dL_law_411 : decode cL_law 411 = .ok (.invokevirtual 102, 3) := by decide +kernel
theorem dL_law_414 : decode cL_law 414 = .ok (.iload 5, 2) := by decide +kernel
theorem dL_law_416 : decode cL_law 416 = .ok (.if_icmp .ne 83, 3) := by decide +kernel
theorem dL_law_419 : decode cL_law 419 = .ok (.aload_n 2, 1) := by decide +kernel
theorem dL_law_420 : decode cL_law 420 = .ok (.getfield 56, 3) := by decide +kernel
theorem dL_law_423 : decode cL_law 423 = .ok (.iload 6, 2) := by decide +kernel
theorem dL_law_425 : decode cL_law 425 = .ok (.if_icmp .ne 74, 3) := by decide +kernel
theorem dL_law_428 : decode cL_law 428 = .ok (.aload_n 1, 1) := by decide +kernel
theorem dL_law_429 : decode cL_law 429 = .ok (.iload 5, 2) := by decide +kernel
theorem dL_law_431 : decode cL_law 431 = .ok (.bipush 7, 2) := by decide +kernel
theorem dL_law_433 : decode cL_law 433 = .ok (.invokevirtual 122, 3) := by decide +kernel
theorem dL_law_436 : decode cL_law 436 = .ok (.iload 17, 2) := by decide +kernel
theorem dL_law_438 : decode cL_law 438 = .ok (.if_icmp .ne 61, 3) := by decide +kernel
theorem dL_law_441 : decode cL_law 441 = .ok (.aload_n 1, 1) := by decide +kernel
theorem dL_law_442 : decode cL_law 442 = .ok (.iload 5, 2) := by decide +kernel
theorem dL_law_444 : decode cL_law 444 = .ok (.iconst 5, 1) := by decide +kernel
theorem dL_law_445 : decode cL_law 445 = .ok (.invokevirtual 122, 3) := by decide +kernel
theorem dL_law_448 : decode cL_law 448 = .ok (.iload 17, 2) := by decide +kernel
theorem dL_law_450 : decode cL_law 450 = .ok (.if_icmp .gt 49, 3) := by decide +kernel
theorem dL_law_453 : decode cL_law 453 = .ok (.aload_n 1, 1) := by decide +kernel
theorem dL_law_454 : decode cL_law 454 = .ok (.iload 5, 2) := by decide +kernel
theorem dL_law_456 : decode cL_law 456 = .ok (.iconst 2, 1) := by decide +kernel
theorem dL_law_457 : decode cL_law 457 = .ok (.invokevirtual 122, 3) := by decide +kernel
theorem dL_law_460 : decode cL_law 460 = .ok (.iload 15, 2) := by decide +kernel
theorem dL_law_462 : decode cL_law 462 = .ok (.if_icmp .ne 37, 3) := by decide +kernel
theorem dL_law_465 : decode cL_law 465 = .ok (.aload_n 1, 1) := by decide +kernel
theorem dL_law_466 : decode cL_law 466 = .ok (.iconst 3, 1) := by decide +kernel
theorem dL_law_467 : decode cL_law 467 = .ok (.invokevirtual 119, 3) := by decide +kernel
theorem dL_law_470 : decode cL_law 470 = .ok (.i2l, 1) := by decide +kernel
theorem dL_law_471 : decode cL_law 471 = .ok (.ldc2_w 126, 3) := by decide +kernel
theorem dL_law_474 : decode cL_law 474 = .ok (.iload 6, 2) := by decide +kernel
theorem dL_law_476 : decode cL_law 476 = .ok (.i2l, 1) := by decide +kernel
theorem dL_law_477 : decode cL_law 477 = .ok (.iload 17, 2) := by decide +kernel
theorem dL_law_479 : decode cL_law 479 = .ok (.i2l, 1) := by decide +kernel
theorem dL_law_480 : decode cL_law 480 = .ok (.ladd, 1) := by decide +kernel
theorem dL_law_481 : decode cL_law 481 = .ok (.invokestatic 128, 3) := by decide +kernel
theorem dL_law_484 : decode cL_law 484 = .ok (.lcmp, 1) := by decide +kernel
theorem dL_law_485 : decode cL_law 485 = .ok (.ifCond .ne 14, 3) := by decide +kernel
theorem dL_law_488 : decode cL_law 488 = .ok (.aload_n 1, 1) := by decide +kernel
theorem dL_law_489 : decode cL_law 489 = .ok (.bipush 7, 2) := by decide +kernel
theorem dL_law_491 : decode cL_law 491 = .ok (.invokevirtual 119, 3) := by decide +kernel
theorem dL_law_494 : decode cL_law 494 = .ok (.iload 7, 2) := by decide +kernel
theorem dL_law_496 : decode cL_law 496 = .ok (.if_icmp .eq 5, 3) := by decide +kernel
theorem dL_law_499 : decode cL_law 499 = .ok (.iconst 0, 1) := by decide +kernel
theorem dL_law_500 : decode cL_law 500 = .ok (.ireturn, 1) := by decide +kernel
theorem dL_law_501 : decode cL_law 501 = .ok (.iload 5, 2) := by decide +kernel
theorem dL_law_503 : decode cL_law 503 = .ok (.iconst 1, 1) := by decide +kernel
theorem dL_law_504 : decode cL_law 504 = .ok (.iadd, 1) := by decide +kernel
theorem dL_law_505 : decode cL_law 505 = .ok (.anewarray 37, 3) := by decide +kernel
theorem dL_law_508 : decode cL_law 508 = .ok (.astore 18, 2) := by decide +kernel
theorem dL_law_510 : decode cL_law 510 = .ok (.iconst 0, 1) := by decide +kernel
theorem dL_law_511 : decode cL_law 511 = .ok (.istore 19, 2) := by decide +kernel
theorem dL_law_513 : decode cL_law 513 = .ok (.iload 19, 2) := by decide +kernel
theorem dL_law_515 : decode cL_law 515 = .ok (.iload 5, 2) := by decide +kernel
theorem dL_law_517 : decode cL_law 517 = .ok (.if_icmp .ge 21, 3) := by decide +kernel
theorem dL_law_520 : decode cL_law 520 = .ok (.aload 18, 2) := by decide +kernel
theorem dL_law_522 : decode cL_law 522 = .ok (.iload 19, 2) := by decide +kernel
theorem dL_law_524 : decode cL_law 524 = .ok (.aload_n 2, 1) := by decide +kernel
theorem dL_law_525 : decode cL_law 525 = .ok (.getfield 9, 3) := by decide +kernel
theorem dL_law_528 : decode cL_law 528 = .ok (.iload 19, 2) := by decide +kernel
theorem dL_law_530 : decode cL_law 530 = .ok (.aaload, 1) := by decide +kernel
theorem dL_law_531 : decode cL_law 531 = .ok (.aastore, 1) := by decide +kernel
theorem dL_law_532 : decode cL_law 532 = .ok (.iinc 19 1, 3) := by decide +kernel
theorem dL_law_535 : decode cL_law 535 = .ok (.goto (-22), 3) := by decide +kernel
theorem dL_law_538 : decode cL_law 538 = .ok (.aload 18, 2) := by decide +kernel
theorem dL_law_540 : decode cL_law 540 = .ok (.iload 5, 2) := by decide +kernel
theorem dL_law_542 : decode cL_law 542 = .ok (.new 37, 3) := by decide +kernel
theorem dL_law_545 : decode cL_law 545 = .ok (.dup, 1) := by decide +kernel
theorem dL_law_546 : decode cL_law 546 = .ok (.invokespecial 86, 3) := by decide +kernel
theorem dL_law_549 : decode cL_law 549 = .ok (.aastore, 1) := by decide +kernel
theorem dL_law_550 : decode cL_law 550 = .ok (.aload 18, 2) := by decide +kernel
theorem dL_law_552 : decode cL_law 552 = .ok (.iload 5, 2) := by decide +kernel
theorem dL_law_554 : decode cL_law 554 = .ok (.aaload, 1) := by decide +kernel
theorem dL_law_555 : decode cL_law 555 = .ok (.iload 14, 2) := by decide +kernel
theorem dL_law_557 : decode cL_law 557 = .ok (.putfield 87, 3) := by decide +kernel
theorem dL_law_560 : decode cL_law 560 = .ok (.aload 18, 2) := by decide +kernel
theorem dL_law_562 : decode cL_law 562 = .ok (.iload 5, 2) := by decide +kernel
theorem dL_law_564 : decode cL_law 564 = .ok (.aaload, 1) := by decide +kernel
theorem dL_law_565 : decode cL_law 565 = .ok (.iload 16, 2) := by decide +kernel
theorem dL_law_567 : decode cL_law 567 = .ok (.putfield 90, 3) := by decide +kernel
theorem dL_law_570 : decode cL_law 570 = .ok (.aload 18, 2) := by decide +kernel
theorem dL_law_572 : decode cL_law 572 = .ok (.iload 5, 2) := by decide +kernel
theorem dL_law_574 : decode cL_law 574 = .ok (.aaload, 1) := by decide +kernel
theorem dL_law_575 : decode cL_law 575 = .ok (.iload 15, 2) := by decide +kernel
theorem dL_law_577 : decode cL_law 577 = .ok (.putfield 93, 3) := by decide +kernel
theorem dL_law_580 : decode cL_law 580 = .ok (.aload 18, 2) := by decide +kernel
theorem dL_law_582 : decode cL_law 582 = .ok (.iload 5, 2) := by decide +kernel
theorem dL_law_584 : decode cL_law 584 = .ok (.aaload, 1) := by decide +kernel
theorem dL_law_585 : decode cL_law 585 = .ok (.iload 17, 2) := by decide +kernel
theorem dL_law_587 : decode cL_law 587 = .ok (.putfield 100, 3) := by decide +kernel
theorem dL_law_590 : decode cL_law 590 = .ok (.aload_n 2, 1) := by decide +kernel
theorem dL_law_591 : decode cL_law 591 = .ok (.aload 18, 2) := by decide +kernel
theorem dL_law_593 : decode cL_law 593 = .ok (.putfield 9, 3) := by decide +kernel
theorem dL_law_596 : decode cL_law 596 = .ok (.aload_n 2, 1) := by decide +kernel
theorem dL_law_597 : decode cL_law 597 = .ok (.iload 17, 2) := by decide +kernel
theorem dL_law_599 : decode cL_law 599 = .ok (.i2l, 1) := by decide +kernel
theorem dL_law_600 : decode cL_law 600 = .ok (.invokevirtual 70, 3) := by decide +kernel
theorem dL_law_603 : decode cL_law 603 = .ok (.goto 260, 3) := by decide +kernel
theorem dL_law_606 : decode cL_law 606 = .ok (.aload_n 1, 1) := by decide +kernel
theorem dL_law_607 : decode cL_law 607 = .ok (.iconst 1, 1) := by decide +kernel
theorem dL_law_608 : decode cL_law 608 = .ok (.invokevirtual 81, 3) := by decide +kernel
theorem dL_law_611 : decode cL_law 611 = .ok (.istore 14, 2) := by decide +kernel
theorem dL_law_613 : decode cL_law 613 = .ok (.aload_n 2, 1) := by decide +kernel
theorem dL_law_614 : decode cL_law 614 = .ok (.invokevirtual 77, 3) := by decide +kernel
theorem dL_law_617 : decode cL_law 617 = .ok (.pop, 1) := by decide +kernel
theorem dL_law_618 : decode cL_law 618 = .ok (.iconst 0, 1) := by decide +kernel
theorem dL_law_619 : decode cL_law 619 = .ok (.istore 15, 2) := by decide +kernel
theorem dL_law_621 : decode cL_law 621 = .ok (.iconst 0, 1) := by decide +kernel
theorem dL_law_622 : decode cL_law 622 = .ok (.istore 16, 2) := by decide +kernel
theorem dL_law_624 : decode cL_law 624 = .ok (.iload 16, 2) := by decide +kernel
theorem dL_law_626 : decode cL_law 626 = .ok (.iload 5, 2) := by decide +kernel
theorem dL_law_628 : decode cL_law 628 = .ok (.if_icmp .ge 177, 3) := by decide +kernel
theorem dL_law_631 : decode cL_law 631 = .ok (.aload_n 1, 1) := by decide +kernel
theorem dL_law_632 : decode cL_law 632 = .ok (.iload 16, 2) := by decide +kernel
theorem dL_law_634 : decode cL_law 634 = .ok (.bipush 6, 2) := by decide +kernel
theorem dL_law_636 : decode cL_law 636 = .ok (.invokevirtual 122, 3) := by decide +kernel
theorem dL_law_639 : decode cL_law 639 = .ok (.aload 10, 2) := by decide +kernel
theorem dL_law_641 : decode cL_law 641 = .ok (.iload 16, 2) := by decide +kernel
theorem dL_law_643 : decode cL_law 643 = .ok (.iaload, 1) := by decide +kernel
theorem dL_law_644 : decode cL_law 644 = .ok (.isub, 1) := by decide +kernel
theorem dL_law_645 : decode cL_law 645 = .ok (.istore 17, 2) := by decide +kernel
theorem dL_law_647 : decode cL_law 647 = .ok (.aload 12, 2) := by decide +kernel
theorem dL_law_649 : decode cL_law 649 = .ok (.iload 16, 2) := by decide +kernel
theorem dL_law_651 : decode cL_law 651 = .ok (.iaload, 1) := by decide +kernel
theorem dL_law_652 : decode cL_law 652 = .ok (.ifCond .ne 15, 3) := by decide +kernel
theorem dL_law_655 : decode cL_law 655 = .ok (.aload 9, 2) := by decide +kernel
theorem dL_law_657 : decode cL_law 657 = .ok (.iload 16, 2) := by decide +kernel
theorem dL_law_659 : decode cL_law 659 = .ok (.iaload, 1) := by decide +kernel
theorem dL_law_660 : decode cL_law 660 = .ok (.ifCond .ne 7, 3) := by decide +kernel
theorem dL_law_663 : decode cL_law 663 = .ok (.iconst 1, 1) := by decide +kernel
theorem dL_law_664 : decode cL_law 664 = .ok (.goto 4, 3) := by decide +kernel
theorem dL_law_667 : decode cL_law 667 = .ok (.iconst 0, 1) := by decide +kernel
theorem dL_law_668 : decode cL_law 668 = .ok (.istore 18, 2) := by decide +kernel
theorem dL_law_670 : decode cL_law 670 = .ok (.iload 17, 2) := by decide +kernel
theorem dL_law_672 : decode cL_law 672 = .ok (.iload 18, 2) := by decide +kernel
theorem dL_law_674 : decode cL_law 674 = .ok (.ifCond .eq 13, 3) := by decide +kernel
theorem dL_law_677 : decode cL_law 677 = .ok (.aload_n 1, 1) := by decide +kernel
theorem dL_law_678 : decode cL_law 678 = .ok (.iload 16, 2) := by decide +kernel
theorem dL_law_680 : decode cL_law 680 = .ok (.iconst 1, 1) := by decide +kernel
theorem dL_law_681 : decode cL_law 681 = .ok (.invokevirtual 122, 3) := by decide +kernel
theorem dL_law_684 : decode cL_law 684 = .ok (.goto 4, 3) := by decide +kernel
theorem dL_law_687 : decode cL_law 687 = .ok (.iconst 0, 1) := by decide +kernel
theorem dL_law_688 : decode cL_law 688 = .ok (.if_icmp .ne 102, 3) := by decide +kernel
theorem dL_law_691 : decode cL_law 691 = .ok (.aload_n 1, 1) := by decide +kernel
theorem dL_law_692 : decode cL_law 692 = .ok (.iload 16, 2) := by decide +kernel
theorem dL_law_694 : decode cL_law 694 = .ok (.iconst 0, 1) := by decide +kernel
theorem dL_law_695 : decode cL_law 695 = .ok (.invokevirtual 122, 3) := by decide +kernel
theorem dL_law_698 : decode cL_law 698 = .ok (.aload 11, 2) := by decide +kernel
theorem dL_law_700 : decode cL_law 700 = .ok (.iload 16, 2) := by decide +kernel
theorem dL_law_702 : decode cL_law 702 = .ok (.iaload, 1) := by decide +kernel
theorem dL_law_703 : decode cL_law 703 = .ok (.aload 12, 2) := by decide +kernel
theorem dL_law_705 : decode cL_law 705 = .ok (.iload 16, 2) := by decide +kernel
theorem dL_law_707 : decode cL_law 707 = .ok (.iaload, 1) := by decide +kernel
theorem dL_law_708 : decode cL_law 708 = .ok (.ifCond .ne 7, 3) := by decide +kernel
theorem dL_law_711 : decode cL_law 711 = .ok (.iconst 1, 1) := by decide +kernel
theorem dL_law_712 : decode cL_law 712 = .ok (.goto 4, 3) := by decide +kernel
theorem dL_law_715 : decode cL_law 715 = .ok (.iconst 0, 1) := by decide +kernel
theorem dL_law_716 : decode cL_law 716 = .ok (.iadd, 1) := by decide +kernel
theorem dL_law_717 : decode cL_law 717 = .ok (.if_icmp .ne 73, 3) := by decide +kernel
theorem dL_law_720 : decode cL_law 720 = .ok (.aload_n 1, 1) := by decide +kernel
theorem dL_law_721 : decode cL_law 721 = .ok (.iload 16, 2) := by decide +kernel
theorem dL_law_723 : decode cL_law 723 = .ok (.iconst 2, 1) := by decide +kernel
theorem dL_law_724 : decode cL_law 724 = .ok (.invokevirtual 122, 3) := by decide +kernel
theorem dL_law_727 : decode cL_law 727 = .ok (.iconst 0, 1) := by decide +kernel
theorem dL_law_728 : decode cL_law 728 = .ok (.aload 9, 2) := by decide +kernel
theorem dL_law_730 : decode cL_law 730 = .ok (.iload 16, 2) := by decide +kernel
theorem dL_law_732 : decode cL_law 732 = .ok (.iaload, 1) := by decide +kernel
theorem dL_law_733 : decode cL_law 733 = .ok (.aload 12, 2) := by decide +kernel
theorem dL_law_735 : decode cL_law 735 = .ok (.iload 16, 2) := by decide +kernel
theorem dL_law_737 : decode cL_law 737 = .ok (.iaload, 1) := by decide +kernel
theorem dL_law_738 : decode cL_law 738 = .ok (.ifCond .ne 7, 3) := by decide +kernel
theorem dL_law_741 : decode cL_law 741 = .ok (.iconst 1, 1) := by decide +kernel
theorem dL_law_742 : decode cL_law 742 = .ok (.goto 4, 3) := by decide +kernel
theorem dL_law_745 : decode cL_law 745 = .ok (.iconst 0, 1) := by decide +kernel
theorem dL_law_746 : decode cL_law 746 = .ok (.isub, 1) := by decide +kernel
theorem dL_law_747 : decode cL_law 747 = .ok (.invokestatic 134, 3) := by decide +kernel
theorem dL_law_750 : decode cL_law 750 = .ok (.if_icmp .ne 40, 3) := by decide +kernel
theorem dL_law_753 : decode cL_law 753 = .ok (.aload_n 1, 1) := by decide +kernel
theorem dL_law_754 : decode cL_law 754 = .ok (.iload 16, 2) := by decide +kernel
theorem dL_law_756 : decode cL_law 756 = .ok (.iconst 4, 1) := by decide +kernel
theorem dL_law_757 : decode cL_law 757 = .ok (.invokevirtual 122, 3) := by decide +kernel
theorem dL_law_760 : decode cL_law 760 = .ok (.aload 12, 2) := by decide +kernel
theorem dL_law_762 : decode cL_law 762 = .ok (.iload 16, 2) := by decide +kernel
theorem dL_law_764 : decode cL_law 764 = .ok (.iaload, 1) := by decide +kernel
theorem dL_law_765 : decode cL_law 765 = .ok (.ifCond .ne 17, 3) := by decide +kernel
theorem dL_law_768 : decode cL_law 768 = .ok (.aload 11, 2) := by decide +kernel
theorem dL_law_770 : decode cL_law 770 = .ok (.iload 16, 2) := by decide +kernel
theorem dL_law_772 : decode cL_law 772 = .ok (.iaload, 1) := by decide +kernel
theorem dL_law_773 : decode cL_law 773 = .ok (.bipush 99, 2) := by decide +kernel
theorem dL_law_775 : decode cL_law 775 = .ok (.if_icmp .ne 7, 3) := by decide +kernel
theorem dL_law_778 : decode cL_law 778 = .ok (.iconst 1, 1) := by decide +kernel
theorem dL_law_779 : decode cL_law 779 = .ok (.goto 8, 3) := by decide +kernel
theorem dL_law_782 : decode cL_law 782 = .ok (.aload 12, 2) := by decide +kernel
theorem dL_law_784 : decode cL_law 784 = .ok (.iload 16, 2) := by decide +kernel
theorem dL_law_786 : decode cL_law 786 = .ok (.iaload, 1) := by decide +kernel
theorem dL_law_787 : decode cL_law 787 = .ok (.if_icmp .eq 5, 3) := by decide +kernel
theorem dL_law_790 : decode cL_law 790 = .ok (.iconst 0, 1) := by decide +kernel
theorem dL_law_791 : decode cL_law 791 = .ok (.ireturn, 1) := by decide +kernel
theorem dL_law_792 : decode cL_law 792 = .ok (.iload 15, 2) := by decide +kernel
theorem dL_law_794 : decode cL_law 794 = .ok (.iload 17, 2) := by decide +kernel
theorem dL_law_796 : decode cL_law 796 = .ok (.iadd, 1) := by decide +kernel
theorem dL_law_797 : decode cL_law 797 = .ok (.istore 15, 2) := by decide +kernel
theorem dL_law_799 : decode cL_law 799 = .ok (.iinc 16 1, 3) := by decide +kernel
theorem dL_law_802 : decode cL_law 802 = .ok (.goto (-178), 3) := by decide +kernel
theorem dL_law_805 : decode cL_law 805 = .ok (.iload 15, 2) := by decide +kernel
theorem dL_law_807 : decode cL_law 807 = .ok (.iload 14, 2) := by decide +kernel
theorem dL_law_809 : decode cL_law 809 = .ok (.if_icmp .ne 52, 3) := by decide +kernel
theorem dL_law_812 : decode cL_law 812 = .ok (.aload_n 1, 1) := by decide +kernel
theorem dL_law_813 : decode cL_law 813 = .ok (.bipush 7, 2) := by decide +kernel
theorem dL_law_815 : decode cL_law 815 = .ok (.invokevirtual 119, 3) := by decide +kernel
theorem dL_law_818 : decode cL_law 818 = .ok (.iload 7, 2) := by decide +kernel
theorem dL_law_820 : decode cL_law 820 = .ok (.iload 14, 2) := by decide +kernel
theorem dL_law_822 : decode cL_law 822 = .ok (.iadd, 1) := by decide +kernel
theorem dL_law_823 : decode cL_law 823 = .ok (.if_icmp .ne 38, 3) := by decide +kernel
theorem dL_law_826 : decode cL_law 826 = .ok (.aload_n 1, 1) := by decide +kernel
theorem dL_law_827 : decode cL_law 827 = .ok (.iconst 0, 1) := by decide +kernel
theorem dL_law_828 : decode cL_law 828 = .ok (.invokevirtual 119, 3) := by decide +kernel
theorem dL_law_831 : decode cL_law 831 = .ok (.iload 8, 2) := by decide +kernel
theorem dL_law_833 : decode cL_law 833 = .ok (.iconst 1, 1) := by decide +kernel
theorem dL_law_834 : decode cL_law 834 = .ok (.iadd, 1) := by decide +kernel
theorem dL_law_835 : decode cL_law 835 = .ok (.if_icmp .ne 26, 3) := by decide +kernel
theorem dL_law_838 : decode cL_law 838 = .ok (.aload_n 1, 1) := by decide +kernel
theorem dL_law_839 : decode cL_law 839 = .ok (.iconst 3, 1) := by decide +kernel
theorem dL_law_840 : decode cL_law 840 = .ok (.invokevirtual 119, 3) := by decide +kernel
theorem dL_law_843 : decode cL_law 843 = .ok (.iload 6, 2) := by decide +kernel
theorem dL_law_845 : decode cL_law 845 = .ok (.iload 14, 2) := by decide +kernel
theorem dL_law_847 : decode cL_law 847 = .ok (.isub, 1) := by decide +kernel
theorem dL_law_848 : decode cL_law 848 = .ok (.if_icmp .lt 13, 3) := by decide +kernel
theorem dL_law_851 : decode cL_law 851 = .ok (.aload_n 1, 1) := by decide +kernel
theorem dL_law_852 : decode cL_law 852 = .ok (.iconst 3, 1) := by decide +kernel
theorem dL_law_853 : decode cL_law 853 = .ok (.invokevirtual 119, 3) := by decide +kernel
theorem dL_law_856 : decode cL_law 856 = .ok (.ldc 137, 2) := by decide +kernel
theorem dL_law_858 : decode cL_law 858 = .ok (.if_icmp .le 5, 3) := by decide +kernel
theorem dL_law_861 : decode cL_law 861 = .ok (.iconst 0, 1) := by decide +kernel
theorem dL_law_862 : decode cL_law 862 = .ok (.ireturn, 1) := by decide +kernel
theorem dL_law_863 : decode cL_law 863 = .ok (.iinc 3 1, 3) := by decide +kernel
theorem dL_law_866 : decode cL_law 866 = .ok (.goto (-844), 3) := by decide +kernel
theorem dL_law_869 : decode cL_law 869 = .ok (.aload_n 2, 1) := by decide +kernel
theorem dL_law_870 : decode cL_law 870 = .ok (.aload_n 1, 1) := by decide +kernel
theorem dL_law_871 : decode cL_law 871 = .ok (.invokevirtual 138, 3) := by decide +kernel
theorem dL_law_874 : decode cL_law 874 = .ok (.ireturn, 1) := by decide +kernel
abbrev vwCl : List vw_C := [(RX0, TX0, 7), (RX1, TX1, 2), (RX2, TX2, 7), (RX3, TX3, 3), (RX4, TX4, 6), (RX5, TX5, 7)]
end
